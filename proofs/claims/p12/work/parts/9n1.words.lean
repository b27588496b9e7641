/-! the words, as the constructors leave them -/
section D2
def x_wl : List Int := [1919905645, 1685024626, 1953460076, 1952543595, 1937007984, 7168366, 7102839, 474214787188, 1936225652, 2003399784, 129116991874419, 1818584692, 26982, 1952998766, 1701606245, 1818325876, 1685024357, 495874044019, 120299592184933, 495875090022, 499984983411]
def x_kl : List Int := [365647, 90090, 380396, 405012, 394913, 388708, 459818, 308857042, 9518, 240023, 8798, 249, 399641, 107681, 7622660, 237458, 90050, 10495135, 191610176, 10506516, 10815598]
def x_k5 : Option (Option Value × gH) → Bool
  | some (_, h) => (List.range 21).all fun i => decide ((x_rJ (x_d (h.2 37) 6) i).toInt = x_wl.getD i 0 ∧ (x_rJ (x_d (h.2 40) 7) i).toInt = x_kl.getD i 0)
  | none => false
theorem x_ok5 : x_k5 (x_r2 x_r1) = true := by decide +kernel
noncomputable def zJW : Nat → Int64 := x_J 37 6
noncomputable def zJK : Nat → Int64 := x_rJ (x_d (x_f 40) 7)
theorem z_words {i : Nat} (hi : i < 21) : (zJW i).toInt = x_wl.getD i 0 ∧ (zJK i).toInt = x_kl.getD i 0 := by
  have h := x_ok5
  rw [x_r2_eq] at h
  exact of_decide_eq_true (List.all_eq_true.mp h i (List.mem_range.mpr hi))
def tnb : Nat → Int → Int → Bool
  | 0, x, y => decide (x = 0) && decide (y = 0)
  | n + 1, x, y => decide (97 ≤ x % 256) && decide (x % 256 ≤ 122) && decide ((y - (x % 256 - 96)) % 27 = 0) && tnb n (x / 256) ((y - (x % 256 - 96)) / 27)
theorem tnb_ok : ∀ {n : Nat} {x y : Int}, tnb n x y = true → TNf n x y := by
  intro n
  induction n with
  | zero =>
    intro x y h
    unfold tnb at h
    rw [Bool.and_eq_true, decide_eq_true_eq, decide_eq_true_eq] at h
    exact h
  | succ n ih =>
    intro x y h
    unfold tnb at h
    rw [Bool.and_eq_true, Bool.and_eq_true, Bool.and_eq_true, decide_eq_true_eq, decide_eq_true_eq, decide_eq_true_eq] at h
    obtain ⟨⟨⟨h1, h2⟩, h3⟩, h4⟩ := h
    exact ⟨x / 256, (y - (x % 256 - 96)) / 27, x % 256, ih h4, h1, h2, by omega, by omega⟩
theorem x_wk1 : ∀ i : Fin 21, ∃ j : Fin 21, ((i.val : Int), (20 + j.val : Int)) ∈ kt ∧ (List.range 9).any (fun n => tnb n (x_wl.getD i.val 0) (x_kl.getD j.val 0)) = true := by decide +kernel
theorem x_wk2 : ∀ j : Fin 21, ∃ i : Fin 21, ((i.val : Int), (20 + j.val : Int)) ∈ kt ∧ (List.range 9).any (fun n => tnb n (x_wl.getD i.val 0) (x_kl.getD j.val 0)) = true := by decide +kernel
theorem x_wk3 : ∀ i : Fin 21, x_wl.getD i.val 0 < 72057594037927936 := by decide +kernel
theorem x_wk4 : ∀ j j' : Fin 21, x_kl.getD j.val 0 = x_kl.getD j'.val 0 → j = j' := by decide +kernel
theorem x_tn {x y : Int} (h : (List.range 9).any (fun n => tnb n x y) = true) : TNi x y := by
  obtain ⟨n, -, hn⟩ := List.any_eq_true.mp h
  exact ⟨n, tnb_ok hn⟩
theorem z_WK : WKx zJW zJK := by
  refine ⟨fun i hi => ?_, fun j hj => ?_, fun i hi => ?_, fun j j' hj hj' e => ?_⟩
  · obtain ⟨j, h1, h2⟩ := x_wk1 ⟨i, hi⟩
    exact ⟨j.val, j.isLt, h1, by rw [(z_words hi).1, (z_words j.isLt).2]; exact x_tn h2⟩
  · obtain ⟨i, h1, h2⟩ := x_wk2 ⟨j, hj⟩
    exact ⟨i.val, i.isLt, h1, by rw [(z_words i.isLt).1, (z_words hj).2]; exact x_tn h2⟩
  · rw [(z_words hi).1]; exact x_wk3 ⟨i, hi⟩
  · have h := x_wk4 ⟨j, hj⟩ ⟨j', hj'⟩ (by rw [← (z_words hj).2, ← (z_words hj').2, e])
    exact congrArg Fin.val h
theorem y_F2 : (y_F 2).toInt = 0 := by decide
theorem x_TP : TPx x_F x_A y_F y_A := ⟨by decide, fun i hi => by rw [y_F2] at hi; omega⟩
theorem x_CX : CX x_P x_F x_A y_F y_A := by
  have f18 : (y_F 18).toInt = 0 := by decide
  have z : ∀ {j : Nat}, j ≠ 41 → y_A j (y_F 18).toInt.toNat = 0 := fun {j} h => i_ext ((y0 h (y_F 18).toInt).trans i_0.symm)
  have p8 : x_P 0 8 = 27 := by decide
  unfold CX
  rw [p8]
  refine ⟨fun q hq => ?_, ?_, fun k k0 k1 => absurd k1 (by rw [show (x_F 27 16).toInt = 0 by decide]; omega)⟩
  · rw [z (by have := rq_in q; omega)]
    have e : q = 0 ∨ q = 1 ∨ q = 2 ∨ q = 3 := by omega
    rcases e with rfl | rfl | rfl | rfl <;> decide
  · rw [z (by decide)]
    decide
theorem x_SC : SCx x_F y_F y_A := by
  refine ⟨by decide, by decide, fun s hs => ?_⟩
  have z := y0 (j := 61) (by decide) (s : Int)
  unfold ai at z
  rw [Int.toNat_natCast] at z
  have e : y_A 61 s = 0 := i_ext (z.trans i_0.symm)
  have e2 : x_F 0 10 = 0 := by decide
  unfold HB
  rw [e, e2]
  exact ⟨fun h => absurd (b_none ⟨s, hs⟩) h, fun h => absurd rfl h⟩
/-- the evening of a fresh object, row by row -/
def x_L7 : List (Nat × Nat × Nat) := [(2, 1, 36), (2, 2, 6), (2, 4, 6)]
def x_k7 : Option (Option Value × gH) → Bool
  | some (_, h) => x_L7.all (fun q => (List.range q.2.2).all fun i => decide ((x_rI (x_d (h.2 q.1) q.2.1) i).toInt = 0))
  | none => false
theorem x_ok7 : x_k7 (x_r2 x_r1) = true := by decide +kernel
theorem x_z7 {q : Nat × Nat × Nat} (hq : q ∈ x_L7) {k : Int} (k0 : 0 ≤ k) (k1 : k < q.2.2) : ci x_A q.1 q.2.1 k = 0 := by
  have h := x_ok7
  rw [x_r2_eq] at h
  exact of_decide_eq_true (List.all_eq_true.mp (List.all_eq_true.mp h q hq) k.toNat (List.mem_range.mpr (by omega)))
theorem x_XR : XR x_P x_F x_A y_F y_A := by
  have p8 : x_P 0 8 = 27 := by decide
  have f18 : (y_F 18).toInt = 0 := by decide
  have cx := x_CX
  unfold CX at cx
  rw [p8] at cx
  have R := x_Rc
  have m0 : (x_F 27 17).toInt = 0 := by decide
  have t0 : (x_F 27 16).toInt = 0 := by decide
  have d0 : (x_F 27 14).toInt = 0 := by decide
  have s5 : ∀ t, 0 ≤ t → 0 ≤ ci x_A 27 5 t ∧ ci x_A 27 5 t ≤ 6 ∧ ((x_F 27 16).toInt ≤ t → t < 6 → ci x_A 27 5 t = 0) := fun t t0 => by
    have w : 0 ≤ ci x_A 27 5 t ∧ ci x_A 27 5 t ≤ 6 := R.2 27 5 t t0
    refine ⟨w.1, w.2, fun _ b => ?_⟩
    have z : 0 ≤ ci x_A 27 5 t ∧ ci x_A 27 5 t ≤ 0 := x_lo (q := (27, 5, 6, 0, 0)) (by decide) (i := t.toNat) (by show t.toNat < 6; omega)
    omega
  have h40 : ∀ b, 0 ≤ b → ai y_A 40 b ≤ 840 := fun b _ => by rw [y0 (by decide)]; decide
  have N : NHx 27 x_F x_A y_F y_A := by
    refine ⟨cx, ⟨fun k k0 k1 => absurd k1 (by omega), fun k k0 k1 => absurd k1 (by omega), fun t u a b => absurd b (by omega), fun k k0 k1 => absurd k1 (by omega), ?_⟩, fun k k0 k1 => absurd k1 (by omega), ⟨fun k k0 k1 => absurd k1 (by omega), fun k k0 k1 => absurd k1 (by omega), fun t u a b => absurd b (by omega), fun k k0 k1 => absurd k1 (by omega), by decide⟩, by rw [f18]; decide, s5, ⟨by decide, by decide, by decide, by decide, by decide⟩, by decide, h40, by decide⟩
    unfold RWn
    rw [f18]
    decide
  have e74 : (y_F 74).toInt = 0 := by decide
  have s3 : SS 27 x_F x_A (x_F 2) (x_A 2) (fun i => ai y_A 47 i) := by
    refine ⟨fun k k0 k1 => ?_, fun k k0 k1 => ?_, fun k k0 k1 => ?_, fun m a b => absurd b (by omega), ?_, ?_, by decide, BDa.z (fun k k0 k1 => x_z7 (q := (2, 1, 36)) (by decide) k0 k1) (fun k k0 k1 => by rw [show (x_A 2 2 k.toNat).toInt = 0 from x_z7 (q := (2, 2, 6)) (by decide) k0 k1]; decide)⟩
    · show ci x_A 2 1 k = ai y_A 47 (6 + k)
      rw [y0 (by decide)]
      exact x_z7 (q := (2, 1, 36)) (by decide) k0 k1
    · have e : ci x_A 2 2 k = 0 := x_z7 (q := (2, 2, 6)) (by decide) k0 k1
      show ci x_A 2 2 k = ai y_A 47 k ∧ 0 ≤ ci x_A 2 2 k
      rw [y0 (by decide), e]
      exact ⟨rfl, by decide⟩
    · show ci x_A 2 4 k = ai y_A 47 (72 + k)
      rw [y0 (by decide)]
      exact x_z7 (q := (2, 4, 6)) (by decide) k0 k1
    · show (x_F 2 7).toInt = ai y_A 47 78
      rw [y0 (by decide)]
      decide
    · show (x_F 2 8).toInt = ai y_A 47 79
      rw [y0 (by decide)]
      decide
  unfold XR
  rw [p8]
  refine ⟨N, x_SC, ⟨s3, fun u u0 u1 => absurd u1 (by omega), fun s hs hb => ?_⟩, .inl (by decide), fun k k0 k1 => absurd k1 (by rw [show (x_F 25 2).toInt = 0 by decide]; omega)⟩
  have w := y0 (j := 61) (by decide) (s : Int)
  unfold ai at w
  rw [Int.toNat_natCast] at w
  exact absurd (i_ext (w.trans i_0.symm)) hb
theorem x_W4 : W4 zJW zJK ((340, 20126), x_f) := ⟨(340, 20126), x_f, x_P, x_F, x_A, x_J, y_F, y_A, _, x_heap x_f_4, x_G, .inl ⟨rfl, x_f_4.1, by decide, Nat.le_refl _⟩, x_f_4.2.2.2.2.2.2.2, y_S, x_TP, rfl, rfl, x_XR⟩
end D2
