/-! the words, as the constructors leave them -/
section D2
def x_wl : List Int := [1919905645, 1685024626, 1953460076, 1952543595, 1937007984, 7168366, 7102839, 474214787188, 1936225652, 2003399784, 129116991874419, 1818584692, 26982, 1952998766, 1701606245, 1818325876, 1685024357, 495874044019, 120299592184933, 495875090022, 499984983411]
def x_kl : List Int := [365647, 90090, 380396, 405012, 394913, 388708, 459818, 308857042, 9518, 240023, 8798, 249, 399641, 107681, 7622660, 237458, 90050, 10495135, 191610176, 10506516, 10815598]
def x_k5 : Option (Option Value × gH) → Bool
  | some (_, h) => (List.range 21).all fun i => decide ((x_rJ (x_d (h.2 37) 6) i).toInt = x_wl.getD i 0 ∧ (x_rJ (x_d (h.2 40) 7) i).toInt = x_kl.getD i 0)
  | none => false
theorem x_ok5 : x_k5 (x_r2 x_r1) = true := by decide +kernel
noncomputable def zJW : Nat → Int64 := x_J 37 6
noncomputable def zJK : Nat → Int64 := x_rJ (x_d (x_f 40) 7)
theorem z_words {i : Nat} (hi : i < 21) : (zJW i).toInt = x_wl.getD i 0 ∧ (zJK i).toInt = x_kl.getD i 0 := by
  have h := x_ok5
  rw [x_r2_eq] at h
  exact of_decide_eq_true (List.all_eq_true.mp h i (List.mem_range.mpr hi))
def tnb : Nat → Int → Int → Bool
  | 0, x, y => decide (x = 0) && decide (y = 0)
  | n + 1, x, y => decide (97 ≤ x % 256) && decide (x % 256 ≤ 122) && decide ((y - (x % 256 - 96)) % 27 = 0) && tnb n (x / 256) ((y - (x % 256 - 96)) / 27)
theorem tnb_ok : ∀ {n : Nat} {x y : Int}, tnb n x y = true → TNf n x y := by
  intro n
  induction n with
  | zero =>
    intro x y h
    unfold tnb at h
    rw [Bool.and_eq_true, decide_eq_true_eq, decide_eq_true_eq] at h
    exact h
  | succ n ih =>
    intro x y h
    unfold tnb at h
    rw [Bool.and_eq_true, Bool.and_eq_true, Bool.and_eq_true, decide_eq_true_eq, decide_eq_true_eq, decide_eq_true_eq] at h
    obtain ⟨⟨⟨h1, h2⟩, h3⟩, h4⟩ := h
    exact ⟨x / 256, (y - (x % 256 - 96)) / 27, x % 256, ih h4, h1, h2, by omega, by omega⟩
theorem x_wk1 : ∀ i : Fin 21, ∃ j : Fin 21, ((i.val : Int), (20 + j.val : Int)) ∈ kt ∧ (List.range 9).any (fun n => tnb n (x_wl.getD i.val 0) (x_kl.getD j.val 0)) = true := by decide +kernel
theorem x_wk2 : ∀ j : Fin 21, ∃ i : Fin 21, ((i.val : Int), (20 + j.val : Int)) ∈ kt ∧ (List.range 9).any (fun n => tnb n (x_wl.getD i.val 0) (x_kl.getD j.val 0)) = true := by decide +kernel
theorem x_wk3 : ∀ i : Fin 21, x_wl.getD i.val 0 < 72057594037927936 := by decide +kernel
theorem x_wk4 : ∀ j j' : Fin 21, x_kl.getD j.val 0 = x_kl.getD j'.val 0 → j = j' := by decide +kernel
theorem x_tn {x y : Int} (h : (List.range 9).any (fun n => tnb n x y) = true) : TNi x y := by
  obtain ⟨n, -, hn⟩ := List.any_eq_true.mp h
  exact ⟨n, tnb_ok hn⟩
theorem z_WK : WKx zJW zJK := by
  refine ⟨fun i hi => ?_, fun j hj => ?_, fun i hi => ?_, fun j j' hj hj' e => ?_⟩
  · obtain ⟨j, h1, h2⟩ := x_wk1 ⟨i, hi⟩
    exact ⟨j.val, j.isLt, h1, by rw [(z_words hi).1, (z_words j.isLt).2]; exact x_tn h2⟩
  · obtain ⟨i, h1, h2⟩ := x_wk2 ⟨j, hj⟩
    exact ⟨i.val, i.isLt, h1, by rw [(z_words i.isLt).1, (z_words hj).2]; exact x_tn h2⟩
  · rw [(z_words hi).1]; exact x_wk3 ⟨i, hi⟩
  · have h := x_wk4 ⟨j, hj⟩ ⟨j', hj'⟩ (by rw [← (z_words hj).2, ← (z_words hj').2, e])
    exact congrArg Fin.val h
theorem y_F2 : (y_F 2).toInt = 0 := by decide
theorem x_TP : TPx x_F x_A y_F y_A := ⟨by decide, fun i hi => by rw [y_F2] at hi; omega⟩
theorem x_CX : CX x_P x_F x_A y_F y_A := by
  have f18 : (y_F 18).toInt = 0 := by decide
  have z : ∀ {j : Nat}, j ≠ 41 → y_A j (y_F 18).toInt.toNat = 0 := fun {j} h => i_ext ((y0 h (y_F 18).toInt).trans i_0.symm)
  have p8 : x_P 0 8 = 27 := by decide
  unfold CX
  rw [p8]
  refine ⟨fun q hq => ?_, ?_, fun k k0 k1 => absurd k1 (by rw [show (x_F 27 16).toInt = 0 by decide]; omega)⟩
  · rw [z (by have := rq_in q; omega)]
    have e : q = 0 ∨ q = 1 ∨ q = 2 ∨ q = 3 := by omega
    rcases e with rfl | rfl | rfl | rfl <;> decide
  · rw [z (by decide)]
    decide
theorem x_SC : SCx x_F y_F y_A := by
  refine ⟨by decide, by decide, fun s hs => ?_⟩
  have z := y0 (j := 61) (by decide) (s : Int)
  unfold ai at z
  rw [Int.toNat_natCast] at z
  have e : y_A 61 s = 0 := i_ext (z.trans i_0.symm)
  have e2 : x_F 0 10 = 0 := by decide
  unfold HB
  rw [e, e2]
  exact ⟨fun h => absurd (b_none ⟨s, hs⟩) h, fun h => absurd rfl h⟩
theorem x_W4 : W4 zJW zJK ((340, 20126), x_f) := ⟨(340, 20126), x_f, x_P, x_F, x_A, x_J, y_F, y_A, _, x_heap x_f_4, x_G, .inl ⟨rfl, x_f_4.1, by decide, Nat.le_refl _⟩, x_f_4.2.2.2.2.2.2.2, y_S, x_TP, rfl, rfl, ⟨x_CX, x_SC⟩⟩
end D2
