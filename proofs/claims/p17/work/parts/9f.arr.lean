/-! bars: arrivals; the row of what was seen -/
section A9f
variable {J : Nat → Nat → Nat → Int64}
theorem s_arrivals_5 {x1 : Int32} : ∀ {n : Nat} {P : Nat → Nat → Nat} {F : Nat → Nat → Int32} {A : Nat → Nat → Nat → Int32} {J : Nat → Nat → Nat → Int64} {x2 : Int64} {x4 : Int32}, Gc P F A → 0 ≤ x4.toInt ∧ x4.toInt ≤ 6 → 100 - x4.toInt < (n : Int) → ok (e_Evening_arrivals_5 n P F A J x1 x2 x4) (fun r => QKc P r.2.1 F r.2.2.1 A r.2.2.2.1) := by
  intro n
  induction n with
  | zero => intro P F A J x2 x4 G hx hn; exact absurd hn (by omega)
  | succ n ih =>
    intro P F A J x2 x4 G hx hn
    have l0 : (0 : Int32).toInt = 0 := by decide
    have l1 : (1 : Int32).toInt = 1 := by decide
    have e4 : (x4 + 1).toInt = x4.toInt + 1 := by rw [i_add (by omega) (by omega), l1]
    have a2 : 0 ≤ (F (P 32 4) 17).toInt ∧ (F (P 32 4) 17).toInt ≤ 6 := by have := G.1.1 (P 32 4) 17; rw [G.k324] at this; exact this
    have f82 : x4.toInt < 6 → ∀ {P2 F2 A2 J2} {x6 : Int32}, QKc P P2 F F2 A A2 → ok (e_Evening_arrivals_82 (e_Evening_arrivals_5 n) n P2 F2 A2 J2 x1 x2 x4 x6) (fun r => QKc P r.2.1 F r.2.2.1 A r.2.2.2.1) := by
      intro hlt P2 F2 A2 J2 x6 q
      have G2 := q.g G
      unfold e_Evening_arrivals_82
      refine ok_chk G2.k324 ?_
      refine ok_cond (fun _ => ?_) (fun _ => ?_)
      · unfold e_Evening_arrivals_110
        exact ok_mono (ih G2 (by omega) (by omega)) (fun r hr => q.tr hr)
      · unfold e_Evening_arrivals_110
        exact ok_mono (ih G2 (by omega) (by omega)) (fun r hr => q.tr hr)
    unfold e_Evening_arrivals_5
    refine ok_chk G.k324 ?_
    refine ok_cond (fun _ => ok_some (QKc.rfl' G.1)) (fun c => ?_)
    rw [i_nge] at c
    have hlt6 : x4.toInt < 6 := by omega
    refine ok_ldc (K := 2) G.1 (by decide) (by omega) (by omega) ?_
    intro v3 v3e _
    refine ok_cond (fun _ => f82 hlt6 (QKc.rfl' G.1)) (fun c3 => ?_)
    rw [i_nlt] at c3
    have lv := G.2.2.2.2.1 x4.toInt (by omega) (by omega)
    have l2 : v3.toInt < 36 ∧ v3.toInt % 6 < ci A (P 0 8) 5 (v3.toInt / 6) := by
      rw [v3e]
      rcases lv with z | z
      · omega
      · exact ⟨z.2.1, z.2.2⟩
    refine ok_chk G.k324 ?_
    refine ok_div1 (by decide) ?_
    intro v6 e6
    have d6 : v6.toInt = v3.toInt / 6 := by rw [e6]; exact i_div6 (by omega)
    rw [G.2.2.1]
    refine ok_ldc G.1 G.k08 (by omega) (by omega) ?_
    intro v7 v7e v7r
    change -1 ≤ v7.toInt ∧ v7.toInt ≤ 7 at v7r
    have h7 := G.2.2.2.1.2.2.1 v6.toInt (by omega) (by omega) (by rw [d6]; omega)
    refine ok_chk G.k08 ?_
    refine ok_chk G.k08 ?_
    refine ok_ldc G.1 G.k08 (by omega) (by omega) ?_
    intro v10 v10e v10r
    change -1 ≤ v10.toInt ∧ v10.toInt ≤ 7 at v10r
    rw [G.2.2.1] at c
    have h10 := G.2.2.2.1.2.1 x4.toInt (by omega) c
    refine ok_call (s_between G.k08 G.1 G.2.2.2.1 ⟨by omega, by omega⟩ ⟨by omega, by omega⟩ (by omega)) ?_
    rintro ⟨v, P2, F2, A2, J2⟩ ⟨g1, g2, g3, g4⟩
    dsimp only at g1 g2 g3 g4 ⊢
    subst g1
    exact f82 hlt6 ⟨fun _ _ _ => rfl, g4, ⟨fun q hq => ⟨fun k => g2 q k (by omega), fun o _ => g3 q o (by omega)⟩, fun r a _ _ => g3 r 3 (by simp), fun k => g2 4 k (by simp), g2 0 10 (by simp), fun k => g2 1 k (by simp)⟩⟩
theorem s_arrivals {n : Nat} {P : Nat → Nat → Nat} {F : Nat → Nat → Int32} {A : Nat → Nat → Nat → Int32} {x1 : Int32} (G : Gc P F A) (hn : 200 ≤ n) : ok (e_Evening_arrivals n P F A J x1) (fun r => QKc P r.2.1 F r.2.2.1 A r.2.2.2.1) := by
  have l0 : (0 : Int32).toInt = 0 := by decide
  unfold e_Evening_arrivals
  exact s_arrivals_5 G (by decide) (by omega)
end A9f
theorem i_and {x m : Int32} (h : 0 ≤ m.toInt) : 0 ≤ (x &&& m).toInt ∧ (x &&& m).toInt ≤ m.toInt := by
  have hm : m.toBitVec.msb = false := by
    have e : m.toInt = m.toBitVec.toInt := rfl
    rw [e, BitVec.toInt_eq_msb_cond] at h
    cases hb : m.toBitVec.msb with
    | false => rfl
    | true =>
      rw [hb] at h
      simp only [if_true] at h
      have := m.toBitVec.isLt
      omega
  have e1 : (x &&& m).toInt = (x.toBitVec &&& m.toBitVec).toInt := rfl
  have e2 : m.toInt = m.toBitVec.toInt := rfl
  rw [e1, e2, BitVec.toInt_eq_msb_cond, BitVec.toInt_eq_msb_cond, BitVec.msb_and, hm, Bool.and_false]
  simp only [Bool.false_eq_true, if_false]
  have : (x.toBitVec &&& m.toBitVec).toNat ≤ m.toBitVec.toNat := by
    rw [BitVec.toNat_and]
    exact Nat.and_le_right
  omega
theorem b_sets : ∀ d : Fin 13, (2 * ((1 : Int32) <<< (Int32.ofNat d.val &&& 31))).toInt = 2 ^ (d.val + 1) ∧ ((1 : Int32) <<< (Int32.ofNat d.val &&& 31)).toInt ≤ 4096 ∧ 1 ≤ ((1 : Int32) <<< (Int32.ofNat d.val &&& 31)).toInt := by decide
/-- the cell of a row of longs -/
abbrev jC (L : Nat) (f : Nat → Int64) : gE := .inl (3, L, .inr (.inl f))
section S9f
variable {t : gT} {d M pc : Nat} {loc : List (Nat × Value)} {st : List Value} {c : Nat × Nat} {B : Nat → List gE} {P : Nat → Nat → Nat} {F : Nat → Nat → Int32} {A : Nat → Nat → Nat → Int32} {J : Nat → Nat → Nat → Int64} {j L : Nat} {f : Nat → Int64} {Q : Option Value × gH → Prop} {R : List Nat}
/-- a run that comes to an end, and what holds of it -/
def kx (t : gT) (d M pc : Nat) (loc : List (Nat × Value)) (st : List Value) (h : gH) (Q : Option Value × gH → Prop) : Prop := ∃ z, k_run t c_lg d M pc loc st h z ∧ Q z
theorem kxI {h h' : gH} {d' M' pc' : Nat} {loc' : List (Nat × Value)} {st' : List Value} (i : ∀ z, k_run t c_lg d' M' pc' loc' st' h' z → k_run t c_lg d M pc loc st h z) (k : kx t d' M' pc' loc' st' h' Q) : kx t d M pc loc st h Q := let ⟨z, a, b⟩ := k; ⟨z, i z a, b⟩
theorem g39_get (hB : (B 39)[j]? = some (jC L f)) (hj : j < 1024) : g_get (c_h c B P F A J) (39936 + j) = some (jC L f) := (c_get (c := c) (P := P) (F := F) (A := A) (J := J) (r := 39) (o := j) (K := 99) rfl hj).trans hB
theorem g39_set {e : gE} (hj : j < 1024) : g_set (c_h c B P F A J) (39936 + j) e = c_h c (va_up B 39 ((B 39).set j e)) P F A J := by
  unfold g_set
  have h1 : (39936 + j) / 1024 = 39 := by omega
  have h2 : (39936 + j) % 1024 = j := by omega
  rw [h1, h2]
  refine Prod.ext rfl ?_
  funext q
  show va_up (c_f B P F A J) 39 ((c_f B P F A J 39).set j e) q = c_f (va_up B 39 ((B 39).set j e)) P F A J q
  by_cases hq : q = 39
  · subst hq
    rw [c_up_same]
    show (B 39).set j e = va_up B 39 ((B 39).set j e) 39
    rw [c_up_same]
  · rw [c_up_ne hq]
    unfold c_f
    rw [c_up_ne hq]
theorem k39_len (hI : (k_mt M).2 pc = some (.arraylength, R)) (hB : (B 39)[j]? = some (jC L f)) (hj : j < 1024) (k : kx t d M (pc + 1) loc (.int (Int32.ofNat L) :: st) (c_h c B P F A J) Q) : kx t d M pc loc (.ref (39936 + j) :: st) (c_h c B P F A J) Q :=
  kxI (fun z hz => k_cln 39 j (K := 99) rfl hI rfl hB hz (by decide) hj) k
theorem k39_ld {i : Int32} (hI : (k_mt M).2 pc = some (.laload, R)) (hB : (B 39)[j]? = some (jC L f)) (hj : j < 1024) (h0 : 0 ≤ i.toInt) (h1 : i.toInt < (L : Int)) (k : ∀ v, kx t d M (pc + 1) loc (.long v :: st) (c_h c B P F A J) Q) : kx t d M pc loc (.int i :: .ref (39936 + j) :: st) (c_h c B P F A J) Q :=
  kxI (fun z hz => k_lald hI (g39_get hB hj) (i_in h0 h1) hz) (k _)
theorem k39_st {i : Int32} {x : Int64} (hI : (k_mt M).2 pc = some (.lastore, R)) (hB : (B 39)[j]? = some (jC L f)) (hj : j < 1024) (h0 : 0 ≤ i.toInt) (h1 : i.toInt < (L : Int)) (k : ∀ f', kx t d M (pc + 1) loc st (c_h c (va_up B 39 ((B 39).set j (jC L f'))) P F A J) Q) : kx t d M pc loc (.long x :: .int i :: .ref (39936 + j) :: st) (c_h c B P F A J) Q :=
  kxI (fun z hz => k_last hI (g39_get hB hj) (i_in h0 h1) (g39_set hj) hz) (k _)
end S9f
