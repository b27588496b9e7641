/-! the first evening of the reference, by values -/
section B7z
variable {s : Int} {F : Nat → Int32} {A A' A1 : Nat → Nat → Int32} {J : Nat → Nat → Int64} {x1 : Int32}
/-- the first evening out of what was told -/
def BGv (s : Int) (A A' : Nat → Nat → Int32) : Prop := (∀ k : Int, 0 ≤ k → k < 36 → ai A' 47 (6 + k) = 0) ∧ (∀ k : Int, 0 ≤ k → k < 6 → (k < ai A 19 s → ai A' 47 k = ai A 21 (6 * s + k)) ∧ (ai A 19 s ≤ k → ai A' 47 k = 0)) ∧ (∀ k : Int, 0 ≤ k → k < 6 → (k < ai A 17 s → ai A' 47 (72 + k) = ai A 18 (6 * s + k)) ∧ (ai A 17 s ≤ k → ai A' 47 (72 + k) = 0)) ∧ (∀ m : Int, 0 ≤ m → m < ai A 29 s → ai A' 47 (42 + m) = ai A 31 (6 * s + m) ∧ ai A' 47 (48 + m) = ai A 32 (6 * s + m) ∧ ai A' 47 (66 + m) = -2) ∧ (ai A' 47 78 = (shv (fun k => ai A 16 (12 * s + k)) (ai A 12 s).toNat).toInt) ∧ ((∀ m : Int, 0 ≤ m → m < 6 → ai A' 47 (54 + m) = 0 ∧ ai A' 47 (60 + m) = 0) ∧ ai A' 47 79 = 0)
theorem BGv.fr (h : BGv s A A1) (e : A' 47 = A1 47) : BGv s A A' := by
  unfold BGv
  rw [ai_fr e]
  exact h
theorem ok_and {α : Type} {o : Option α} {Q R : α → Prop} (h : ok o Q) (k : po o R) : ok o (fun a => Q a ∧ R a) := by
  obtain ⟨a, e, q⟩ := h
  exact ⟨a, e, q, k a e⟩
abbrev bR : Type := Unit × (Nat → Int32) × (Nat → Nat → Int32) × (Nat → Nat → Int64)
/-- only row 47 changes, and there only where p says -/
def B47 (F : Nat → Int32) (A : Nat → Nat → Int32) (p : Int → Prop) (r : bR) : Prop := r.2.1 = F ∧ (∀ q, q ≠ 47 → r.2.2.1 q = A q) ∧ ∀ i, 0 ≤ i → ¬ p i → ai r.2.2.1 47 i = ai A 47 i
theorem B47.st {p : Int → Prop} {x : Int} {r : bR} (h : B47 F A1 p r) (o : ∀ q, q ≠ 47 → A1 q = A q) (n : ∀ i, 0 ≤ i → i ≠ x → ai A1 47 i = ai A 47 i) (hp : p x) : B47 F A p r :=
  ⟨h.1, fun q hq => (h.2.1 q hq).trans (o q hq), fun i i0 hi => (h.2.2 i i0 hi).trans (n i i0 (fun e => hi (e ▸ hp)))⟩
theorem B47.mono {p p' : Int → Prop} {r : bR} (h : B47 F A p r) (k : ∀ i, p i → p' i) : B47 F A p' r := ⟨h.1, h.2.1, fun i i0 hi => h.2.2 i i0 (fun e => hi (k i e))⟩
theorem v_begins_176 (hF : IFm F) : ∀ {n : Nat} {A : Nat → Nat → Int32} {J : Nat → Nat → Int64} {x1 : Int32}, IAm A → 0 ≤ x1.toInt → x1.toInt ≤ ai A 12 (F 18).toInt → ai A 47 78 = (shv (fun k => ai A 16 (12 * (F 18).toInt + k)) x1.toInt.toNat).toInt → po (d_begins_176 n F A J x1) (fun r => B47 F A (fun i => i = 78) r ∧ ai r.2.2.1 47 78 = (shv (fun k => ai A 16 (12 * (F 18).toInt + k)) (ai A 12 (F 18).toInt).toNat).toInt) := by
  have l78 : (78 : Int32).toInt = 78 := by decide
  intro n
  induction n with
  | zero => intro A J x1 _ _ _ _ r hr; cases hr
  | succ n ih =>
    intro A J x1 hA h0 h1 hv
    have r18 : 0 ≤ (F 18).toInt ∧ (F 18).toInt ≤ 1 := hF 18
    have a12 : 0 ≤ ai A 12 (F 18).toInt ∧ ai A 12 (F 18).toInt ≤ 12 := hA 12 (F 18).toInt r18.1
    unfold d_begins_176
    refine po_bl (fun v18 e18 => ?_)
    have v18e : v18.toInt = ai A 12 (F 18).toInt := by rw [(gg_ld e18).2.2]; rfl
    refine po_cond (fun c => ?_) (fun c => ?_)
    · rw [i_ge, v18e] at c
      have e : x1.toInt = ai A 12 (F 18).toInt := by omega
      rw [e] at hv
      exact po_some ⟨⟨rfl, fun _ _ => rfl, fun _ _ _ => rfl⟩, hv⟩
    · rw [i_nge, v18e] at c
      have em := i_mulL (c := 12) (k := 12) (x := F 18) (by decide) (by omega) (by omega)
      have ei := i_add (x := 12 * F 18) (y := x1) (by omega) (by omega)
      have e1 := i_add (x := x1) (y := 1) (by rw [i_1]; omega) (by rw [i_1]; omega)
      rw [i_1] at e1
      have en : (x1 + 1).toInt.toNat = x1.toInt.toNat + 1 := by omega
      have ec : ((x1.toInt.toNat : Nat) : Int) = x1.toInt := by omega
      refine po_bl (fun v20 e20 => ?_)
      have v20e : v20.toInt = ai A 16 (12 * (F 18).toInt + x1.toInt) := by rw [(gg_ld e20).2.2, ei, em]; rfl
      refine po_cond (fun c2 => ?_) (fun c2 => ?_)
      · rw [i_eq, v20e, i_0] at c2
        unfold d_begins_219
        refine ih hA (by omega) (by omega) ?_
        rw [en, shv_s, ec, if_pos c2]
        exact hv
      · rw [i_neq, v20e, i_0] at c2
        refine po_bl (fun v22 e22 => ?_)
        have v22e : v22 = shv (fun k => ai A 16 (12 * (F 18).toInt + k)) x1.toInt.toNat := i_ext (by rw [(gg_ld e22).2.2, ← hv, l78]; rfl)
        refine po_bl (fun A23 e23 => ?_)
        have a23 := gg_st e23
        rw [l78] at a23
        have hA' : IAm A23 := by
          intro j i hi
          by_cases ej : j = 47
          · subst ej; trivial
          · rw [ai_fr (a23.2.2.1 j ej)]; exact hA j i hi
        have o12 := ai_fr (a23.2.2.1 12 (by decide))
        have o16 := ai_fr (a23.2.2.1 16 (by decide))
        have g := ih (J := J) (x1 := x1 + 1) hA' (by omega) (by rw [o12]; omega) (by
          rw [o16, en, shv_s, ec, if_neg c2, a23.2.2.2.1, v22e]
          have ex : Int32.ofNat x1.toInt.toNat = x1 := i_ext (by rw [Int32.toInt_ofNat_of_lt (by omega)]; omega)
          rw [ex])
        rw [o12, o16] at g
        exact po_mono g (fun r hr => ⟨hr.1.st a23.2.2.1 a23.2.2.2.2 rfl, hr.2⟩)
theorem v_begins_132 (hF : IFm F) : ∀ {n : Nat} {A : Nat → Nat → Int32} {J : Nat → Nat → Int64} {x1 : Int32}, IAm A → 0 ≤ x1.toInt → x1.toInt ≤ ai A 17 (F 18).toInt → ai A 47 78 = 0 → (∀ k : Int, 0 ≤ k → k < x1.toInt → ai A 47 (72 + k) = ai A 18 (6 * (F 18).toInt + k)) → po (d_begins_132 n F A J x1) (fun r => B47 F A (fun i => i = 78 ∨ (72 ≤ i ∧ i < 72 + ai A 17 (F 18).toInt)) r ∧ ai r.2.2.1 47 78 = (shv (fun k => ai A 16 (12 * (F 18).toInt + k)) (ai A 12 (F 18).toInt).toNat).toInt ∧ ∀ k : Int, 0 ≤ k → k < ai A 17 (F 18).toInt → ai r.2.2.1 47 (72 + k) = ai A 18 (6 * (F 18).toInt + k)) := by
  intro n
  induction n with
  | zero => intro A J x1 _ _ _ _ _ r hr; cases hr
  | succ n ih =>
    intro A J x1 hA h0 h1 hz hv
    have l72 : (72 : Int32).toInt = 72 := by decide
    have r18 : 0 ≤ (F 18).toInt ∧ (F 18).toInt ≤ 1 := hF 18
    have a17 : 0 ≤ ai A 17 (F 18).toInt ∧ ai A 17 (F 18).toInt ≤ 6 := hA 17 (F 18).toInt r18.1
    have a12 : 0 ≤ ai A 12 (F 18).toInt ∧ ai A 12 (F 18).toInt ≤ 12 := hA 12 (F 18).toInt r18.1
    unfold d_begins_132
    refine po_bl (fun v14 e14 => ?_)
    have v14e : v14.toInt = ai A 17 (F 18).toInt := by rw [(gg_ld e14).2.2]; rfl
    refine po_cond (fun c => ?_) (fun c => ?_)
    · rw [i_ge, v14e] at c
      refine po_mono (v_begins_176 hF hA (by decide) (by rw [i_0]; omega) (by rw [i_0]; exact hz)) (fun r hr => ⟨hr.1.mono (fun i h => .inl h), hr.2, fun k k0 k1 => ?_⟩)
      rw [hr.1.2.2 (72 + k) (by omega) (by omega)]
      exact hv k k0 (by omega)
    · rw [i_nge, v14e] at c
      have em := i_mulL (c := 6) (k := 6) (x := F 18) (by decide) (by omega) (by omega)
      have ei := i_add (x := 6 * F 18) (y := x1) (by omega) (by omega)
      have e1 := i_add (x := x1) (y := 1) (by rw [i_1]; omega) (by rw [i_1]; omega)
      have e7 := i_add (x := 72) (y := x1) (by rw [l72]; omega) (by rw [l72]; omega)
      rw [i_1] at e1
      rw [l72] at e7
      refine po_bl (fun v16 e16 => ?_)
      have v16e : v16.toInt = ai A 18 (6 * (F 18).toInt + x1.toInt) := by rw [(gg_ld e16).2.2, ei, em]; rfl
      refine po_bl (fun A17 eA => ?_)
      have aA := gg_st eA
      rw [e7] at aA
      have hA' : IAm A17 := by
        intro j i hi
        by_cases ej : j = 47
        · subst ej; trivial
        · rw [ai_fr (aA.2.2.1 j ej)]; exact hA j i hi
      have o17 := ai_fr (aA.2.2.1 17 (by decide))
      have o18 := ai_fr (aA.2.2.1 18 (by decide))
      have o16 := ai_fr (aA.2.2.1 16 (by decide))
      have o12 := ai_fr (aA.2.2.1 12 (by decide))
      have g := ih (J := J) (x1 := x1 + 1) hA' (by omega) (by rw [o17]; omega) (by rw [aA.2.2.2.2 78 (by decide) (by omega)]; exact hz) (fun k k0 k1 => by
        rw [o18]
        by_cases e : k = x1.toInt
        · rw [e, aA.2.2.2.1, v16e]
        · rw [aA.2.2.2.2 (72 + k) (by omega) (by omega)]; exact hv k k0 (by omega))
      rw [o17, o18, o16, o12] at g
      exact po_mono g (fun r hr => ⟨hr.1.st aA.2.2.1 aA.2.2.2.2 (.inr ⟨by omega, by omega⟩), hr.2⟩)
theorem v_begins_59 (hF : IFm F) : ∀ {n : Nat} {A : Nat → Nat → Int32} {J : Nat → Nat → Int64} {x1 : Int32}, IAm A → 0 ≤ x1.toInt → x1.toInt ≤ ai A 29 (F 18).toInt → ai A 47 78 = 0 → (∀ m : Int, 0 ≤ m → m < x1.toInt → ai A 47 (42 + m) = ai A 31 (6 * (F 18).toInt + m) ∧ ai A 47 (48 + m) = ai A 32 (6 * (F 18).toInt + m) ∧ ai A 47 (66 + m) = -2) → po (d_begins_59 n F A J x1) (fun r => B47 F A (fun i => i = 78 ∨ (72 ≤ i ∧ i < 72 + ai A 17 (F 18).toInt) ∨ (42 ≤ i ∧ i < 54) ∨ (66 ≤ i ∧ i < 72)) r ∧ ai r.2.2.1 47 78 = (shv (fun k => ai A 16 (12 * (F 18).toInt + k)) (ai A 12 (F 18).toInt).toNat).toInt ∧ (∀ k : Int, 0 ≤ k → k < ai A 17 (F 18).toInt → ai r.2.2.1 47 (72 + k) = ai A 18 (6 * (F 18).toInt + k)) ∧ ∀ m : Int, 0 ≤ m → m < ai A 29 (F 18).toInt → ai r.2.2.1 47 (42 + m) = ai A 31 (6 * (F 18).toInt + m) ∧ ai r.2.2.1 47 (48 + m) = ai A 32 (6 * (F 18).toInt + m) ∧ ai r.2.2.1 47 (66 + m) = -2) := by
  intro n
  induction n with
  | zero => intro A J x1 _ _ _ _ _ r hr; cases hr
  | succ n ih =>
    intro A J x1 hA h0 h1 hz hv
    have l42 : (42 : Int32).toInt = 42 := by decide
    have l48 : (48 : Int32).toInt = 48 := by decide
    have l66 : (66 : Int32).toInt = 66 := by decide
    have lm2 : ((-2 : Int32)).toInt = -2 := by decide
    have r18 : 0 ≤ (F 18).toInt ∧ (F 18).toInt ≤ 1 := hF 18
    have a29 : 0 ≤ ai A 29 (F 18).toInt ∧ ai A 29 (F 18).toInt ≤ 6 := hA 29 (F 18).toInt r18.1
    have a17 : 0 ≤ ai A 17 (F 18).toInt ∧ ai A 17 (F 18).toInt ≤ 6 := hA 17 (F 18).toInt r18.1
    unfold d_begins_59 d_menNow
    refine po_call (R := fun v => v.toInt = ai A 29 (F 18).toInt) (po_bl (fun v e => po_some (by rw [(gg_ld e).2.2]; rfl))) ?_
    intro v7 v7e
    refine po_cond (fun c => ?_) (fun c => ?_)
    · rw [i_ge, v7e] at c
      refine po_mono (v_begins_132 hF hA (by decide) (by rw [i_0]; omega) hz (fun k k0 k1 => absurd k1 (by rw [i_0]; omega))) (fun r hr => ⟨hr.1.mono (fun i h => by omega), hr.2.1, hr.2.2, fun m m0 m1 => ?_⟩)
      have f := hr.1.2.2
      rw [f (42 + m) (by omega) (by omega), f (48 + m) (by omega) (by omega), f (66 + m) (by omega) (by omega)]
      exact hv m m0 (by omega)
    · rw [i_nge, v7e] at c
      have em := i_mulL (c := 6) (k := 6) (x := F 18) (by decide) (by omega) (by omega)
      have ei := i_add (x := 6 * F 18) (y := x1) (by omega) (by omega)
      have e1 := i_add (x := x1) (y := 1) (by rw [i_1]; omega) (by rw [i_1]; omega)
      have e42 := i_add (x := 42) (y := x1) (by rw [l42]; omega) (by rw [l42]; omega)
      have e48 := i_add (x := 48) (y := x1) (by rw [l48]; omega) (by rw [l48]; omega)
      have e66 := i_add (x := 66) (y := x1) (by rw [l66]; omega) (by rw [l66]; omega)
      rw [i_1] at e1
      rw [l42] at e42
      rw [l48] at e48
      rw [l66] at e66
      refine po_bl (fun v9 e9 => ?_)
      have v9e : v9.toInt = ai A 31 (6 * (F 18).toInt + x1.toInt) := by rw [(gg_ld e9).2.2, ei, em]; rfl
      refine po_bl (fun A10 eA => ?_)
      have aA := gg_st eA
      rw [e42] at aA
      refine po_bl (fun v11 e11 => ?_)
      have v11e : v11.toInt = ai A 32 (6 * (F 18).toInt + x1.toInt) := by rw [(gg_ld e11).2.2, aA.2.2.1 32 (by decide), ei, em]; rfl
      refine po_bl (fun A12 eB => ?_)
      have aB := gg_st eB
      rw [e48] at aB
      refine po_bl (fun A13 eC => ?_)
      have aC := gg_st eC
      rw [e66, lm2] at aC
      have oth : ∀ q, q ≠ 47 → A13 q = A q := fun q hq => by rw [aC.2.2.1 q hq, aB.2.2.1 q hq, aA.2.2.1 q hq]
      have s47 : ∀ i, 0 ≤ i → i ≠ 42 + x1.toInt → i ≠ 48 + x1.toInt → i ≠ 66 + x1.toInt → ai A13 47 i = ai A 47 i := fun i i0 h1 h2 h3 => by rw [aC.2.2.2.2 i i0 h3, aB.2.2.2.2 i i0 h2, aA.2.2.2.2 i i0 h1]
      have hA' : IAm A13 := by
        intro j i hi
        by_cases ej : j = 47
        · subst ej; trivial
        · rw [ai_fr (oth j ej)]; exact hA j i hi
      have o17 := ai_fr (oth 17 (by decide))
      have o18 := ai_fr (oth 18 (by decide))
      have o16 := ai_fr (oth 16 (by decide))
      have o12 := ai_fr (oth 12 (by decide))
      have o29 := ai_fr (oth 29 (by decide))
      have o31 := ai_fr (oth 31 (by decide))
      have o32 := ai_fr (oth 32 (by decide))
      have g := ih (J := J) (x1 := x1 + 1) hA' (by omega) (by rw [o29]; omega) (by rw [s47 78 (by decide) (by omega) (by omega) (by omega)]; exact hz) (fun m m0 m1 => by
        rw [o31, o32]
        by_cases e : m = x1.toInt
        · rw [e]
          refine ⟨?_, ?_, aC.2.2.2.1⟩
          · rw [aC.2.2.2.2 _ (by omega) (by omega), aB.2.2.2.2 _ (by omega) (by omega), aA.2.2.2.1, v9e]
          · rw [aC.2.2.2.2 _ (by omega) (by omega), aB.2.2.2.1, v11e]
        · rw [s47 (42 + m) (by omega) (by omega) (by omega) (by omega), s47 (48 + m) (by omega) (by omega) (by omega) (by omega), s47 (66 + m) (by omega) (by omega) (by omega) (by omega)]
          exact hv m m0 (by omega))
      rw [o17, o18, o16, o12, o29, o31, o32] at g
      refine po_mono g (fun r hr => ⟨⟨hr.1.1, fun q hq => (hr.1.2.1 q hq).trans (oth q hq), fun i i0 hi => (hr.1.2.2 i i0 hi).trans (s47 i i0 (by omega) (by omega) (by omega))⟩, hr.2⟩)
theorem v_begins_23 (hF : IFm F) : ∀ {n : Nat} {A : Nat → Nat → Int32} {J : Nat → Nat → Int64} {x1 : Int32}, IAm A → 0 ≤ x1.toInt → x1.toInt ≤ ai A 19 (F 18).toInt → (∀ k : Int, 0 ≤ k → k < x1.toInt → ai A 47 k = ai A 21 (6 * (F 18).toInt + k)) → (∀ i, x1.toInt ≤ i → i < 100 → ai A 47 i = 0) → po (d_begins_23 n F A J x1) (fun r => BGv (F 18).toInt A r.2.2.1) := by
  intro n
  induction n with
  | zero => intro A J x1 _ _ _ _ _ r hr; cases hr
  | succ n ih =>
    intro A J x1 hA h0 h1 hv hz
    have r18 : 0 ≤ (F 18).toInt ∧ (F 18).toInt ≤ 1 := hF 18
    have a19 : 0 ≤ ai A 19 (F 18).toInt ∧ ai A 19 (F 18).toInt ≤ 6 := hA 19 (F 18).toInt r18.1
    have a17 : 0 ≤ ai A 17 (F 18).toInt ∧ ai A 17 (F 18).toInt ≤ 6 := hA 17 (F 18).toInt r18.1
    have a29 : 0 ≤ ai A 29 (F 18).toInt ∧ ai A 29 (F 18).toInt ≤ 6 := hA 29 (F 18).toInt r18.1
    unfold d_begins_23 d_tasksNow
    refine po_call (R := fun v => v.toInt = ai A 19 (F 18).toInt) (po_bl (fun v e => po_some (by rw [(gg_ld e).2.2]; rfl))) ?_
    intro v3 v3e
    refine po_cond (fun c => ?_) (fun c => ?_)
    · rw [i_ge, v3e] at c
      refine po_mono (v_begins_59 hF hA (by decide) (by rw [i_0]; omega) (hz 78 (by omega) (by decide)) (fun k k0 k1 => absurd k1 (by rw [i_0]; omega))) (fun r hr => ?_)
      obtain ⟨⟨-, -, f⟩, b78, bt, bm⟩ := hr
      refine ⟨fun k k0 k1 => ?_, fun k k0 k1 => ⟨fun k2 => ?_, fun k2 => ?_⟩, fun k k0 k1 => ⟨fun k2 => bt k k0 k2, fun k2 => ?_⟩, bm, b78, fun m m0 m1 => ⟨?_, ?_⟩, ?_⟩
      · rw [f (6 + k) (by omega) (by omega)]; exact hz _ (by omega) (by omega)
      · rw [f k (by omega) (by omega)]; exact hv k k0 (by omega)
      · rw [f k (by omega) (by omega)]; exact hz _ (by omega) (by omega)
      · rw [f (72 + k) (by omega) (by omega)]; exact hz _ (by omega) (by omega)
      · rw [f (54 + m) (by omega) (by omega)]; exact hz _ (by omega) (by omega)
      · rw [f (60 + m) (by omega) (by omega)]; exact hz _ (by omega) (by omega)
      · rw [f 79 (by decide) (by omega)]; exact hz _ (by omega) (by decide)
    · rw [i_nge, v3e] at c
      have em := i_mulL (c := 6) (k := 6) (x := F 18) (by decide) (by omega) (by omega)
      have ei := i_add (x := 6 * F 18) (y := x1) (by omega) (by omega)
      have e1 := i_add (x := x1) (y := 1) (by rw [i_1]; omega) (by rw [i_1]; omega)
      rw [i_1] at e1
      refine po_bl (fun v5 e5 => ?_)
      have v5e : v5.toInt = ai A 21 (6 * (F 18).toInt + x1.toInt) := by rw [(gg_ld e5).2.2, ei, em]; rfl
      refine po_bl (fun A6 eA => ?_)
      have aA := gg_st eA
      have hA' : IAm A6 := by
        intro j i hi
        by_cases ej : j = 47
        · subst ej; trivial
        · rw [ai_fr (aA.2.2.1 j ej)]; exact hA j i hi
      have o : ∀ q, q ≠ 47 → ai A6 q = ai A q := fun q hq => ai_fr (aA.2.2.1 q hq)
      have g := ih (J := J) (x1 := x1 + 1) hA' (by omega) (by rw [o 19 (by decide)]; omega) (fun k k0 k1 => by
        rw [o 21 (by decide)]
        by_cases e : k = x1.toInt
        · rw [e, aA.2.2.2.1, v5e]
        · rw [aA.2.2.2.2 k k0 e]; exact hv k k0 (by omega)) (fun i i0 i1 => by rw [aA.2.2.2.2 i (by omega) (by omega)]; exact hz i (by omega) i1)
      refine po_mono g (fun r hr => ?_)
      unfold BGv at hr ⊢
      rw [o 19 (by decide), o 21 (by decide), o 17 (by decide), o 18 (by decide), o 29 (by decide), o 31 (by decide), o 32 (by decide), o 16 (by decide), o 12 (by decide)] at hr
      exact hr
theorem v_begins_2 (hF : IFm F) : ∀ {n : Nat} {A : Nat → Nat → Int32} {J : Nat → Nat → Int64} {x1 : Int32}, IAm A → 0 ≤ x1.toInt → x1.toInt ≤ 100 → (∀ i, 0 ≤ i → i < x1.toInt → ai A 47 i = 0) → po (d_begins_2 n F A J x1) (fun r => BGv (F 18).toInt A r.2.2.1) := by
  have l100 : (100 : Int32).toInt = 100 := by decide
  intro n
  induction n with
  | zero => intro A J x1 _ _ _ _ r hr; cases hr
  | succ n ih =>
    intro A J x1 hA h0 h1 hz
    have r18 : 0 ≤ (F 18).toInt ∧ (F 18).toInt ≤ 1 := hF 18
    have a19 : 0 ≤ ai A 19 (F 18).toInt ∧ ai A 19 (F 18).toInt ≤ 6 := hA 19 (F 18).toInt r18.1
    unfold d_begins_2
    refine po_cond (fun c => ?_) (fun c => ?_)
    · rw [i_ge, l100] at c
      exact v_begins_23 hF hA (by decide) (by rw [i_0]; omega) (fun k k0 k1 => absurd k1 (by rw [i_0]; omega)) (fun i i0 i1 => hz i (by rw [i_0] at i0; exact i0) (by omega))
    · rw [i_nge, l100] at c
      have e1 := i_add (x := x1) (y := 1) (by rw [i_1]; omega) (by rw [i_1]; omega)
      rw [i_1] at e1
      refine po_bl (fun A2 eA => ?_)
      have aA := gg_st eA
      have hA' : IAm A2 := by
        intro j i hi
        by_cases ej : j = 47
        · subst ej; trivial
        · rw [ai_fr (aA.2.2.1 j ej)]; exact hA j i hi
      have o : ∀ q, q ≠ 47 → ai A2 q = ai A q := fun q hq => ai_fr (aA.2.2.1 q hq)
      have g := ih (J := J) (x1 := x1 + 1) hA' (by omega) (by omega) (fun i i0 i1 => by
        by_cases e : i = x1.toInt
        · rw [e, aA.2.2.2.1, i_0]
        · rw [aA.2.2.2.2 i i0 e]; exact hz i i0 (by omega))
      refine po_mono g (fun r hr => ?_)
      unfold BGv at hr ⊢
      rw [o 19 (by decide), o 21 (by decide), o 17 (by decide), o 18 (by decide), o 29 (by decide), o 31 (by decide), o 32 (by decide), o 16 (by decide), o 12 (by decide)] at hr
      exact hr
theorem v_begins {n : Nat} (hF : IFm F) (hA : IAm A) : po (d_begins n F A J) (fun r => BGv (F 18).toInt A r.2.2.1) := by
  unfold d_begins
  exact v_begins_2 hF hA (by decide) (by decide) (fun i i0 i1 => absurd i1 (by rw [i_0]; omega))
end B7z
