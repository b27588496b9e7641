/-! what is done and what there is to do: never more than there was; what it may be worth -/
section H9fr
variable {h q : Nat} {M C d : Int} {P P' : Nat → Nat → Nat} {F F' F1 : Nat → Nat → Int32} {A A' A1 : Nat → Nat → Nat → Int32} {J : Nat → Nat → Nat → Int64} {Fm Fm' : Nat → Int32} {Am Am' : Nat → Nat → Int32} {Jm : Nat → Nat → Int64} {x1 x2 x3 x4 x5 x6 : Int32}
/-- the sum of a row's first entries -/
def sm (g : Int → Int) : Nat → Int
  | 0 => 0
  | n + 1 => sm g n + g (n : Int)
theorem sm_s (g : Int → Int) (n : Nat) : sm g (n + 1) = sm g n + g (n : Int) := rfl
theorem sm_cg {g g' : Int → Int} : ∀ {n : Nat}, (∀ i, 0 ≤ i → i < (n : Int) → g' i = g i) → sm g' n = sm g n
  | 0, _ => rfl
  | n + 1, h => by rw [sm_s, sm_s, sm_cg (n := n) (fun i i0 i1 => h i i0 (by omega)), h n (by omega) (by omega)]
theorem sm_z {g : Int → Int} : ∀ {n : Nat}, (∀ i, 0 ≤ i → i < (n : Int) → g i = 0) → sm g n = 0
  | 0, _ => rfl
  | n + 1, h => by
    rw [sm_s, sm_z (n := n) (fun i i0 i1 => h i i0 (by omega)), h n (by omega) (by omega)]
    rfl
theorem sm_st {g g' : Int → Int} {i : Int} (i0 : 0 ≤ i) (hn : ∀ j, 0 ≤ j → j ≠ i → g' j = g j) : ∀ {n : Nat}, (i < (n : Int) → sm g' n = sm g n + (g' i - g i)) ∧ ((n : Int) ≤ i → sm g' n = sm g n)
  | 0 => ⟨fun z => absurd z (by omega), fun _ => rfl⟩
  | n + 1 => by
    obtain ⟨a, b⟩ := sm_st i0 hn (n := n)
    refine ⟨fun z => ?_, fun z => ?_⟩
    · rw [sm_s, sm_s]
      by_cases e : i = (n : Int)
      · rw [b (by omega), ← e]
        omega
      · rw [a (by omega), hn n (by omega) (fun w => e w.symm)]
        omega
    · rw [sm_s, sm_s, b (by omega), hn n (by omega) (by omega)]
theorem sm_0 {g : Int → Int} : ∀ {n : Nat}, (∀ i, 0 ≤ i → i < (n : Int) → 0 ≤ g i) → 0 ≤ sm g n
  | 0, _ => Int.le_refl _
  | n + 1, h => by
    have a := sm_0 (n := n) (fun i i0 i1 => h i i0 (by omega))
    have b := h n (by omega) (by omega)
    rw [sm_s]
    omega
theorem sm_mono {g : Int → Int} {k : Nat} : ∀ {n : Nat}, k ≤ n → (∀ i, 0 ≤ i → i < (n : Int) → 0 ≤ g i) → sm g k ≤ sm g n
  | 0, hk, _ => by
    obtain rfl : k = 0 := by omega
    exact Int.le_refl _
  | n + 1, hk, h => by
    by_cases e : k = n + 1
    · rw [e]
      exact Int.le_refl _
    · have a := sm_mono (k := k) (n := n) (by omega) (fun i i0 i1 => h i i0 (by omega))
      have b := h n (by omega) (by omega)
      rw [sm_s]
      omega
theorem sm_le {g : Int → Int} {i : Int} {n : Nat} (i0 : 0 ≤ i) (i1 : i < (n : Int)) (h : ∀ j, 0 ≤ j → j < (n : Int) → 0 ≤ g j) : g i ≤ sm g n := by
  have a := sm_mono (k := i.toNat + 1) (n := n) (by omega) h
  have b := sm_0 (n := i.toNat) (fun j j0 j1 => h j j0 (by omega))
  rw [sm_s, show ((i.toNat : Nat) : Int) = i by omega] at a
  omega
/-- who does something -/
def dgi (A : Nat → Nat → Nat → Int32) (m : Int) : Int := if 0 ≤ ci A 36 4 m then 1 else 0
theorem dgi_fr (e : A' 36 4 = A 36 4) : dgi A' = dgi A := by
  funext m
  unfold dgi
  rw [ci_fr e]
/-- what is done and what there is to do, of an evening -/
def BDs (q : Nat) (C : Int) (A : Nat → Nat → Nat → Int32) : Prop := (∀ i : Int, 0 ≤ i → i < 36 → 0 ≤ ci A q 1 i) ∧ (∀ i : Int, 0 ≤ i → i < 6 → 0 ≤ ci A q 2 i) ∧ sm (ci A q 1) 36 + sm (ci A q 2) 6 ≤ C
/-- the same within a night -/
def BDn (h q : Nat) (M C : Int) (P : Nat → Nat → Nat) (F : Nat → Nat → Int32) (A : Nat → Nat → Nat → Int32) : Prop := (P 36 8 = h ∧ P 36 9 = q ∧ (F h 17).toInt = M) ∧ (∀ i : Int, 0 ≤ i → i < 36 → 0 ≤ ci A q 1 i) ∧ (∀ i : Int, 0 ≤ i → i < 6 → 0 ≤ ci A q 2 i) ∧ sm (ci A q 1) 36 + sm (ci A q 2) 6 + sm (dgi A) M.toNat ≤ C
theorem BDn.mono {C' : Int} (B : BDn h q M C P F A) (e : C ≤ C') : BDn h q M C' P F A := ⟨B.1, B.2.1, B.2.2.1, Int.le_trans B.2.2.2 e⟩
theorem dgi_0 {i : Int} : 0 ≤ dgi A i ∧ dgi A i ≤ 1 := by
  unfold dgi
  by_cases z : 0 ≤ ci A 36 4 i
  · rw [if_pos z]
    decide
  · rw [if_neg z]
    decide
theorem BDn.le {i : Int} (B : BDn h q M C P F A) (i0 : 0 ≤ i) (i1 : i < 36) : ci A q 1 i ≤ C := by
  obtain ⟨-, n1, n2, s⟩ := B
  have a := sm_le (g := ci A q 1) (n := 36) i0 (by omega) (fun j j0 j1 => n1 j j0 (by omega))
  have b := sm_0 (g := ci A q 2) (n := 6) (fun j j0 j1 => n2 j j0 (by omega))
  have c := sm_0 (g := dgi A) (n := M.toNat) (fun j _ _ => dgi_0.1)
  omega
theorem BDn.le2 {i : Int} (B : BDn h q M C P F A) (i0 : 0 ≤ i) (i1 : i < 6) : ci A q 2 i ≤ C := by
  obtain ⟨-, n1, n2, s⟩ := B
  have a := sm_le (g := ci A q 2) (n := 6) i0 (by omega) (fun j j0 j1 => n2 j j0 (by omega))
  have b := sm_0 (g := ci A q 1) (n := 36) (fun j j0 j1 => n1 j j0 (by omega))
  have c := sm_0 (g := dgi A) (n := M.toNat) (fun j _ _ => dgi_0.1)
  omega
theorem BDn.bf (B : BDn h q M C P F A) (hq : q ≠ 36) (f : BFx P F A P' F' A') : BDn h q M C P' F' A' := by
  obtain ⟨⟨e8, e9, eM⟩, n1, n2, s⟩ := B
  obtain ⟨⟨g8, g9⟩, gF, gA, g4⟩ := f
  have a1 := (gA q hq).1
  have a2 := (gA q hq).2
  refine ⟨⟨g8.trans e8, g9.trans e9, by rw [gF]; exact eM⟩, ?_, ?_, ?_⟩
  · rw [ci_fr a1]
    exact n1
  · rw [ci_fr a2]
    exact n2
  · rw [ci_fr a1, ci_fr a2, dgi_fr g4]
    exact s
theorem BDn.done {i v : Int} (B : BDn h q M C P F A) (U : CUm A A' q 1 i v) (i0 : 0 ≤ i) (i1 : i < 36) (v0 : 0 ≤ v) (hv : v - ci A q 1 i ≤ d) : BDn h q M (C + d) P F A' := by
  obtain ⟨e, n1, n2, s⟩ := B
  have z := (sm_st (g := ci A q 1) (g' := ci A' q 1) i0 U.2.1 (n := 36)).1 (by omega)
  rw [U.1] at z
  have a2 : A' q 2 = A q 2 := U.2.2 q 2 (fun e => absurd e.2 (by decide))
  have d4 : A' 36 4 = A 36 4 := U.2.2 36 4 (fun e => absurd e.2 (by decide))
  refine ⟨e, fun j j0 j1 => ?_, by rw [ci_fr a2]; exact n2, ?_⟩
  · by_cases x : j = i
    · rw [x, U.1]
      exact v0
    · rw [U.2.1 j j0 x]
      exact n1 j j0 j1
  · rw [z, ci_fr a2, dgi_fr d4]
    omega
theorem BDn.stuff {i v : Int} (B : BDn h q M C P F A) (U : CUm A A' q 2 i v) (i0 : 0 ≤ i) (i1 : i < 6) (v0 : 0 ≤ v) (hv : v - ci A q 2 i ≤ d) : BDn h q M (C + d) P F A' := by
  obtain ⟨e, n1, n2, s⟩ := B
  have z := (sm_st (g := ci A q 2) (g' := ci A' q 2) i0 U.2.1 (n := 6)).1 (by omega)
  rw [U.1] at z
  have a1 : A' q 1 = A q 1 := U.2.2 q 1 (fun e => absurd e.2 (by decide))
  have d4 : A' 36 4 = A 36 4 := U.2.2 36 4 (fun e => absurd e.2 (by decide))
  refine ⟨e, by rw [ci_fr a1]; exact n1, fun j j0 j1 => ?_, ?_⟩
  · by_cases x : j = i
    · rw [x, U.1]
      exact v0
    · rw [U.2.1 j j0 x]
      exact n2 j j0 j1
  · rw [z, ci_fr a1, dgi_fr d4]
    omega
theorem dgi_st {i v : Int} (U : CUm A A' 36 4 i v) : (∀ j, 0 ≤ j → j ≠ i → dgi A' j = dgi A j) ∧ dgi A' i = if 0 ≤ v then 1 else 0 := by
  refine ⟨fun j j0 j1 => ?_, ?_⟩
  · unfold dgi
    rw [U.2.1 j j0 j1]
  · unfold dgi
    rw [U.1]
/-- someone begins -/
theorem BDn.begun {i v : Int} (B : BDn h q M C P F A) (hq : q ≠ 36) (U : CUm A A' 36 4 i v) (i0 : 0 ≤ i) : BDn h q M (C + 1) P F A' := by
  obtain ⟨e, n1, n2, s⟩ := B
  obtain ⟨u1, u2⟩ := dgi_st U
  have z := sm_st (g := dgi A) (g' := dgi A') i0 u1 (n := M.toNat)
  have a0 := dgi_0 (A := A) (i := i)
  have b0 := dgi_0 (A := A') (i := i)
  have a1 : A' q 1 = A q 1 := U.2.2 q 1 (fun e => hq e.1)
  have a2 : A' q 2 = A q 2 := U.2.2 q 2 (fun e => hq e.1)
  refine ⟨e, by rw [ci_fr a1]; exact n1, by rw [ci_fr a2]; exact n2, ?_⟩
  rw [ci_fr a1, ci_fr a2]
  by_cases w : i < (M.toNat : Int)
  · have := z.1 w
    omega
  · have := z.2 (by omega)
    omega
/-- someone is ready -/
theorem BDn.over {i v : Int} (B : BDn h q M (C + 1) P F A) (hq : q ≠ 36) (U : CUm A A' 36 4 i v) (i0 : 0 ≤ i) (i1 : i < M) (a4 : 0 ≤ ci A 36 4 i) (hv : v < 0) : BDn h q M C P F A' := by
  obtain ⟨e, n1, n2, s⟩ := B
  obtain ⟨u1, u2⟩ := dgi_st U
  have z := (sm_st (g := dgi A) (g' := dgi A') i0 u1 (n := M.toNat)).1 (by omega)
  rw [if_neg (by omega)] at u2
  have o : dgi A i = 1 := by
    unfold dgi
    rw [if_pos a4]
  have a1 : A' q 1 = A q 1 := U.2.2 q 1 (fun e => hq e.1)
  have a2 : A' q 2 = A q 2 := U.2.2 q 2 (fun e => hq e.1)
  refine ⟨e, by rw [ci_fr a1]; exact n1, by rw [ci_fr a2]; exact n2, ?_⟩
  rw [ci_fr a1, ci_fr a2]
  omega
theorem b_finish0 {r0 : Nat} {P0 : Nat → Nat → Nat} {F0 : Nat → Nat → Int32} (B : BDn h q M C P0 F0 A) (hq : q ≠ 36) (hC : C ≤ 100000) : po (e_House_finish P F A J r0 q x2 x3) (fun r => (r.2.1 = P ∧ r.2.2.1 = F) ∧ BDn h q M (C + 1) P0 F0 r.2.2.2.1 ∧ ∀ o, r.2.2.2.1 36 o = A 36 o) := by
  unfold e_House_finish
  refine po_bl (fun v1 h1 => po_bl (fun A2 h2 => ?_))
  obtain ⟨i0, i1, g1⟩ := gl h1
  have U2 := (gg_cst h2).2.2
  have l1 := B.le (i := (x2 * 6 + x3).toInt) i0 (by omega)
  have p1 := B.2.1 (x2 * 6 + x3).toInt i0 (by omega)
  have e1 := i_p1 (x := v1) (by omega)
  have B2 : BDn h q M (C + 1) P0 F0 A2 := B.done U2 i0 (by omega) (by omega) (by omega)
  have f2 : ∀ o, A2 36 o = A 36 o := fun o => U2.2.2 36 o (fun e => hq e.1.symm)
  refine po_bl (fun v3 h3 => ?_)
  refine po_cond (fun _ => po_some ⟨⟨rfl, rfl⟩, B2, f2⟩) (fun _ => ?_)
  refine po_bl (fun v5 h5 => ?_)
  refine po_cond (fun _ => po_some ⟨⟨rfl, rfl⟩, B2, f2⟩) (fun c5 => ?_)
  rw [i_nle, i_0] at c5
  refine po_bl (fun v7 h7 => po_bl (fun A8 h8 => po_some ?_))
  obtain ⟨j0, j1, g5⟩ := gl h5
  have g7 := (gl h7).2.2
  have U8 := (gg_cst h8).2.2
  have e7 : (v7 - 1).toInt = v7.toInt - 1 := by
    have r := i_rng v7
    rw [i_sub (by rw [i_1]; omega) (by rw [i_1]; omega), i_1]
  exact ⟨⟨rfl, rfl⟩, (B2.done (d := 0) U8 j0 (by omega) (by omega) (by omega)).mono (by omega), fun o => (U8.2.2 36 o (fun e => hq e.1.symm)).trans (f2 o)⟩
theorem b_finish {r0 : Nat} (B : BDn h q M C P F A) (hq : q ≠ 36) (hC : C ≤ 100000) : po (e_House_finish P F A J r0 q x2 x3) (fun r => BDn h q M (C + 1) r.2.1 r.2.2.1 r.2.2.2.1 ∧ ∀ o, r.2.2.2.1 36 o = A 36 o) := po_mono (b_finish0 B hq hC) (fun r w => ⟨by rw [w.1.1, w.1.2]; exact w.2.1, w.2.2⟩)
theorem b_finishAll (hq : c_kind q = 2) (hC : C ≤ 100000) : ∀ {n : Nat} {P : Nat → Nat → Nat} {F : Nat → Nat → Int32} {A : Nat → Nat → Nat → Int32} {J : Nat → Nat → Nat → Int64} {x1 x2 : Int32}, BDn h q M C P F A → po (e_Sleep_finishAll_2 n P F A J x1 x2) (fun r => BDn h q M C r.2.1 r.2.2.1 r.2.2.2.1) := by
  have q36 : q ≠ 36 := k2ne hq
  intro n
  induction n with
  | zero => intro P F A J x1 x2 _ a ha; cases ha
  | succ n ih =>
    intro P F A J x1 x2 B
    have lm : (-1 : Int32).toInt = -1 := by decide
    obtain ⟨e8, e9, eM⟩ := B.1
    unfold e_Sleep_finishAll_2
    refine po_bl (fun _ c1 => ?_)
    obtain rfl := (gg_chk c1).2.symm
    refine po_cond (fun _ => po_some B) (fun cM => ?_)
    rw [i_nge, e8, eM] at cM
    refine po_bl (fun v3 h3 => ?_)
    have g3 := gl h3
    refine po_cond (fun _ => ?_) (fun _ => ?_)
    · unfold e_Sleep_finishAll_122
      exact ih B
    refine po_bl (fun v5 h5 => ?_)
    refine po_cond (fun _ => ?_) (fun c5 => ?_)
    · unfold e_Sleep_finishAll_122
      exact ih B
    rw [i_nlt, i_0] at c5
    have g5 := (gl h5).2.2
    refine po_bl (fun _ c7 => ?_)
    obtain rfl := (gg_chk c7).2.symm
    refine po_bl (fun v8 _ => po_bl (fun v9 _ => po_bl (fun v10 _ => ?_)))
    refine po_bl (fun _ c11 => ?_)
    obtain rfl := (gg_chk c11).2.symm
    refine po_bl (fun _ c12 => ?_)
    obtain rfl := (gg_chk c12).2.symm
    rw [e9]
    refine po_call (b_finish B q36 hC) ?_
    rintro ⟨u, P14, F15, A16, J17⟩ ⟨B16, f16⟩
    dsimp only at B16 f16 ⊢
    refine po_bl (fun _ c18 => ?_)
    obtain rfl := (gg_chk c18).2.symm
    refine po_bl (fun v19 _ => ?_)
    have d16 : 0 ≤ ci A16 36 4 x2.toInt := by
      rw [ci_fr (f16 4), ← g5]
      exact c5
    refine po_cond (fun _ => ?_) (fun _ => ?_)
    · unfold e_Sleep_finishAll_97
      refine po_bl (fun A26 h26 => po_bl (fun v27 _ => po_bl (fun A28 h28 => po_bl (fun A29 h29 => ?_))))
      have U26 := (gg_cst h26).2.2
      have U28 := (gg_cst h28).2.2
      have B28 := (B16.bf q36 (BFx.st U26 (by decide))).bf q36 (BFx.st U28 (by decide))
      exact ih (B28.over q36 (gg_cst h29).2.2 g3.1 cM (by rw [ci_fr (U28.2.2 36 4 (by decide)), ci_fr (U26.2.2 36 4 (by decide))]; exact d16) (by rw [lm]; decide))
    · refine po_bl (fun A21 h21 => po_bl (fun A22 h22 => po_bl (fun v23 _ => po_bl (fun A24 h24 => po_bl (fun A25 h25 => ?_)))))
      have U21 := (gg_cst h21).2.2
      have U22 := (gg_cst h22).2.2
      have U24 := (gg_cst h24).2.2
      have B24 := ((B16.bf q36 (BFx.st U21 (by decide))).bf q36 (BFx.st U22 (by decide))).bf q36 (BFx.st U24 (by decide))
      exact ih (B24.over q36 (gg_cst h25).2.2 g3.1 cM (by rw [ci_fr (U24.2.2 36 4 (by decide)), ci_fr (U22.2.2 36 4 (by decide)), ci_fr (U21.2.2 36 4 (by decide))]; exact d16) (by rw [lm]; decide))
theorem b_take {n : Nat} (hq : c_kind q = 2) (hC : C ≤ 100000) (B : BDn h q M C P F A) (s3 : 0 < ci A q 2 x3.toInt) : po (e_Sleep_begin_168 n P F A J x1 x2 x3 x5) (fun r => BDn h q M C r.2.1 r.2.2.1 r.2.2.2.1) := by
  have q36 : q ≠ 36 := k2ne hq
  obtain ⟨e8, e9, eM⟩ := B.1
  unfold e_Sleep_begin_168
  refine po_bl (fun _ c1 => ?_)
  obtain rfl := (gg_chk c1).2.symm
  rw [e9]
  refine po_bl (fun v32 h32 => po_bl (fun A33 h33 => po_bl (fun A34 h34 => ?_)))
  obtain ⟨i0, i1, g32⟩ := gl h32
  have U33 := (gg_cst h33).2.2
  have U34 := gg_cst h34
  have l2 := B.le2 i0 (by omega)
  have e32 : (v32 - 1).toInt = v32.toInt - 1 := by rw [i_sub (by rw [i_1]; omega) (by rw [i_1]; omega), i_1]
  have B34 := ((B.stuff (d := -1) U33 i0 (by omega) (by omega) (by omega)).begun q36 U34.2.2 U34.1).mono (C' := C) (by omega)
  refine po_bl (fun _ c35 => ?_)
  obtain rfl := (gg_chk c35).2.symm
  refine po_bl (fun v36 _ => po_bl (fun A37 h37 => po_some ?_))
  exact B34.bf q36 (BFx.st (gg_cst h37).2.2 (by decide))
theorem b_take2 {n : Nat} (hq : c_kind q = 2) (hC : C ≤ 100000) (B : BDn h q M C P F A) (s3 : 0 < ci A q 2 x3.toInt) : po (e_Sleep_begin_140 n P F A J x1 x2 x3 x5 x6) (fun r => BDn h q M C r.2.1 r.2.2.1 r.2.2.2.1) := by
  have q36 : q ≠ 36 := k2ne hq
  obtain ⟨e8, e9, eM⟩ := B.1
  unfold e_Sleep_begin_140
  refine po_bl (fun v38 _ => ?_)
  refine po_cond (fun _ => ?_) (fun _ => ?_)
  · refine po_bl (fun A40 h40 => ?_)
    have U40 := (gg_cst h40).2.2
    have B40 := B.bf q36 (BFx.st U40 (by decide))
    refine po_bl (fun _ c1 => ?_)
    obtain rfl := (gg_chk c1).2.symm
    rw [e9]
    refine po_bl (fun v32 h32 => po_bl (fun A33 h33 => po_bl (fun A34 h34 => ?_)))
    obtain ⟨i0, i1, g32⟩ := gl h32
    have U33 := (gg_cst h33).2.2
    have U34 := gg_cst h34
    have l2 := B40.le2 i0 (by omega)
    rw [← ci_fr (U40.2.2 q 2 (fun e => q36 e.1))] at s3
    have e32 : (v32 - 1).toInt = v32.toInt - 1 := by rw [i_sub (by rw [i_1]; omega) (by rw [i_1]; omega), i_1]
    have B34 := ((B40.stuff (d := -1) U33 i0 (by omega) (by omega) (by omega)).begun q36 U34.2.2 U34.1).mono (C' := C) (by omega)
    refine po_bl (fun _ c35 => ?_)
    obtain rfl := (gg_chk c35).2.symm
    refine po_bl (fun v36 _ => po_bl (fun A37 h37 => po_some ?_))
    exact B34.bf q36 (BFx.st (gg_cst h37).2.2 (by decide))
  · refine po_bl (fun A48 h48 => po_some ?_)
    exact B.bf q36 (BFx.st (gg_cst h48).2.2 (by decide))
theorem b_begin {n : Nat} (hq : c_kind q = 2) (hC : C ≤ 100000) (B : BDn h q M C P F A) : po (e_Sleep_begin n P F A J x1 x2) (fun r => BDn h q M C r.2.1 r.2.2.1 r.2.2.2.1) := by
  have q36 : q ≠ 36 := k2ne hq
  obtain ⟨e8, e9, eM⟩ := B.1
  have b44 : ∀ {x4 : Int32}, po (e_Sleep_begin_44 n P F A J x1 x2 x4) (fun r => BDn h q M C r.2.1 r.2.2.1 r.2.2.2.1) := fun {x4} => po_mono (bf_e_Sleep_begin_44 BFx.rfl') (fun r f => B.bf q36 f)
  unfold e_Sleep_begin
  refine po_bl (fun _ c1 => ?_)
  obtain rfl := (gg_chk c1).2.symm
  refine po_bl (fun v2 _ => po_bl (fun v3 _ => ?_))
  refine po_bl (fun _ c4 => ?_)
  obtain rfl := (gg_chk c4).2.symm
  refine po_bl (fun _ c5 => ?_)
  obtain rfl := (gg_chk c5).2.symm
  refine po_bl (fun v6 _ => ?_)
  refine po_cond (fun _ => b44) (fun _ => ?_)
  refine po_bl (fun _ c8 => ?_)
  obtain rfl := (gg_chk c8).2.symm
  refine po_bl (fun v9 h9 => ?_)
  have g9 := (gl h9).2.2
  rw [e9] at g9
  refine po_cond (fun c9 => ?_) (fun _ => b44)
  rw [i_gt, i_0, g9] at c9
  refine po_call (bf_e_Sleep_chosenStep BFx.rfl') ?_
  rintro ⟨v11, P12, F13, A14, J15⟩ f
  dsimp only at f ⊢
  have B14 := B.bf q36 f
  have s14 : 0 < ci A14 q 2 v3.toInt := by
    rw [ci_fr (f.2.2.1 q q36).2]
    exact c9
  refine po_bl (fun _ c16 => ?_)
  obtain rfl := (gg_chk c16).2.symm
  refine po_bl (fun v17 _ => ?_)
  refine po_cond (fun _ => b_take hq hC B14 s14) (fun _ => ?_)
  refine po_bl (fun _ c19 => ?_)
  obtain rfl := (gg_chk c19).2.symm
  refine po_bl (fun v20 _ => ?_)
  refine po_cond (fun _ => b_take2 hq hC B14 s14) (fun _ => ?_)
  refine po_bl (fun _ c22 => ?_)
  obtain rfl := (gg_chk c22).2.symm
  refine po_bl (fun v23 _ => ?_)
  refine po_cond (fun _ => b_take2 hq hC B14 s14) (fun _ => ?_)
  refine po_call (bf_e_Sleep_lieDown BFx.rfl') ?_
  rintro ⟨u, P26, F27, A28, J29⟩ f2
  exact po_some (B14.bf q36 f2)
theorem BDn.fin (B : BDn h q M C P F A) : BDs q C A := by
  have c := sm_0 (g := dgi A) (n := M.toNat) (fun j _ _ => dgi_0.1)
  exact ⟨B.2.1, B.2.2.1, by have := B.2.2.2; omega⟩
theorem b_96 {n : Nat} {K31 : (Nat → Nat → Nat) → (Nat → Nat → Int32) → (Nat → Nat → Nat → Int32) → (Nat → Nat → Nat → Int64) → Int32 → Int32 → Int32 → Option (cR Unit)} (q36 : q ≠ 36) (hK : ∀ {P F A J a b c}, BDn h q M C P F A → po (K31 P F A J a b c) (fun r => BDs q C r.2.2.2.1)) (B : BDn h q M C P F A) : po (e_Sleep_goTill_96 K31 n P F A J x1 x4 x5) (fun r => BDs q C r.2.2.2.1) := by
  unfold e_Sleep_goTill_96 e_Sleep_goTill_111
  refine po_cond (fun _ => hK B) (fun _ => ?_)
  refine po_call (bf_e_Sleep_nextMinute BFx.rfl') ?_
  rintro ⟨v, P38, F39, A40, J41⟩ f
  exact hK (B.bf q36 f)
theorem b_52 {K31 : (Nat → Nat → Nat) → (Nat → Nat → Int32) → (Nat → Nat → Nat → Int32) → (Nat → Nat → Nat → Int64) → Int32 → Int32 → Int32 → Option (cR Unit)} (hq : c_kind q = 2) (hC : C ≤ 100000) (hK : ∀ {P F A J a b c}, BDn h q M C P F A → po (K31 P F A J a b c) (fun r => BDs q C r.2.2.2.1)) : ∀ {n : Nat} {P : Nat → Nat → Nat} {F : Nat → Nat → Int32} {A : Nat → Nat → Nat → Int32} {J : Nat → Nat → Nat → Int64} {x1 x4 x5 x6 : Int32}, BDn h q M C P F A → po (e_Sleep_goTill_52 K31 n P F A J x1 x4 x5 x6) (fun r => BDs q C r.2.2.2.1) := by
  have q36 : q ≠ 36 := k2ne hq
  intro n
  induction n with
  | zero => intro P F A J x1 x4 x5 x6 _ a ha; cases ha
  | succ n ih =>
    intro P F A J x1 x4 x5 x6 B
    unfold e_Sleep_goTill_52
    refine po_bl (fun _ c1 => ?_)
    obtain rfl := (gg_chk c1).2.symm
    refine po_cond (fun _ => b_96 q36 hK B) (fun _ => ?_)
    refine po_cond (fun _ => b_96 q36 hK B) (fun _ => ?_)
    refine po_bl (fun v29 _ => ?_)
    refine po_cond (fun _ => ?_) (fun _ => ?_)
    · unfold e_Sleep_goTill_90
      exact ih B
    · refine po_call (b_begin hq hC B) ?_
      rintro ⟨u, P32, F33, A34, J35⟩ B2
      exact ih B2
theorem b_31 (hq : c_kind q = 2) (hC : C ≤ 100000) : ∀ {n : Nat} {P : Nat → Nat → Nat} {F : Nat → Nat → Int32} {A : Nat → Nat → Nat → Int32} {J : Nat → Nat → Nat → Int64} {x1 x4 x5 : Int32}, BDn h q M C P F A → po (e_Sleep_goTill_31 n P F A J x1 x4 x5) (fun r => BDs q C r.2.2.2.1) := by
  have q36 : q ≠ 36 := k2ne hq
  have b119 : ∀ {n : Nat} {P : Nat → Nat → Nat} {F : Nat → Nat → Int32} {A : Nat → Nat → Nat → Int32} {J : Nat → Nat → Nat → Int64}, BDn h q M C P F A → po (e_Sleep_goTill_119 n P F A J) (fun r => BDs q C r.2.2.2.1) := by
    intro n P F A J B
    unfold e_Sleep_goTill_119
    refine po_call (bf_e_Sleep_wakeUp BFx.rfl') ?_
    rintro ⟨u, P22, F23, A24, J25⟩ f
    exact po_some (B.bf q36 f).fin
  intro n
  induction n with
  | zero => intro P F A J x1 x4 x5 _ a ha; cases ha
  | succ n ih =>
    intro P F A J x1 x4 x5 B
    unfold e_Sleep_goTill_31
    refine po_cond (fun _ => b119 B) (fun _ => po_cond (fun _ => b119 B) (fun _ => ?_))
    unfold e_Sleep_finishAll
    refine po_call (b_finishAll hq hC B) ?_
    rintro ⟨u, P17, F18, A19, J20⟩ B2
    exact b_52 hq hC (fun B3 => ih B3) B2
/-- who gets up does nothing yet -/
theorem b_getUp (hq : c_kind q = 2) : ∀ {n : Nat} {P : Nat → Nat → Nat} {F : Nat → Nat → Int32} {A : Nat → Nat → Nat → Int32} {J : Nat → Nat → Nat → Int64} {x1 : Int32}, P 36 8 = h ∧ P 36 9 = q ∧ (F h 17).toInt = M → (∀ m, 0 ≤ m → m < x1.toInt → ci A 36 4 m < 0) → x1.toInt < 1000000 → po (e_Sleep_getUp_2 n P F A J x1) (fun r => (r.2.1 36 8 = h ∧ r.2.1 36 9 = q ∧ (r.2.2.1 h 17).toInt = M) ∧ (r.2.2.2.1 q 1 = A q 1 ∧ r.2.2.2.1 q 2 = A q 2) ∧ ∀ m, 0 ≤ m → m < M → ci r.2.2.2.1 36 4 m < 0) := by
  have q36 : q ≠ 36 := k2ne hq
  have lm : (-1 : Int32).toInt = -1 := by decide
  intro n
  induction n with
  | zero => intro P F A J x1 _ _ _ a ha; cases ha
  | succ n ih =>
    intro P F A J x1 E D hx
    obtain ⟨e8, e9, eM⟩ := E
    unfold e_Sleep_getUp_2
    refine po_bl (fun _ c1 => ?_)
    obtain rfl := (gg_chk c1).2.symm
    refine po_cond (fun cM => po_some ⟨⟨e8, e9, eM⟩, ⟨rfl, rfl⟩, fun m m0 m1 => ?_⟩) (fun cM => ?_)
    · rw [i_ge, e8, eM] at cM
      exact D m m0 (by omega)
    refine po_bl (fun _ c3 => ?_)
    obtain rfl := (gg_chk c3).2.symm
    refine po_bl (fun v4 h4 => po_bl (fun A5 h5 => po_bl (fun A6 h6 => po_bl (fun A7 h7 => po_bl (fun A8 h8 => ?_)))))
    have x0 := (gl h4).1
    have x6 := (gl h4).2.1
    have U5 := (gg_cst h5).2.2
    have f8 : BFx P F A5 P F A8 := ((BFx.st (gg_cst h6).2.2 (by decide)).tr (BFx.st (gg_cst h7).2.2 (by decide))).tr (BFx.st (gg_cst h8).2.2 (by decide))
    refine po_bl (fun _ c9 => ?_)
    obtain rfl := (gg_chk c9).2.symm
    refine po_bl (fun A10 h10 => ?_)
    have f10 : BFx P F A5 P F A10 := f8.tr (BFx.st (gg_cst h10).2.2 (by decide))
    have e11 := i_p1 (x := x1) (by omega)
    have go : ∀ {P' : Nat → Nat → Nat} {F' : Nat → Nat → Int32} {A' : Nat → Nat → Nat → Int32} {J' : Nat → Nat → Nat → Int64}, BFx P F A5 P' F' A' → po (e_Sleep_getUp_2 n P' F' A' J' (x1 + 1)) (fun r => (r.2.1 36 8 = h ∧ r.2.1 36 9 = q ∧ (r.2.2.1 h 17).toInt = M) ∧ (r.2.2.2.1 q 1 = A q 1 ∧ r.2.2.2.1 q 2 = A q 2) ∧ ∀ m, 0 ≤ m → m < M → ci r.2.2.2.1 36 4 m < 0) := by
      intro P' F' A' J' f
      refine po_mono (ih ⟨f.1.1.trans e8, f.1.2.trans e9, by rw [f.2.1]; exact eM⟩ (fun m m0 m1 => ?_) (by omega)) (fun r w => ⟨w.1, ⟨w.2.1.1.trans ((f.2.2.1 q q36).1.trans (U5.2.2 q 1 (fun e => q36 e.1))), w.2.1.2.trans ((f.2.2.1 q q36).2.trans (U5.2.2 q 2 (fun e => q36 e.1)))⟩, w.2.2⟩)
      rw [ci_fr f.2.2.2]
      by_cases e : m = x1.toInt
      · rw [e, U5.1, lm]
        decide
      · rw [U5.2.1 m m0 e]
        exact D m m0 (by omega)
    refine po_cond (fun _ => ?_) (fun _ => ?_)
    · unfold e_Sleep_getUp_145
      exact go f10
    refine po_bl (fun v12 _ => po_bl (fun A13 h13 => ?_))
    have f13 : BFx P F A5 P F A13 := f10.tr (BFx.st (gg_cst h13).2.2 (by decide))
    refine po_bl (fun _ c14 => ?_)
    obtain rfl := (gg_chk c14).2.symm
    refine po_bl (fun v15 _ => po_bl (fun v16 _ => ?_))
    refine po_bl (fun _ c17 => ?_)
    obtain rfl := (gg_chk c17).2.symm
    refine po_bl (fun _ c18 => ?_)
    obtain rfl := (gg_chk c18).2.symm
    refine po_bl (fun _ c19 => ?_)
    obtain rfl := (gg_chk c19).2.symm
    refine po_bl (fun v20 _ => ?_)
    refine po_call (bf_e_Ways_between f13) ?_
    rintro ⟨v21, P22, F23, A24, J25⟩ f24
    dsimp only at f24 ⊢
    refine po_bl (fun A26 h26 => po_bl (fun v27 _ => ?_))
    have f26 := f24.tr (BFx.st (gg_cst h26).2.2 (by decide))
    refine po_cond (fun _ => ?_) (fun _ => ?_)
    · unfold e_Sleep_getUp_145
      exact go f26
    refine po_bl (fun _ c29 => ?_)
    obtain rfl := (gg_chk c29).2.symm
    refine po_bl (fun A30 h30 => ?_)
    exact go (f26.tr (BFx.st (gg_cst h30).2.2 (by decide)))
/-- a night -/
theorem b_goTill {n : Nat} (hq : c_kind q = 2) (hC : C ≤ 100000) (B : BDs q C A) : po (e_Sleep_goTill n P F A J x1 h q) (fun r => BDs q C r.2.2.2.1) := by
  have q36 : q ≠ 36 := k2ne hq
  unfold e_Sleep_goTill
  refine po_bl (fun P1 h1 => po_bl (fun P2 h2 => po_bl (fun A3 h3 => ?_)))
  have g1 := gg_cpp h1
  have g2 := gg_cpp h2
  have g3 := gg_cfi h3
  unfold e_Sleep_getUp
  refine po_call (b_getUp (h := h) (M := (F h 17).toInt) hq ⟨(g2.2 36 8 (by decide)).trans g1.1, g2.1, rfl⟩ (fun m m0 m1 => absurd m1 (by rw [i_0]; omega)) (by decide)) ?_
  rintro ⟨u, P5, F6, A7, J8⟩ ⟨w1, ⟨w2, w3⟩, w4⟩
  dsimp only at w1 w2 w3 w4 ⊢
  have a1 : A7 q 1 = A q 1 := w2.trans (g3 q 1 (fun e => q36 e.1))
  have a2 : A7 q 2 = A q 2 := w3.trans (g3 q 2 (fun e => q36 e.1))
  have z : sm (dgi A7) (F h 17).toInt.toNat = 0 := sm_z (fun i i0 i1 => by
    unfold dgi
    have := w4 i i0 (by omega)
    rw [if_neg (by omega)])
  have B7 : BDn h q (F h 17).toInt C P5 F6 A7 := by
    refine ⟨w1, by rw [ci_fr a1]; exact B.1, by rw [ci_fr a2]; exact B.2.1, ?_⟩
    rw [ci_fr a1, ci_fr a2, z]
    have := B.2.2
    omega
  refine po_call (bf_e_Sleep_nextMinute BFx.rfl') ?_
  rintro ⟨v9, P10, F11, A12, J13⟩ f
  exact b_31 hq hC (B7.bf q36 f)
/-! what it may be worth -/
theorem b_worth21 {K : Int} {n0 : Nat} (hn0 : n0 ≤ 36) (hK : K ≤ 1000000000) (n1 : ∀ i : Int, 0 ≤ i → i < 36 → 0 ≤ ci A q 1 i ∧ ci A q 1 i ≤ 100000) (e4 : x4.toInt = (n0 : Int)) (rg : ∀ i : Int, x5.toInt ≤ i → i < (n0 : Int) → (0 ≤ ci A h 7 i) ∧ (0 ≤ ci A h 8 i ∧ ci A h 8 i ≤ 99) ∧ (0 ≤ ci A h 9 i ∧ ci A h 9 i ≤ 99)) : ∀ {n k : Nat} {x3 x : Int32}, x.toInt = (k : Int) → x5.toInt ≤ x.toInt → -K ≤ x3.toInt - 99 * (sm (ci A q 1) n0 - sm (ci A q 1) k) → x3.toInt + 99 * (sm (ci A q 1) n0 - sm (ci A q 1) k) ≤ K → k ≤ n0 → po (e_House_worth_21 n P F A J h q x3 x4 x) (fun v => x3.toInt - 99 * (sm (ci A q 1) n0 - sm (ci A q 1) k) ≤ v.toInt ∧ v.toInt ≤ x3.toInt + 99 * (sm (ci A q 1) n0 - sm (ci A q 1) k)) := by
  intro n
  induction n with
  | zero => intro k x3 x _ _ _ _ _ a ha; cases ha
  | succ n ih =>
    intro k x3 x ex hx lo hi hk
    have mo := sm_mono (g := ci A q 1) (k := k) (n := n0) hk (fun i i0 i1 => (n1 i i0 (by omega)).1)
    unfold e_House_worth_21
    refine po_cond (fun c => po_some ?_) (fun c => ?_)
    · omega
    rw [i_nge] at c
    refine po_bl (fun v3 h3 => po_bl (fun v4 h4 => po_bl (fun v5 h5 => po_bl (fun v6 h6 => po_bl (fun v7 h7 => ?_)))))
    have g3 := (gl h3).2.2
    have g4 := (gl h4).2.2
    have g5 := (gl h5).2.2
    have g6 := (gl h6).2.2
    have g7 := (gl h7).2.2
    have d := n1 x.toInt (by omega) (by omega)
    obtain ⟨r7, r8, r9⟩ := rg x.toInt hx (by omega)
    have s := sm_s (ci A q 1) k
    rw [← ex] at s
    have mo2 := sm_mono (g := ci A q 1) (k := k + 1) (n := n0) (by omega) (fun i i0 i1 => (n1 i i0 (by omega)).1)
    obtain ⟨w, hw⟩ : ∃ w : Int32, w = (if v4 < v3 then v4 else v3) := ⟨_, rfl⟩
    rw [← hw]
    have w01 : 0 ≤ w.toInt ∧ w.toInt ≤ v3.toInt := by
      rw [hw]
      by_cases z : v4 < v3
      · rw [if_pos z]
        have := Int32.lt_iff_toInt_lt.mp z
        omega
      · rw [if_neg z]
        omega
    have p1 : 0 ≤ w.toInt * v5.toInt := Int.mul_nonneg w01.1 (by omega)
    have p2 : w.toInt * v5.toInt ≤ w.toInt * 99 := Int.mul_le_mul_of_nonneg_left (by omega) w01.1
    have e6w : (v6 - w).toInt = v6.toInt - w.toInt := i_sub (by omega) (by omega)
    have u0 : 0 ≤ (v6 - w).toInt := by omega
    have p3 : 0 ≤ (v6 - w).toInt * v7.toInt := Int.mul_nonneg u0 (by omega)
    have p4 : (v6 - w).toInt * v7.toInt ≤ (v6 - w).toInt * 99 := Int.mul_le_mul_of_nonneg_left (by omega) u0
    have m1 : (w * v5).toInt = w.toInt * v5.toInt := i_mul (by omega) (by omega)
    have m2 : ((v6 - w) * v7).toInt = (v6 - w).toInt * v7.toInt := i_mul (by omega) (by omega)
    have m3 : (w * v5 - (v6 - w) * v7).toInt = (w * v5).toInt - ((v6 - w) * v7).toInt := i_sub (by omega) (by omega)
    have m4 : (x3 + (w * v5 - (v6 - w) * v7)).toInt = x3.toInt + (w * v5 - (v6 - w) * v7).toInt := i_add (by omega) (by omega)
    have ex1 := i_p1 (x := x) (by omega)
    refine po_mono (ih (k := k + 1) (by omega) (by omega) (by omega) (by omega) (by omega)) (fun v r => ?_)
    omega
theorem b_worth {n : Nat} {t : Int} (hy : HYc F A h) (n1 : ∀ i : Int, 0 ≤ i → i < 36 → 0 ≤ ci A q 1 i ∧ ci A q 1 i ≤ 100000) (s1 : sm (ci A q 1) 36 ≤ 100000) (h5 : 0 ≤ ci A h 5 t ∧ ci A h 5 t ≤ 6) (t0 : 0 ≤ t) (t6 : t < 6) (t1 : t < (F h 16).toInt) (e2 : x2.toInt = t) : po (e_House_worth n P F A J h q x2) (fun v => -(99 * (sm (ci A q 1) (6 * (t.toNat + 1)) - sm (ci A q 1) (6 * t.toNat))) ≤ v.toInt ∧ v.toInt ≤ 99 * (sm (ci A q 1) (6 * (t.toNat + 1)) - sm (ci A q 1) (6 * t.toNat))) := by
  unfold e_House_worth
  refine po_bl (fun v1 h1 => ?_)
  have g1 := (gl h1).2.2
  rw [e2] at g1
  have m6 : (x2 * 6).toInt = x2.toInt * 6 := i_mulR (c := 6) (k := 6) (by decide) (by omega) (by omega)
  have a4 : (x2 * 6 + v1).toInt = t * 6 + ci A h 5 t := by rw [i_add (by omega) (by omega), m6, e2, g1]
  have nn : ∀ i : Int, 0 ≤ i → i < 36 → 0 ≤ ci A q 1 i := fun i i0 i1 => (n1 i i0 i1).1
  have b0 := sm_0 (g := ci A q 1) (n := 6 * t.toNat) (fun i i0 i1 => nn i i0 (by omega))
  have b1 := sm_mono (g := ci A q 1) (k := 6 * t.toNat) (n := 6 * t.toNat + (ci A h 5 t).toNat) (by omega) (fun i i0 i1 => nn i i0 (by omega))
  have b2 := sm_mono (g := ci A q 1) (k := 6 * t.toNat + (ci A h 5 t).toNat) (n := 6 * (t.toNat + 1)) (by omega) (fun i i0 i1 => nn i i0 (by omega))
  have b3 := sm_mono (g := ci A q 1) (k := 6 * (t.toNat + 1)) (n := 36) (by omega) (fun i i0 i1 => nn i i0 (by omega))
  refine po_mono (b_worth21 (K := 1000000000) (n0 := 6 * t.toNat + (ci A h 5 t).toNat) (x5 := x2 * 6) (x4 := x2 * 6 + v1) (by omega) (by decide) n1 (by rw [a4]; omega) (fun i i0 i1 => ?_) (k := 6 * t.toNat) (x3 := 0) (x := x2 * 6) (by rw [m6, e2]; omega) (Int.le_refl _) (by rw [i_0]; omega) (by rw [i_0]; omega) (by omega)) (fun v r => ?_)
  · rw [m6, e2] at i0
    have y := hy.2.2.1 t (i - t * 6) t0 t1 (by omega) (by omega)
    rw [show t * 6 + (i - t * 6) = i by omega] at y
    exact ⟨y.2.1.1, y.2.2.1, y.2.2.2.1⟩
  · rw [i_0] at r
    omega
theorem b_worthAll4 (hy : HYc F A h) (n1 : ∀ i : Int, 0 ≤ i → i < 36 → 0 ≤ ci A q 1 i ∧ ci A q 1 i ≤ 100000) (s1 : sm (ci A q 1) 36 ≤ 100000) (h5 : ∀ t, 0 ≤ t → 0 ≤ ci A h 5 t ∧ ci A h 5 t ≤ 6) (h16 : (F h 16).toInt ≤ 6) : ∀ {n : Nat} {x2 x3 : Int32}, 0 ≤ x3.toInt → x3.toInt ≤ 6 → -(99 * sm (ci A q 1) (6 * x3.toInt.toNat)) ≤ x2.toInt → x2.toInt ≤ 99 * sm (ci A q 1) (6 * x3.toInt.toNat) → po (e_House_worthOfAll_4 n P F A J h q x2 x3) (fun v => -(99 * sm (ci A q 1) 36) ≤ v.toInt ∧ v.toInt ≤ 99 * sm (ci A q 1) 36) := by
  have nn : ∀ i : Int, 0 ≤ i → i < 36 → 0 ≤ ci A q 1 i := fun i i0 i1 => (n1 i i0 i1).1
  intro n
  induction n with
  | zero => intro x2 x3 _ _ _ _ a ha; cases ha
  | succ n ih =>
    intro x2 x3 x0 x6 lo hi
    have b3 := sm_mono (g := ci A q 1) (k := 6 * x3.toInt.toNat) (n := 36) (by omega) (fun i i0 i1 => nn i i0 (by omega))
    unfold e_House_worthOfAll_4
    refine po_cond (fun c => po_some ?_) (fun c => ?_)
    · omega
    rw [i_nge] at c
    refine po_call (b_worth hy n1 s1 (h5 x3.toInt x0) x0 (by omega) c rfl) (fun v2 r => ?_)
    have b0 := sm_0 (g := ci A q 1) (n := 6 * x3.toInt.toNat) (fun i i0 i1 => nn i i0 (by omega))
    have b1 := sm_mono (g := ci A q 1) (k := 6 * (x3.toInt.toNat + 1)) (n := 36) (by omega) (fun i i0 i1 => nn i i0 (by omega))
    have ea : (x2 + v2).toInt = x2.toInt + v2.toInt := i_add (by omega) (by omega)
    have e31 := i_p1 (x := x3) (by omega)
    have e6 : 6 * (x3 + 1).toInt.toNat = 6 * (x3.toInt.toNat + 1) := by omega
    exact ih (by omega) (by omega) (by rw [e6]; omega) (by rw [e6]; omega)
theorem b_worthAll {n : Nat} (H : NHx h F A Fm Am) (B : BDs q C A) (hC : C ≤ 100000) : po (e_House_worthOfAll n P F A J h q) (fun v => -(99 * C) ≤ v.toInt ∧ v.toInt ≤ 99 * C) := by
  have ct := H.ct
  have s2 := sm_0 (g := ci A q 2) (n := 6) (fun i i0 i1 => B.2.1 i i0 (by omega))
  have s3 := B.2.2
  have s1 : sm (ci A q 1) 36 ≤ C := by omega
  have n1 : ∀ i : Int, 0 ≤ i → i < 36 → 0 ≤ ci A q 1 i ∧ ci A q 1 i ≤ 100000 := fun i i0 i1 => by
    have := sm_le (g := ci A q 1) (n := 36) i0 (by omega) (fun j j0 j1 => B.1 j j0 (by omega))
    exact ⟨B.1 i i0 i1, by omega⟩
  have z0 : sm (ci A q 1) (6 * (0 : Int32).toInt.toNat) = 0 := by
    rw [i_0]
    rfl
  unfold e_House_worthOfAll
  refine po_mono (b_worthAll4 H.hy n1 (by omega) (fun t t0 => H.s6 t0) (by omega) (x2 := 0) (x3 := 0) (by decide) (by decide) (by rw [z0, i_0]; decide) (by rw [z0, i_0]; decide)) (fun v r => ?_)
  omega
theorem sm_ub {g : Int → Int} {c : Int} : ∀ {n : Nat}, (∀ i, 0 ≤ i → i < (n : Int) → g i ≤ c) → sm g n ≤ (n : Int) * c
  | 0, _ => by
    show (0 : Int) ≤ ((0 : Nat) : Int) * c
    rw [show ((0 : Nat) : Int) = 0 from rfl, Int.zero_mul]
    exact Int.le_refl _
  | n + 1, h => by
    have a := sm_ub (n := n) (fun i i0 i1 => h i i0 (by omega))
    have b := h n (by omega) (by omega)
    have e : ((n + 1 : Nat) : Int) * c = (n : Int) * c + c := by
      rw [show ((n + 1 : Nat) : Int) = (n : Int) + 1 from rfl, Int.add_mul, Int.one_mul]
    rw [sm_s, e]
    omega
/-- what is done and what there is to do, by an evening's rows -/
def BDa (a : Nat → Nat → Int32) : Prop := (∀ i : Int, 0 ≤ i → i < 36 → 0 ≤ (a 1 i.toNat).toInt) ∧ (∀ i : Int, 0 ≤ i → i < 6 → 0 ≤ (a 2 i.toNat).toInt) ∧ sm (fun i => (a 1 i.toNat).toInt) 36 + sm (fun i => (a 2 i.toNat).toInt) 6 ≤ 5994
theorem BDa.s (b : BDa (A q)) : BDs q 5994 A := b
theorem BDs.a (b : BDs q 5994 A) : BDa (A q) := b
theorem BDa.cg {a a' : Nat → Nat → Int32} (b : BDa a) (h1 : ∀ i : Int, 0 ≤ i → i < 36 → (a' 1 i.toNat).toInt = (a 1 i.toNat).toInt) (h2 : ∀ i : Int, 0 ≤ i → i < 6 → (a' 2 i.toNat).toInt = (a 2 i.toNat).toInt) : BDa a' := by
  obtain ⟨b1, b2, b3⟩ := b
  refine ⟨fun i i0 i1 => by rw [h1 i i0 i1]; exact b1 i i0 i1, fun i i0 i1 => by rw [h2 i i0 i1]; exact b2 i i0 i1, ?_⟩
  have e1 := sm_cg (g := fun i : Int => (a 1 i.toNat).toInt) (g' := fun i : Int => (a' 1 i.toNat).toInt) (n := 36) (fun i i0 i1 => h1 i i0 (by omega))
  have e2 := sm_cg (g := fun i : Int => (a 2 i.toNat).toInt) (g' := fun i : Int => (a' 2 i.toNat).toInt) (n := 6) (fun i i0 i1 => h2 i i0 (by omega))
  rw [e1, e2]
  exact b3
theorem BDa.fr {a a' : Nat → Nat → Int32} (b : BDa a) (h1 : a' 1 = a 1) (h2 : a' 2 = a 2) : BDa a' := b.cg (fun i _ _ => by rw [h1]) (fun i _ _ => by rw [h2])
theorem BDa.z {a : Nat → Nat → Int32} (h1 : ∀ i : Int, 0 ≤ i → i < 36 → (a 1 i.toNat).toInt = 0) (h2 : ∀ i : Int, 0 ≤ i → i < 6 → 0 ≤ (a 2 i.toNat).toInt ∧ (a 2 i.toNat).toInt ≤ 999) : BDa a := by
  have s1 := sm_z (g := fun i : Int => (a 1 i.toNat).toInt) (n := 36) (fun i i0 i1 => h1 i i0 (by omega))
  have s2 := sm_ub (g := fun i : Int => (a 2 i.toNat).toInt) (c := 999) (n := 6) (fun i i0 i1 => (h2 i i0 (by omega)).2)
  refine ⟨fun i i0 i1 => by rw [h1 i i0 i1]; exact Int.le_refl _, fun i i0 i1 => (h2 i i0 i1).1, ?_⟩
  rw [s1]
  omega
/-- a hand's work -/
theorem b_work {r0 : Nat} (hq : q ≠ 36) (B : BDs q C A) (hC : C ≤ 100000) (U : CUm A A1 q 2 x1.toInt x4.toInt) (i0 : 0 ≤ x1.toInt) (i1 : x1.toInt < 6) (e : x4.toInt = ci A q 2 x1.toInt - 1) (p : 0 < ci A q 2 x1.toInt) : po (e_House_finish P F A1 J r0 q x2 x3) (fun r => BDs q C r.2.2.2.1) := by
  have z0 : sm (dgi A) (0 : Int).toNat = 0 := rfl
  have Bn : BDn 0 q 0 C (fun _ k => if k = 8 then 0 else q) (fun _ _ => 0) A := ⟨⟨rfl, rfl, by decide⟩, B.1, B.2.1, by rw [z0]; have := B.2.2; omega⟩
  have B1 := Bn.stuff (d := -1) U i0 i1 (by omega) (by omega)
  exact po_mono (b_finish0 B1 hq (by omega)) (fun r w => (w.2.1.mono (C' := C) (by omega)).fin)
end H9fr
