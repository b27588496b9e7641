/-! what a law tells, on both sides -/
section H9ez1
variable {r0 : Nat} {p c l S C : Int} {P : Nat → Nat → Nat} {F : Nat → Nat → Int32} {A A' A0 A1 : Nat → Nat → Nat → Int32} {J : Nat → Nat → Nat → Int64} {Fm : Nat → Int32} {Am Am' Am0 Am1 : Nat → Nat → Int32} {Jm : Nat → Nat → Int64}
/-- the reference's answer by the class's: held to 0 .. S - 1 -/
def CLx (S a b : Int) : Prop := b = if a < 0 then 0 else if a < S then a else S - 1
theorem CLx.last {a b : Int} (e : a = b) (h0 : 0 ≤ b) (h1 : b < S) : CLx S a b := by
  unfold CLx
  rw [e, if_neg (by omega), if_pos h1]
/-- what both leave of a law -/
def TRx (S : Int) (r0 : Nat) (P : Nat → Nat → Nat) (F : Nat → Nat → Int32) (A0 : Nat → Nat → Nat → Int32) (Fm : Nat → Int32) (Am0 : Nat → Nat → Int32) (a : cR Int32) (b : mR Int32) : Prop := CLx S a.1.toInt b.1.toInt ∧ (a.2.1 = P ∧ a.2.2.1 = F ∧ ∀ r o, ¬ (r = r0 ∧ o = 17) → a.2.2.2.1 r o = A0 r o) ∧ (∀ k, k ≠ 63 → b.2.1 k = Fm k) ∧ ∀ q, q ≠ 46 → b.2.2.1 q = Am0 q
theorem TRx.go {a : cR Int32} {b : mR Int32} (oA : ∀ r o, ¬ (r = r0 ∧ o = 17) → A r o = A0 r o) (oM : ∀ q, q ≠ 46 → Am q = Am0 q) (h : TRx S r0 P F A Fm Am a b) : TRx S r0 P F A0 Fm Am0 a b := ⟨h.1, ⟨h.2.1.1, h.2.1.2.1, fun r o e => (h.2.1.2.2 r o e).trans (oA r o e)⟩, h.2.2.1, fun q e => (h.2.2.2 q e).trans (oM q e)⟩
/-- a load of the class's, by value -/
theorem gl {r o n : Nat} {i v : Int32} (h : m_ld (A r o) n i = some v) : 0 ≤ i.toInt ∧ i.toInt < (n : Int) ∧ v.toInt = ci A r o i.toInt := by
  have g := gg_ld h
  exact ⟨g.1, g.2.1, by rw [g.2.2]; rfl⟩
/-- a load of the reference's, by value -/
theorem gm {j n : Nat} {i v : Int32} (h : m_ld (Am j) n i = some v) : 0 ≤ i.toInt ∧ i.toInt < (n : Int) ∧ v.toInt = ai Am j i.toInt := by
  have g := gg_ld h
  exact ⟨g.1, g.2.1, by rw [g.2.2]; rfl⟩
theorem i_mm {x : Int32} (h : -2147483647 < x.toInt) : (x + (-1) + (-1)).toInt = x.toInt - 2 := by
  have e := i_m1 (x := x) (by omega)
  rw [i_m1 (by rw [e]; omega), e]
  omega
/-- a term that is worked out once a law is broken -/
theorem po_termB : ∀ {n : Nat} {F : Nat → Int32} {A : Nat → Nat → Int32} {J : Nat → Nat → Int64} {x2 x3 x4 : Int32}, F 63 = 1 → po (d_termOf_5 n F A J x2 x3 x4) (fun r => (r.2.1 63 = 1 ∧ ∀ k, k ≠ 63 → r.2.1 k = F k) ∧ ∀ q, q ≠ 46 → r.2.2.1 q = A q) := by
  intro n
  induction n with
  | zero => intro F A J x2 x3 x4 _ r hr; cases hr
  | succ n ih =>
    intro F A J x2 x3 x4 hF
    have go : ∀ {A2 : Nat → Nat → Int32} {J : Nat → Nat → Int64} {j s t x2 x3 x4 : Int32}, m_st A 46 400 s t = some A2 → po (d_termOf_5 n F A2 J x2 x3 x4) (fun r => (r.2.1 63 = 1 ∧ ∀ k, k ≠ 63 → r.2.1 k = F k) ∧ ∀ q, q ≠ 46 → r.2.2.1 q = A q) := fun {A2 J j s t x2 x3 x4} h => po_mono (ih hF) (fun r hr => ⟨hr.1, fun q hq => (hr.2 q hq).trans ((gg_st h).2.2.1 q hq)⟩)
    unfold d_termOf_5
    refine po_cond (fun _ => po_bl (fun v h => po_some ⟨⟨hF, fun _ _ => rfl⟩, fun _ _ => rfl⟩)) (fun _ => ?_)
    refine po_bl (fun v3 h3 => ?_)
    have op : ∀ {v5 v6 : Int32}, po (d_termOf_104 (d_termOf_5 n) n F A J x2 (x3 + (-1)) x4 v3 v5 v6) (fun r => (r.2.1 63 = 1 ∧ ∀ k, k ≠ 63 → r.2.1 k = F k) ∧ ∀ q, q ≠ 46 → r.2.2.1 q = A q) := fun {v5 v6} => by
      unfold d_termOf_104
      refine po_cond (fun _ => po_cond (fun _ => po_cond (fun _ => po_bl (fun v18 _ => po_bl (fun A19 h19 => go (j := 0) h19))) (fun _ => ?_)) (fun _ => ?_)) (fun _ => ?_)
      · unfold d_termOf_158
        exact po_bl (fun A21 h21 => go (j := 0) h21)
      · unfold d_termOf_158
        exact po_bl (fun A21 h21 => go (j := 0) h21)
      · unfold d_termOf_158
        exact po_bl (fun A21 h21 => go (j := 0) h21)
    refine po_cond (fun _ => po_bl (fun v5 _ => po_bl (fun v6 _ => ?_))) (fun _ => ?_)
    · refine po_cond (fun _ => op) (fun _ => po_cond (fun _ => op) (fun _ => po_bl (fun F9 h9 => po_some ⟨gg_pfz h9, fun _ _ => rfl⟩)))
    · refine po_cond (fun _ => po_bl (fun v11 _ => po_bl (fun v12 _ => po_bl (fun A13 h13 => ?_)))) (fun _ => po_bl (fun v14 _ => ?_))
      · unfold d_termOf_159
        exact go (j := 0) h13
      · unfold d_termOf_58
        refine po_bl (fun A20 h20 => ?_)
        unfold d_termOf_159
        exact go (j := 0) h20
theorem SGT.same (s : SGT r0 A0 Am0 p c l) (a15 : A r0 15 = A0 r0 15) (a16 : A r0 16 = A0 r0 16) (m42 : Am 42 = Am0 42) (m43 : Am 43 = Am0 43) : SGT r0 A Am p c l :=
  s.fr (fun i _ _ => by rw [ci_fr a15, ci_fr a16]; exact ⟨rfl, rfl⟩) (fun i _ _ => by rw [ai_fr m42, ai_fr m43]; exact ⟨rfl, rfl⟩)
/-- the last step of a law's walk: a term and its end -/
theorem p2_211 {x1 x3m x6 : Int32} {n m : Nat} {x3 x4 x5 : Int32} (hr : r0 ≠ 36) (p0 : 0 ≤ p) (s : SGT r0 A Am p (ai Am 39 x6.toInt) l) (c0 : 0 ≤ ai Am 39 x6.toInt) (e40 : ai Am 40 x6.toInt = ai Am 39 x6.toInt + l) (le : ai Am 40 x6.toInt ≤ 840) (st : ci A r0 15 (p + l) = 0) (hL : p + l < (F r0 1304).toInt) (hL4 : (F r0 1304).toInt ≤ 400) (fa : ∀ j, 0 ≤ j → j < 6 → ci A 36 9 j = ai Am 45 j) (f54 : ai Am 45 0 = ai Am 54 x1.toInt) (l0 : 0 ≤ ai Am 45 0) (l1 : ai Am 45 0 < S) (hS : ∀ (v : Int32) (A : Nat → Nat → Int32) (J : Nat → Nat → Int64), A 22 = Am 22 → d_stepsOf Fm A J x3m = some v → v.toInt = S) (hz : Fm 63 = 0) (e3 : x3.toInt = p) (e4 : x4.toInt = -1) (t0 : 0 ≤ x5.toInt) (t1 : x5.toInt ≤ x3.toInt) : P2 (e_Laws_tellsTo_13 n P F A J r0 x3 x4 x5) (d_tells_211 m Fm Am Jm x1 x3m x6) (TRx S r0 P F A Fm Am) := by
  unfold d_tells_211
  refine p2_br (fun v36 h36 => p2_br (fun v37 h37 => ?_))
  have g36 := (gm h36).2.2
  have g37 := (gm h37).2.2
  unfold d_termOf
  refine p2_value (base := 0) (p := p) (c := ai Am 39 x6.toInt) (l := l) hr (.inl rfl) p0 c0 s hL hL4 (by omega) (by omega) ?_ ?_ TFx.rfl' ⟨fun j j0 j1 => by rw [i_0] at j1; omega, fa⟩ (i := 0) (by rw [i_0]; rfl) (by omega) (by omega) (by rw [i_0]; omega) (by decide) s.1.1 t0 t1
  · intro n A2 Am2 x3 x4 x5 v T hv f2 e3 e4 t0 t1
    cases n with
    | zero => intro a b ha; cases ha
    | succ n =>
      unfold e_Laws_tellsTo_13
      refine p2_cl (fun c => ?_) (fun _ => ?_)
      · rw [i_ge] at c; omega
      refine p2_cl (fun c => ?_) (fun _ => ?_)
      · rw [i_lt, i_0] at c; omega
      refine p2_cl (fun c => ?_) (fun _ => ?_)
      · rw [i_ge] at c; omega
      refine p2_bl (fun v5 h5 => p2_bl (fun v6 h6 => ?_))
      have g5 : v5.toInt = 0 := by rw [(gl h5).2.2, e3, ci_fr (T.1 r0 15 (fun e => absurd e.2 (by decide)))]; exact st
      refine p2_cl (fun c => ?_) (fun _ => ?_)
      · rw [i_ne, i_0] at c; omega
      refine p2_cl (fun c => ?_) (fun _ => ?_)
      · rw [i_ne, i_0] at c; omega
      refine p2_bl (fun v16 h16 => ?_)
      have g16 : v16.toInt = v.toInt := by rw [(gl h16).2.2, i_0]; exact hv.symm
      have fr : (P = P ∧ F = F ∧ ∀ r o, ¬ (r = r0 ∧ o = 17) → A2 r o = A r o) ∧ (∀ k, k ≠ 63 → Fm k = Fm k) ∧ ∀ q, q ≠ 46 → Am2 q = Am q := ⟨⟨rfl, rfl, T.1⟩, fun _ _ => rfl, T.2.2⟩
      dsimp only
      refine p2_cr (fun _ => ?_) (fun c => ?_)
      · refine p2_cr (fun c => ?_) (fun c => ?_)
        · rw [i_ge, i_0] at c
          refine p2_br (fun v44 h44 => ?_)
          have g44 := hS v44 _ _ (T.2.2 22 (by decide)) h44
          refine p2_cr (fun c2 => ?_) (fun c2 => ?_)
          · rw [i_lt] at c2
            refine p2_some ⟨?_, fr⟩
            show CLx S v16.toInt v.toInt
            unfold CLx
            rw [if_neg (by omega), if_pos (by omega), g16]
          · rw [i_nlt] at c2
            refine p2_br (fun v46 h46 => ?_)
            have g46 := hS v46 _ _ (T.2.2 22 (by decide)) h46
            refine p2_some ⟨?_, fr⟩
            show CLx S v16.toInt (v46 - 1).toInt
            have r := i_rng v
            rw [i_sub (by rw [i_1]; omega) (by rw [i_1]; omega), i_1]
            unfold CLx
            rw [if_neg (by omega), if_neg (by omega), g46]
        · rw [i_nge, i_0] at c
          refine p2_some ⟨?_, fr⟩
          show CLx S v16.toInt (0 : Int32).toInt
          unfold CLx
          rw [if_pos (by omega), i_0]
      · rw [hz] at c
        exact absurd c (by decide)
  · intro A2 Am2 Fm2 v T hv h63 o63
    dsimp only
    refine p2_cr (fun c => ?_) (fun _ => ?_)
    · rw [h63] at c
      exact absurd c (by decide)
    refine p2_br (fun v47 h47 => p2_some ⟨?_, ⟨rfl, rfl, T.1⟩, o63, T.2.2⟩)
    show CLx S v.toInt v47.toInt
    have g47 := (gm h47).2.2
    rw [ai_fr (T.2.2 54 (by decide))] at g47
    rw [ai_fr (T.2.2 45 (by decide))] at hv
    exact CLx.last (by omega) (by omega) (by omega)
/-- the branches of a law, one by one -/
theorem p2_laws {C : Int} {x1 x3m x5m : Int32} (hr : r0 ≠ 36) (h840 : ∀ b, 0 ≤ b → ai Am0 40 b ≤ 840) (hL4 : (F r0 1304).toInt ≤ 400) (f54 : ai Am0 45 0 = ai Am0 54 x1.toInt) (l0 : 0 ≤ ai Am0 45 0) (l1 : ai Am0 45 0 < S) (hS : ∀ (v : Int32) (A : Nat → Nat → Int32) (J : Nat → Nat → Int64), A 22 = Am0 22 → d_stepsOf Fm A J x3m = some v → v.toInt = S) (hz : Fm 63 = 0) : ∀ {k : Nat} {p b q e : Int}, LPx C r0 A0 Am0 k p b q → FNx C r0 A0 Am0 q (b + k) e → 0 ≤ p → 0 ≤ b → e ≤ (F r0 1304).toInt → ∀ {n m : Nat} {A : Nat → Nat → Nat → Int32} {Am : Nat → Nat → Int32} {x3 x4 x5 x6 : Int32}, (∀ r o, ¬ (r = r0 ∧ o = 17) → A r o = A0 r o) → (∀ q, q ≠ 46 → Am q = Am0 q) → (∀ j, 0 ≤ j → j < 6 → ci A0 36 9 j = ai Am0 45 j) → x3.toInt = p → x4.toInt = -1 → 0 ≤ x5.toInt → x5.toInt ≤ x3.toInt → x6.toInt = b → x5m.toInt = b + k + 1 → P2 (e_Laws_tellsTo_13 n P F A J r0 x3 x4 x5) (d_tells_130 m Fm Am Jm x1 x3m x5m x6) (TRx S r0 P F A0 Fm Am0) := by
  intro k
  induction k with
  | zero =>
    intro p b q e L N p0 b0 he n m A Am x3 x4 x5 x6 oA oM fa e3 e4 t0 t1 e6 e5m
    have L : q = p := L
    subst L
    obtain ⟨l, t36, z39, s, e40, le, c0, ee⟩ := N
    have eb : b + ((0 : Nat) : Int) = b := by omega
    rw [eb] at t36 z39 s e40 le
    have hl := s.1.1
    cases m with
    | zero => intro a b _ hb; cases hb
    | succ m =>
      unfold d_tells_130
      refine p2_cr (fun c => ?_) (fun _ => ?_)
      · rw [i_ge] at c; omega
      refine p2_br (fun v19 h19 => ?_)
      have g19 : v19.toInt = 0 := by rw [(gm h19).2.2, ai_fr (oM 36 (by decide)), e6]; exact t36
      refine p2_cr (fun _ => ?_) (fun c => ?_)
      · refine p2_mono (R := TRx S r0 P F A Fm Am) (Q := TRx S r0 P F A0 Fm Am0) ?_ (fun a b h => h.go oA oM)
        refine p2_211 (p := q) (l := l) hr p0 ?_ ?_ ?_ ?_ ?_ (by omega) hL4 (fun j j0 j1 => ?_) ?_ ?_ ?_ (fun v A J h => hS v A J (h.trans (oM 22 (by decide)))) hz e3 e4 t0 t1
        · rw [ai_fr (oM 39 (by decide)), e6]
          exact s.same (oA r0 15 (fun e => absurd e.2 (by decide))) (oA r0 16 (fun e => absurd e.2 (by decide))) (oM 42 (by decide)) (oM 43 (by decide))
        · rw [ai_fr (oM 39 (by decide)), e6]; exact z39
        · rw [ai_fr (oM 39 (by decide)), ai_fr (oM 40 (by decide)), e6]; exact e40
        · rw [ai_fr (oM 40 (by decide)), e6]; exact h840 b b0
        · rw [ci_fr (oA r0 15 (fun e => absurd e.2 (by decide)))]; exact c0
        · rw [ci_fr (oA 36 9 (fun e => hr e.1.symm)), ai_fr (oM 45 (by decide))]; exact fa j j0 j1
        · rw [ai_fr (oM 45 (by decide)), ai_fr (oM 54 (by decide))]; exact f54
        · rw [ai_fr (oM 45 (by decide))]; exact l0
        · rw [ai_fr (oM 45 (by decide))]; exact l1
      · rw [i_neq, i_0] at c; omega
  | succ k ih =>
    intro p b q e L N p0 b0 he n m A Am x3 x4 x5 x6 oA oM fa e3 e4 t0 t1 e6 e5m
    obtain ⟨p1, ⟨l1', l2, l3, t36, z37, s1, e38, s2, e39, c60, v60, s3, e40, le, c0, eq1⟩, L⟩ := L
    have hl1 := s1.1.1
    have hl2 := s2.1.1
    have hl3 := s3.1.1
    have wle := LPx.le L
    have le8 := h840 b b0
    have qe : q + 1 ≤ e := by
      obtain ⟨l, -, -, s, -, -, -, e⟩ := N
      have := s.1.1
      omega
    cases m with
    | zero => intro a b _ hb; cases hb
    | succ m =>
      have ek : ((k + 1 : Nat) : Int) = (k : Int) + 1 := by omega
      unfold d_tells_130
      refine p2_cr (fun c => ?_) (fun _ => ?_)
      · rw [i_ge] at c; omega
      refine p2_br (fun v19 h19 => ?_)
      have g19 : v19.toInt = 1 := by rw [(gm h19).2.2, ai_fr (oM 36 (by decide)), e6]; exact t36
      refine p2_cr (fun c => ?_) (fun _ => ?_)
      · rw [i_eq, i_0] at c; omega
      refine p2_br (fun v21 h21 => p2_br (fun v22 h22 => ?_))
      have g21 : v21.toInt = ai Am0 37 b := by rw [(gm h21).2.2, ai_fr (oM 37 (by decide)), e6]
      have g22 : v22.toInt = ai Am0 38 b := by rw [(gm h22).2.2, ai_fr (oM 38 (by decide)), e6]
      unfold d_termOf
      have fin : ∀ {A2 : Nat → Nat → Nat → Int32} {Am2 : Nat → Nat → Int32} {Fm2 : Nat → Int32} {v35 w : Int32}, (∀ r o, ¬ (r = r0 ∧ o = 17) → A2 r o = A0 r o) → (∀ k, k ≠ 63 → Fm2 k = Fm k) → (∀ q, q ≠ 46 → Am2 q = Am0 q) → w.toInt = ai Am0 45 0 → m_ld (Am2 54) 6 x1 = some v35 → P2 (some (w, P, F, A2, J)) (some (v35, Fm2, Am2, Jm)) (TRx S r0 P F A0 Fm Am0) := fun {A2 Am2 Fm2 v35 w} oa o63 o2 hw h35 => p2_some ⟨by
        show CLx S w.toInt v35.toInt
        have g := (gm h35).2.2
        rw [ai_fr (o2 54 (by decide))] at g
        exact CLx.last (by omega) (by omega) (by omega), ⟨rfl, rfl, oa⟩, o63, o2⟩
      refine p2_value (base := 0) (p := p) (c := ai Am0 37 b) (l := l1') hr (.inl rfl) p0 z37 (s1.same (oA r0 15 (fun e => absurd e.2 (by decide))) (oA r0 16 (fun e => absurd e.2 (by decide))) (oM 42 (by decide)) (oM 43 (by decide))) (by omega) hL4 (by omega) (by omega) ?_ ?_ TFx.rfl' ⟨fun j j0 j1 => by rw [i_0] at j1; omega, fun j j0 j1 => by rw [ci_fr (oA 36 9 (fun e => hr e.1.symm)), ai_fr (oM 45 (by decide))]; exact fa j j0 j1⟩ (i := 0) (by rw [i_0]; rfl) (by omega) (by omega) (by rw [i_0]; omega) (by decide) hl1 t0 t1
      · intro n A2 Am2 x3 x4 x5 v T2 hv f2 e3 e4 t0 t1
        have oA2 : ∀ r o, ¬ (r = r0 ∧ o = 17) → A2 r o = A0 r o := fun r o h => (T2.1 r o h).trans (oA r o h)
        have oM2 : ∀ q, q ≠ 46 → Am2 q = Am0 q := fun q h => (T2.2.2 q h).trans (oM q h)
        dsimp only
        refine p2_br (fun v27 h27 => p2_br (fun v28 h28 => ?_))
        have g27 : v27.toInt = ai Am0 38 b := by rw [(gm h27).2.2, ai_fr (oM2 38 (by decide)), e6]
        have g28 : v28.toInt = ai Am0 39 b := by rw [(gm h28).2.2, ai_fr (oM2 39 (by decide)), e6]
        refine p2_value (base := 1) (p := p + l1') (c := ai Am0 38 b) (l := l2) hr (.inr rfl) (by omega) (by omega) (s2.same (oA2 r0 15 (fun e => absurd e.2 (by decide))) (oA2 r0 16 (fun e => absurd e.2 (by decide))) (oM2 42 (by decide)) (oM2 43 (by decide))) (by omega) hL4 (by omega) (by omega) ?_ ?_ TFx.rfl' ⟨fun j j0 j1 => by rw [i_0] at j1; omega, f2⟩ (i := 0) (by rw [i_0]; rfl) (by omega) (by omega) (by rw [i_0]; omega) (by decide) hl2 t0 t1
        · intro n A3 Am3 x3 x4 x5 v' T3 hv' f3 e3 e4 t0 t1
          have oA3 : ∀ r o, ¬ (r = r0 ∧ o = 17) → A3 r o = A0 r o := fun r o h => (T3.1 r o h).trans (oA2 r o h)
          have oM3 : ∀ q, q ≠ 46 → Am3 q = Am0 q := fun q h => (T3.2.2 q h).trans (oM2 q h)
          have f3' : ∀ j, 0 ≤ j → j < 6 → ci A3 36 9 j = ai Am3 45 j := f3
          dsimp only
          refine p2_cr (fun _ => ?_) (fun c => ?_)
          · cases n with
            | zero => intro a b ha; cases ha
            | succ n =>
              have q31 := i_p1 (x := x3) (by omega)
              have q51 := i_p1 (x := x5) (by omega)
              have q61 := i_p1 (x := x6) (by have := i_rng x5m; omega)
              have q4a := i_m1p (x := x4) (by omega)
              have q4m := i_m1 (x := x4) (by omega)
              have q4n := i_mm (x := x4) (by omega)
              obtain ⟨x31, hx31⟩ : ∃ z, x3 + 1 = z := ⟨_, rfl⟩
              obtain ⟨x51, hx51⟩ : ∃ z, x5 + 1 = z := ⟨_, rfl⟩
              obtain ⟨x61, hx61⟩ : ∃ z, x6 + 1 = z := ⟨_, rfl⟩
              obtain ⟨x4m, hx4m⟩ : ∃ z, x4 + (-1) = z := ⟨_, rfl⟩
              obtain ⟨x4a, hx4a⟩ : ∃ z, x4m + 1 = z := ⟨_, rfl⟩
              obtain ⟨x4n, hx4n⟩ : ∃ z, x4m + (-1) = z := ⟨_, rfl⟩
              rw [hx31] at q31
              rw [hx51] at q51
              rw [hx61] at q61
              rw [hx4m] at q4m q4a q4n
              rw [hx4a] at q4a
              rw [hx4n] at q4n
              simp only [hx61]
              unfold e_Laws_tellsTo_13
              simp only [hx31]
              refine p2_cl (fun c => ?_) (fun _ => ?_)
              · rw [i_ge] at c; omega
              refine p2_cl (fun c => ?_) (fun _ => ?_)
              · rw [i_lt, i_0] at c; omega
              refine p2_cl (fun c => ?_) (fun _ => ?_)
              · rw [i_ge] at c; omega
              refine p2_bl (fun v5 h5 => p2_bl (fun v6 h6 => ?_))
              have g5 : v5.toInt = 60 := by rw [(gl h5).2.2, e3, ci_fr (oA3 r0 15 (fun e => absurd e.2 (by decide)))]; exact c60
              have g6 : v6.toInt = p1 := by rw [(gl h6).2.2, e3, ci_fr (oA3 r0 16 (fun e => absurd e.2 (by decide)))]; exact v60
              have l2' : (2 : Int32).toInt = 2 := by decide
              have l47 : (47 : Int32).toInt = 47 := by decide
              have l60 : (60 : Int32).toInt = 60 := by decide
              refine p2_cl (fun _ => ?_) (fun c => ?_)
              · refine p2_cl (fun c => ?_) (fun _ => ?_)
                · rw [i_eq, i_1] at c; omega
                refine p2_cl (fun _ => ?_) (fun c => ?_)
                · refine p2_cl (fun c => ?_) (fun _ => ?_)
                  · rw [i_lt, i_1] at c; omega
                  refine p2_cl (fun _ => ?_) (fun c => ?_)
                  · unfold e_Laws_tellsTo_157
                    simp only [hx4m, hx4a]
                    refine p2_cl (fun c => ?_) (fun _ => ?_)
                    · rw [i_ne, l60] at c; omega
                    refine p2_bl (fun v29 h29 => p2_bl (fun v30 h30 => ?_))
                    have g29 : v29.toInt = v.toInt := by
                      rw [(gl h29).2.2, show x4m.toInt = 0 by omega, T3.2.1 rfl, hv]
                    have g30 : v30.toInt = v'.toInt := by
                      rw [(gl h30).2.2, show x4a.toInt = 1 by omega, hv']
                    refine p2_cl (fun c => ?_) (fun c => ?_)
                    · rw [i_ge] at c
                      unfold e_Laws_tellsTo_192 e_Laws_tellsTo_227
                      simp only [hx4n, hx51]
                      refine p2_cr (fun c2 => ?_) (fun _ => ?_)
                      · rw [i_lt] at c2; omega
                      refine ih (b := b + 1) L (by rw [show b + 1 + (k : Int) = b + ((k + 1 : Nat) : Int) by omega]; exact N) (by omega) (by omega) he oA3 oM3 fa g6 (by omega) (by omega) (by omega) (by omega) (by omega)
                    · rw [i_nge] at c
                      unfold e_Laws_tellsTo_192 e_Laws_tellsTo_227
                      simp only [hx4n, hx51]
                      refine p2_cr (fun _ => ?_) (fun c2 => ?_)
                      · refine p2_mono (R := TRx S r0 P F A3 Fm Am3) (Q := TRx S r0 P F A0 Fm Am0) ?_ (fun a b h => h.go oA3 oM3)
                        refine p2_211 (p := p + l1' + l2 + 1) (l := l3) hr (by omega) ?_ ?_ ?_ ?_ ?_ (by omega) hL4 f3' ?_ ?_ ?_ (fun v A J h => hS v A J (h.trans (oM3 22 (by decide)))) hz (by omega) (by omega) (by omega) (by omega)
                        · rw [ai_fr (oM3 39 (by decide)), e6]
                          exact s3.same (oA3 r0 15 (fun e => absurd e.2 (by decide))) (oA3 r0 16 (fun e => absurd e.2 (by decide))) (oM3 42 (by decide)) (oM3 43 (by decide))
                        · rw [ai_fr (oM3 39 (by decide)), e6]; omega
                        · rw [ai_fr (oM3 39 (by decide)), ai_fr (oM3 40 (by decide)), e6]; exact e40
                        · rw [ai_fr (oM3 40 (by decide)), e6]; exact h840 b b0
                        · rw [ci_fr (oA3 r0 15 (fun e => absurd e.2 (by decide)))]; exact c0
                        · rw [ai_fr (oM3 45 (by decide)), ai_fr (oM3 54 (by decide))]; exact f54
                        · rw [ai_fr (oM3 45 (by decide))]; exact l0
                        · rw [ai_fr (oM3 45 (by decide))]; exact l1
                      · rw [i_nlt] at c2; omega
                  · rw [i_nne, l47] at c; omega
                · rw [i_nne, l2'] at c; omega
              · rw [i_nne, i_0] at c; omega
          · rw [hz] at c
            exact absurd c (by decide)
        · intro A3 Am3 Fm3 w T3 hw h63 o63
          have oA3 : ∀ r o, ¬ (r = r0 ∧ o = 17) → A3 r o = A0 r o := fun r o h => (T3.1 r o h).trans (oA2 r o h)
          have oM3 : ∀ q, q ≠ 46 → Am3 q = Am0 q := fun q h => (T3.2.2 q h).trans (oM2 q h)
          dsimp only
          refine p2_cr (fun c => ?_) (fun _ => ?_)
          · rw [h63] at c
            exact absurd c (by decide)
          refine p2_br (fun v35 h35 => fin oA3 o63 oM3 ?_ h35)
          rw [hw, ai_fr (oM3 45 (by decide))]
      · intro A2 Am2 Fm2 w T2 hw h63 o63
        have oA2 : ∀ r o, ¬ (r = r0 ∧ o = 17) → A2 r o = A0 r o := fun r o h => (T2.1 r o h).trans (oA r o h)
        have oM2 : ∀ q, q ≠ 46 → Am2 q = Am0 q := fun q h => (T2.2.2 q h).trans (oM q h)
        dsimp only
        refine p2_br (fun v27 h27 => p2_br (fun v28 h28 => ?_))
        refine p2_r (po_termB h63) ?_
        rintro ⟨v29, F30, A31, J32⟩ ⟨⟨k63, q63⟩, o3⟩
        dsimp only at k63 q63 o3 ⊢
        refine p2_cr (fun c => ?_) (fun _ => ?_)
        · rw [k63] at c
          exact absurd c (by decide)
        refine p2_br (fun v35 h35 => ?_)
        refine p2_some ⟨?_, ⟨rfl, rfl, oA2⟩, fun k hk => (q63 k hk).trans (o63 k hk), fun q hq => (o3 q hq).trans (oM2 q hq)⟩
        show CLx S w.toInt v35.toInt
        have g := (gm h35).2.2
        rw [ai_fr (o3 54 (by decide)), ai_fr (oM2 54 (by decide))] at g
        rw [ai_fr (oM2 45 (by decide))] at hw
        exact CLx.last (by omega) (by omega) (by omega)
end H9ez1
