/-! a term's value, on both sides (draft: to stand behind wip/law's texts) -/
section H9ez
variable {δ : Type} {r0 : Nat} {p c l base : Int} {P : Nat → Nat → Nat} {F : Nat → Nat → Int32} {A A' A0 A1 : Nat → Nat → Nat → Int32} {J : Nat → Nat → Nat → Int64} {Fm : Nat → Int32} {Am Am' Am0 Am1 : Nat → Nat → Int32} {Jm : Nat → Nat → Int64}
theorem p2_bbr {α β γ δ : Type} {o : Option α} {fo : α → Option β} {g : β → Option γ} {z : Option δ} {Q : δ → γ → Prop} (h : ∀ a, o = some a → P2 z ((fo a).bind g) Q) : P2 z ((o.bind fo).bind g) Q := by
  intro x y hx hy
  obtain ⟨q, hq, hy⟩ := Option.bind_eq_some_iff.mp hy
  obtain ⟨a, ha, hq⟩ := Option.bind_eq_some_iff.mp hq
  exact h a ha x y hx (Option.bind_eq_some_iff.mpr ⟨q, hq, hy⟩)
theorem gg_pfz {F F' : Nat → Int32} {k : Nat} {x : Int32} (h : m_pfz F k x = some F') : F' k = x ∧ ∀ q, q ≠ k → F' q = F q := by
  unfold m_pfz at h
  split at h
  · cases h
    exact ⟨if_pos rfl, fun _ h => if_neg h⟩
  · cases h
theorem i_p1 {x : Int32} (h : x.toInt < 2147483647) : (x + 1).toInt = x.toInt + 1 := by
  have r := i_rng x
  rw [i_add (by rw [i_1]; omega) (by rw [i_1]; omega), i_1]
theorem i_m1 {x : Int32} (h : -2147483648 < x.toInt) : (x + (-1)).toInt = x.toInt - 1 := by
  have r := i_rng x
  have l : (-1 : Int32).toInt = -1 := by decide
  rw [i_add (by rw [l]; omega) (by rw [l]; omega), l]
  omega
theorem i_m1p {x : Int32} (h : -2147483648 < x.toInt) : (x + (-1) + 1).toInt = x.toInt := by
  have r := i_rng x
  have e := i_m1 h
  rw [i_p1 (by rw [e]; omega), e]
  omega
theorem i_m2 {x : Int32} (h : -2147483647 < x.toInt) : (x + (-1) - 1).toInt = x.toInt - 2 := by
  have r := i_rng x
  have e := i_m1 (x := x) (by omega)
  rw [i_sub (by rw [e, i_1]; omega) (by rw [e, i_1]; omega), e, i_1]
  omega
theorem dpm_sg {d : Nat} (S : SGx d A Am p c l) : ∀ k : Nat, (k : Int) ≤ l → 0 ≤ dpm Am c k
  | 0, _ => Int.le_refl 0
  | k + 1, h => by
    have ih := dpm_sg S k (by omega)
    have w := (S.2.1 (k : Int) (by omega) (by omega)).2
    rw [Int.toNat_natCast] at w
    show 0 ≤ (if ai Am 42 (c + (k : Int)) < 2 then dpm Am c k + 1 else dpm Am c k - 1)
    by_cases e : ai Am 42 (c + (k : Int)) < 2
    · rw [if_pos e]
      omega
    · rw [if_neg e]
      have := w (by omega)
      omega
/-- both piles, and what a law may ask for -/
def TEx (r0 : Nat) (base h : Int) (A : Nat → Nat → Nat → Int32) (Am : Nat → Nat → Int32) : Prop := (∀ j, 0 ≤ j → j < h → ci A r0 17 (base + j) = ai Am 46 j) ∧ ∀ j, 0 ≤ j → j < 6 → ci A 36 9 j = ai Am 45 j
def TFx (r0 : Nat) (base : Int) (A A' : Nat → Nat → Nat → Int32) (Am Am' : Nat → Nat → Int32) : Prop := (∀ r o, ¬ (r = r0 ∧ o = 17) → A' r o = A r o) ∧ (base = 1 → ci A' r0 17 0 = ci A r0 17 0) ∧ ∀ q, q ≠ 46 → Am' q = Am q
theorem TFx.rfl' : TFx r0 base A A Am Am := ⟨fun _ _ _ => rfl, fun _ => rfl, fun _ _ => rfl⟩
theorem TFx.tr (h : TFx r0 base A A1 Am Am1) (h' : TFx r0 base A1 A' Am1 Am') : TFx r0 base A A' Am Am' := ⟨fun r o e => (h'.1 r o e).trans (h.1 r o e), fun e => (h'.2.1 e).trans (h.2.1 e), fun q e => (h'.2.2 q e).trans (h.2.2 q e)⟩
/-- both sides put a value at the same place of their piles -/
theorem TE_put {i j x y : Int32} {n : Nat} {h h' : Int} (b01 : base = 0 ∨ base = 1) (T : TEx r0 base h A Am) (h1 : c_st A r0 17 n i x = some A') (h2 : m_st Am 46 400 j y = some Am') (ei : i.toInt = base + j.toInt) (e : x.toInt = y.toInt) (hr : r0 ≠ 36) (j0 : 0 ≤ j.toInt) (hh : h' ≤ h + 1) (hj : j.toInt = h' - 1) : TEx r0 base h' A' Am' ∧ TFx r0 base A A' Am Am' := by
  have U := (gg_cst h1).2.2
  have g := gg_st h2
  refine ⟨⟨fun k k0 k1 => ?_, fun k k0 k1 => ?_⟩, fun r o e => U.2.2 r o e, fun e1 => ?_, g.2.2.1⟩
  · by_cases e2 : k = j.toInt
    · rw [e2, ← ei, U.1, g.2.2.2.1, e]
    · rw [U.2.1 (base + k) (by omega) (by omega), g.2.2.2.2 k k0 e2]
      exact T.1 k k0 (by omega)
  · rw [ci_fr (U.2.2 36 9 (fun e => hr e.1.symm)), ai_fr (g.2.2.1 45 (by decide))]
    exact T.2 k k0 k1
  · exact U.2.1 0 (by omega) (by omega)
theorem p2_value {Q : cR Int32 → δ → Prop} {kont : mR Int32 → Option δ} {xe : Int32} (hr : r0 ≠ 36) (b01 : base = 0 ∨ base = 1) (p0 : 0 ≤ p) (c0 : 0 ≤ c) (S : SGT r0 A0 Am0 p c l) (hL : p + l < (F r0 1304).toInt) (hL4 : (F r0 1304).toInt ≤ 400) (hxe : xe.toInt = c + l) (hce : c + l ≤ 840)
    (kg : ∀ {n : Nat} {A : Nat → Nat → Nat → Int32} {Am : Nat → Nat → Int32} {x3 x4 x5 v : Int32}, TFx r0 base A0 A Am0 Am → v.toInt = ci A r0 17 base → (∀ j, 0 ≤ j → j < 6 → ci A 36 9 j = ai Am 45 j) → x3.toInt = p + l → x4.toInt = base → 0 ≤ x5.toInt → x5.toInt ≤ x3.toInt → P2 (e_Laws_tellsTo_13 n P F A J r0 x3 x4 x5) (kont (v, Fm, Am, Jm)) Q)
    (kb : ∀ {A : Nat → Nat → Nat → Int32} {Am : Nat → Nat → Int32} {Fm' : Nat → Int32} {v : Int32}, TFx r0 base A0 A Am0 Am → v.toInt = ai Am 45 0 → Fm' 63 = 1 → (∀ q, q ≠ 63 → Fm' q = Fm q) → P2 (some (v, P, F, A, J)) (kont (0, Fm', Am, Jm)) Q) :
    ∀ {n m : Nat} {A : Nat → Nat → Nat → Int32} {Am : Nat → Nat → Int32} {x3 x4 x5 h xm : Int32} {i : Int}, TFx r0 base A0 A Am0 Am → TEx r0 base h.toInt A Am → h.toInt = dpm Am0 c i.toNat → x3.toInt = p + i → xm.toInt = c + i → x4.toInt = base + h.toInt - 1 → 0 ≤ i → i ≤ l → 0 ≤ x5.toInt → x5.toInt ≤ x3.toInt → P2 (e_Laws_tellsTo_13 n P F A J r0 x3 x4 x5) ((d_termOf_5 m Fm Am Jm xe h xm).bind kont) Q := by
  have l1 : (1 : Int32).toInt = 1 := by decide
  have lm : (-1 : Int32).toInt = -1 := by decide
  have l2 : (2 : Int32).toInt = 2 := by decide
  have l32 : (Int32.ofNat 32).toInt = 32 := by decide
  intro n
  induction n with
  | zero => intro m A Am x3 x4 x5 h xm i _ _ _ _ _ _ _ _ _ _ a b ha; cases ha
  | succ n ih =>
    intro m A Am x3 x4 x5 h xm i T E eh e3 em e4 i0 il t0 t1
    cases m with
    | zero => intro a b _ hb; cases hb
    | succ m =>
      unfold d_termOf_5
      by_cases e : i = l
      · refine p2_bind_cr (fun _ => ?_) (fun c1 => ?_)
        · refine p2_bbr (fun v2 h2 => ?_)
          have hl : h.toInt = 1 := by rw [eh, e]; exact S.2
          have q2 : v2.toInt = ci A r0 17 base := by
            have w := E.1 0 (by decide) (by omega)
            rw [Int.add_zero] at w
            rw [(gg_ld h2).2.2, i_0, w]
            rfl
          exact kg T q2 E.2 (by omega) (by omega) t0 t1
        · rw [i_nge] at c1
          omega
      have lt : i < l := by omega
      refine p2_bind_cr (fun c1 => ?_) (fun _ => ?_)
      · rw [i_ge] at c1
        omega
      unfold e_Laws_tellsTo_13
      refine p2_cl (fun c1 => ?_) (fun _ => ?_)
      · rw [i_ge] at c1
        omega
      refine p2_cl (fun c1 => ?_) (fun _ => ?_)
      · rw [i_lt, i_0] at c1
        omega
      refine p2_cl (fun c1 => ?_) (fun _ => ?_)
      · rw [i_ge] at c1
        omega
      refine p2_bl (fun v5 h5 => p2_bl (fun v6 h6 => ?_))
      refine p2_bbr (fun w3 k3 => ?_)
      have ne : ∀ o, o ≠ 17 → A r0 o = A0 r0 o := fun o ho => T.1 r0 o (fun e => ho e.2)
      have q5 : v5.toInt = ci A0 r0 15 (p + i) := by rw [(gg_ld h5).2.2, e3, ne 15 (by decide)]; rfl
      have q6 : v6.toInt = ci A0 r0 16 (p + i) := by rw [(gg_ld h6).2.2, e3, ne 16 (by decide)]; rfl
      have qk : w3.toInt = ai Am0 42 (c + i) := by rw [(gg_ld k3).2.2, em, T.2.2 42 (by decide)]; rfl
      obtain ⟨hce', hdp⟩ := S.1.2.1 i i0 lt
      have dn := S.1.2.2 (i + 1) (by omega) (by omega)
      have d0 := S.1.2.2 i i0 il
      have ds : dpm Am0 c (i + 1).toNat = if ai Am0 42 (c + i) < 2 then dpm Am0 c i.toNat + 1 else dpm Am0 c i.toNat - 1 := by
        rw [show (i + 1).toNat = i.toNat + 1 by omega]
        show (if ai Am0 42 (c + (i.toNat : Int)) < 2 then dpm Am0 c i.toNat + 1 else dpm Am0 c i.toNat - 1) = _
        rw [Int.toNat_of_nonneg i0]
      have hn : 0 ≤ h.toInt := by rw [eh]; exact dpm_sg S.1 i.toNat (by omega)
      rw [← q5, ← q6, ← qk] at hce'
      rw [← qk] at ds hdp
      rw [← eh] at d0 ds hdp
      have b3 : x3.toInt < 2147483647 := by omega
      have b5 : x5.toInt < 2147483647 := by omega
      have bm : xm.toInt < 2147483647 := by omega
      have bh : h.toInt < 2147483647 := by omega
      have b4 : x4.toInt < 2147483647 := by omega
      have b4' : -2147483648 < x4.toInt := by omega
      have bh' : -2147483648 < h.toInt := by omega
      have bh2 : -2147483647 < h.toInt := by omega
      have q31 := i_p1 b3
      have q51 := i_p1 b5
      have qm1 := i_p1 bm
      have qh1 := i_p1 bh
      have q41 := i_p1 b4
      have q4m := i_m1 b4'
      have qhm := i_m1 bh'
      have q4a := i_m1p b4'
      have qhs := i_m2 bh2
      obtain ⟨x31, hx31⟩ : ∃ z, x3 + 1 = z := ⟨_, rfl⟩
      obtain ⟨x51, hx51⟩ : ∃ z, x5 + 1 = z := ⟨_, rfl⟩
      obtain ⟨xm1, hxm1⟩ : ∃ z, xm + 1 = z := ⟨_, rfl⟩
      obtain ⟨h1', hh1⟩ : ∃ z, h + 1 = z := ⟨_, rfl⟩
      obtain ⟨x41, hx41⟩ : ∃ z, x4 + 1 = z := ⟨_, rfl⟩
      obtain ⟨x4m, hx4m⟩ : ∃ z, x4 + (-1) = z := ⟨_, rfl⟩
      obtain ⟨x4a, hx4a⟩ : ∃ z, x4m + 1 = z := ⟨_, rfl⟩
      obtain ⟨hm, hhm⟩ : ∃ z, h + (-1) = z := ⟨_, rfl⟩
      obtain ⟨hs, hhs⟩ : ∃ z, hm - 1 = z := ⟨_, rfl⟩
      rw [hx31] at q31
      rw [hx51] at q51
      rw [hxm1] at qm1
      rw [hh1] at qh1
      rw [hx41] at q41
      rw [hx4m] at q4m q4a
      rw [hx4a] at q4a
      rw [hhm] at qhm qhs
      rw [hhs] at qhs
      simp only [hx31, hx51, hxm1, hh1, hx41, hx4m, hx4a, hhm, hhs]
      -- a value is put on both piles
      have push : ∀ {s t : Int32} {A2 : Nat → Nat → Nat → Int32} {Am2 : Nat → Nat → Int32}, w3.toInt < 2 → c_st A r0 17 32 x41 s = some A2 → m_st Am 46 400 h t = some Am2 → s.toInt = t.toInt → P2 (e_Laws_tellsTo_13 n P F A2 J r0 x31 x41 x51) ((d_termOf_5 m Fm Am2 Jm xe h1' xm1).bind kont) Q := fun {s t A2 Am2} hk g1 g2 gs => by
        rw [if_pos hk] at ds
        obtain ⟨E2, T2⟩ := TE_put (h' := h1'.toInt) b01 E g1 g2 (by omega) gs hr hn (by omega) (by omega)
        exact ih (i := i + 1) (T.tr T2) E2 (by omega) (by omega) (by omega) (by omega) (by omega) (by omega) (by omega) (by omega)
      rcases hce' with ⟨a1, k1, z1⟩ | ⟨a1, k1, z1⟩ | hop
      · -- a number
        refine p2_cl (fun _ => ?_) (fun c1 => ?_)
        · refine p2_cl (fun _ => ?_) (fun c1 => ?_)
          · unfold e_Laws_tellsTo_88
            simp only [hx41]
            refine p2_cl (fun _ => ?_) (fun c1 => ?_)
            · refine p2_cl (fun c1 => ?_) (fun _ => ?_)
              · rw [i_ne, l1] at c1
                omega
              · unfold e_Laws_tellsTo_126
                refine p2_bl (fun A32 h32 => ?_)
                refine p2_bind_cr (fun c1 => ?_) (fun _ => ?_)
                · rw [i_ge, l2] at c1
                  omega
                refine p2_bind_cr (fun c1 => ?_) (fun _ => ?_)
                · rw [i_ne, i_0] at c1
                  omega
                refine p2_bbr (fun v14 h14 => ?_)
                unfold d_termOf_58
                refine p2_bbr (fun A20 h20 => ?_)
                unfold d_termOf_159 e_Laws_tellsTo_227
                simp only [hx51, hh1, hxm1]
                have q14 : v14.toInt = ai Am0 43 (c + i) := by rw [(gg_ld h14).2.2, em, T.2.2 43 (by decide)]; rfl
                exact push (by omega) h32 h20 (by omega)
            · rw [i_nlt, l32] at c1
              omega
          · rw [i_neq, l1] at c1
            omega
        · rw [i_nne, i_0] at c1
          omega
      · -- a fact
        refine p2_cl (fun _ => ?_) (fun c1 => ?_)
        · refine p2_cl (fun c1 => ?_) (fun _ => ?_)
          · rw [i_eq, l1] at c1
            omega
          refine p2_cl (fun c1 => ?_) (fun _ => ?_)
          · rw [i_ne, l2] at c1
            omega
          unfold e_Laws_tellsTo_88
          simp only [hx41]
          refine p2_cl (fun _ => ?_) (fun c1 => ?_)
          · refine p2_cl (fun _ => ?_) (fun c1 => ?_)
            · refine p2_bl (fun v20 h20 => p2_bl (fun A21 h21 => ?_))
              refine p2_bind_cr (fun c1 => ?_) (fun _ => ?_)
              · rw [i_ge, l2] at c1
                omega
              refine p2_bind_cr (fun _ => ?_) (fun c1 => ?_)
              · refine p2_bbr (fun v11 h11 => p2_bbr (fun v12 h12 => p2_bbr (fun A13 h13 => ?_)))
                unfold d_termOf_159 e_Laws_tellsTo_227
                simp only [hx51, hh1, hxm1]
                have q11 : v11.toInt = v6.toInt := by rw [(gg_ld h11).2.2, em, T.2.2 43 (by decide)]; exact z1.symm
                have g20 := gg_ld h20
                have g12 := gg_ld h12
                have q20 : v20.toInt = v12.toInt := by
                  rw [g20.2.2, g12.2.2, q11]
                  exact E.2 v6.toInt g20.1 g20.2.1
                exact push (by omega) h21 h13 q20
              · rw [i_nne, i_0] at c1
                omega
            · rw [i_nne, l1] at c1
              omega
          · rw [i_nlt, l32] at c1
            omega
        · rw [i_nne, i_0] at c1
          omega
      · -- two values are joined
        have h2 : 2 ≤ w3.toInt := by omega
        have hd := hdp h2
        rw [if_neg (by omega)] at ds
        have eT : ∀ j, 0 ≤ j → j < h.toInt → ci A r0 17 (base + j) = ai Am 46 j := E.1
        have pop : ∀ {s t : Int32} {A2 : Nat → Nat → Nat → Int32} {Am2 : Nat → Nat → Int32}, c_st A r0 17 32 x4m s = some A2 → m_st Am 46 400 hs t = some Am2 → s.toInt = t.toInt → P2 (e_Laws_tellsTo_13 n P F A2 J r0 x31 x4m x51) ((d_termOf_5 m Fm Am2 Jm xe hm xm1).bind kont) Q := fun {s t A2 Am2} g1 g2 gs => by
          obtain ⟨E2, T2⟩ := TE_put (h' := hm.toInt) b01 E g1 g2 (by omega) gs hr (by omega) (by omega) (by omega)
          exact ih (i := i + 1) (T.tr T2) E2 (by omega) (by omega) (by omega) (by omega) (by omega) (by omega) (by omega) (by omega)
        have l5 : (5 : Int32).toInt = 5 := by decide
        have l3 : (3 : Int32).toInt = 3 := by decide
        have l4 : (4 : Int32).toInt = 4 := by decide
        have l60 : (60 : Int32).toInt = 60 := by decide
        have l47 : (47 : Int32).toInt = 47 := by decide
        refine p2_cl (fun _ => ?_) (fun c1 => ?_)
        · refine p2_cl (fun c1 => ?_) (fun _ => ?_)
          · rw [i_eq, l1] at c1
            omega
          refine p2_cl (fun _ => ?_) (fun c1 => ?_)
          · refine p2_cl (fun c1 => ?_) (fun _ => ?_)
            · rw [i_lt, l1] at c1
              omega
            refine p2_bind_cr (fun _ => ?_) (fun c1 => ?_)
            · refine p2_bbr (fun u5 g5 => p2_bbr (fun u6 g6 => ?_))
              have fin : ∀ {z : Int32}, e_Laws_joined P F A J v5 u5 u6 = some z → P2 (e_Laws_tellsTo_157 (e_Laws_tellsTo_13 n) n P F A J r0 x31 x4 x5 v5 v6) (((m_st Am 46 400 hs z).bind fun A21 => d_termOf_5 m Fm A21 Jm xe hm xm1).bind kont) Q := fun {z} hz => by
                unfold e_Laws_tellsTo_157
                simp only [hx4m, hx4a, hx51]
                refine p2_cl (fun _ => ?_) (fun c1 => ?_)
                · refine p2_bl (fun v25 h25 => p2_bl (fun v26 h26 => ?_))
                  have w25 : v25 = u5 := i_ext (by
                    rw [(gg_ld h25).2.2, (gg_ld g5).2.2]
                    have := eT hs.toInt (by omega) (by omega)
                    rw [show base + hs.toInt = x4m.toInt by omega] at this
                    exact this)
                  have w26 : v26 = u6 := i_ext (by
                    rw [(gg_ld h26).2.2, (gg_ld g6).2.2]
                    have := eT hm.toInt (by omega) (by omega)
                    rw [show base + hm.toInt = x4a.toInt by omega] at this
                    exact this)
                  subst w25
                  subst w26
                  refine p2_bl (fun v27 h27 => ?_)
                  rw [hz] at h27
                  cases h27
                  refine p2_bl (fun A28 h28 => ?_)
                  exact p2_bbr (fun A21 h21 => pop h28 h21 rfl)
                · rw [i_nne, l60] at c1
                  omega
              rcases hop with ⟨a1, k1⟩ | ⟨a1, k1⟩ | ⟨a1, k1⟩ | ⟨a1, k1⟩
              · obtain rfl : v5 = 43 := i_ext a1
                refine p2_cl (fun _ => ?_) (fun c1 => absurd c1 (by decide))
                refine p2_bind_cr (fun _ => ?_) (fun c1 => ?_)
                · unfold d_termOf_104
                  simp only [hhs, hxm1]
                  refine p2_bind_cr (fun c1 => ?_) (fun _ => ?_)
                  · rw [i_ne, l2] at c1
                    omega
                  · unfold d_termOf_158
                    simp only [hxm1]
                    exact fin rfl
                · rw [i_nne, l5] at c1
                  omega
              · obtain rfl : v5 = 45 := i_ext a1
                refine p2_cl (fun _ => ?_) (fun c1 => absurd c1 (by decide))
                refine p2_bind_cr (fun _ => ?_) (fun c1 => ?_)
                · unfold d_termOf_104
                  simp only [hhs, hxm1]
                  refine p2_bind_cr (fun _ => ?_) (fun c1 => ?_)
                  · refine p2_bind_cr (fun c1 => ?_) (fun _ => ?_)
                    · rw [i_ne, l3] at c1
                      omega
                    · unfold d_termOf_158
                      simp only [hxm1]
                      exact fin rfl
                  · rw [i_nne, l2] at c1
                    omega
                · rw [i_nne, l5] at c1
                  omega
              · obtain rfl : v5 = 42 := i_ext a1
                refine p2_cl (fun _ => ?_) (fun c1 => absurd c1 (by decide))
                refine p2_bind_cr (fun _ => ?_) (fun c1 => ?_)
                · unfold d_termOf_104
                  simp only [hhs, hxm1]
                  refine p2_bind_cr (fun _ => ?_) (fun c1 => ?_)
                  · refine p2_bind_cr (fun _ => ?_) (fun c1 => ?_)
                    · refine p2_bind_cr (fun c1 => ?_) (fun _ => ?_)
                      · rw [i_ne, l4] at c1
                        omega
                      · unfold d_termOf_158
                        simp only [hxm1]
                        exact fin rfl
                    · rw [i_nne, l3] at c1
                      omega
                  · rw [i_nne, l2] at c1
                    omega
                · rw [i_nne, l5] at c1
                  omega
              · obtain rfl : v5 = 47 := i_ext a1
                refine p2_cl (fun c1 => absurd c1 (by decide)) (fun _ => ?_)
                refine p2_bl (fun v12 h12 => ?_)
                have w12 : v12 = u6 := i_ext (by
                  rw [(gg_ld h12).2.2, (gg_ld g6).2.2]
                  have := eT hm.toInt (by omega) (by omega)
                  rw [show base + hm.toInt = x4.toInt by omega] at this
                  exact this)
                subst w12
                refine p2_bind_cr (fun c1 => ?_) (fun _ => ?_)
                · rw [i_ne, l5] at c1
                  omega
                refine p2_cl (fun c2 => ?_) (fun c2 => ?_)
                · refine p2_bind_cr (fun _ => ?_) (fun c3 => ?_)
                  · unfold d_termOf_104
                    simp only [hhs, hxm1]
                    refine p2_bind_cr (fun _ => ?_) (fun c1 => ?_)
                    · refine p2_bind_cr (fun _ => ?_) (fun c1 => ?_)
                      · refine p2_bind_cr (fun _ => ?_) (fun c1 => ?_)
                        · refine p2_bbr (fun v18 h18 => ?_)
                          refine fin ?_
                          show (cond (g_cnd .ne v12 0) ((m_div u5 v12).bind fun v5 => some v5) (some 0)) = some v18
                          rw [c2]
                          show (m_div u5 v12).bind (fun v5 => some v5) = some v18
                          rw [h18]
                          rfl
                        · rw [i_nne, l4] at c1
                          omega
                      · rw [i_nne, l3] at c1
                        omega
                    · rw [i_nne, l2] at c1
                      omega
                  · exact absurd (c2.symm.trans c3) (by decide)
                · refine p2_bind_cr (fun c3 => ?_) (fun _ => ?_)
                  · exact absurd (c3.symm.trans c2) (by decide)
                  · refine p2_bbr (fun F9 h9 => ?_)
                    unfold e_Laws_tellsTo_153
                    refine p2_bl (fun v23 h23 => ?_)
                    have u := gg_pfz h9
                    have q23 : v23.toInt = ai Am 45 0 := by
                      rw [(gg_ld h23).2.2, i_0]
                      exact E.2 0 (by decide) (by decide)
                    exact kb T q23 u.1 u.2
            · rw [i_nge, l2] at c1
              omega
          · rw [i_nne, l2] at c1
            omega
        · rw [i_nne, i_0] at c1
          omega
end H9ez
