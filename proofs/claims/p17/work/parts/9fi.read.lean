/-! read, on both sides, with all that is shared -/
section H9fi
variable {n m : Nat} {h d : Nat} {l p q b e C B last : Int} {P P' : Nat → Nat → Nat} {F F' : Nat → Nat → Int32} {A A' : Nat → Nat → Nat → Int32} {J : Nat → Nat → Nat → Int64} {Fm Fm' : Nat → Int32} {Am Am' : Nat → Nat → Int32} {Jm : Nat → Nat → Int64}
/-- a live side that stays: its laws -/
theorem LSm.b5 (L : LSm l Am Am') (b0 : 50 * l ≤ b) (b1 : b < 50 * l + 50) : ai Am' 36 b = ai Am 36 b ∧ ai Am' 37 b = ai Am 37 b ∧ ai Am' 38 b = ai Am 38 b ∧ ai Am' 39 b = ai Am 39 b ∧ ai Am' 40 b = ai Am 40 b := ⟨L 36 b b0 b1, L 37 b b0 b1, L 38 b b0 b1, L 39 b b0 b1, L 40 b b0 b1⟩
theorem LSm.c2 (L : LSm l Am Am') : ∀ i, 420 * l ≤ i → i < 420 * l + 420 → ai Am' 42 i = ai Am 42 i ∧ ai Am' 43 i = ai Am 43 i := fun i a b => ⟨L 42 i a b, L 43 i a b⟩
theorem BRx.ls (h : BRx C d A Am p b q) (L : LSm l Am Am') (b0 : 50 * l ≤ b) (b1 : b < 50 * l + 50) (c0 : 420 * l ≤ ai Am 37 b) (c1 : ai Am 40 b ≤ 420 * l + 420) : BRx C d A Am' p b q := by
  obtain ⟨l1, l2, l3, t, z, s1, e1, s2, e2, k1, k2, s3, e3, hC, k3, e⟩ := h
  obtain ⟨r36, r37, r38, r39, r40⟩ := L.b5 b0 b1
  have fm := L.c2
  have g1 := s1.1.1
  have g2 := s2.1.1
  have g3 := s3.1.1
  unfold BRx
  rw [r36, r37, r38, r39, r40]
  exact ⟨l1, l2, l3, t, z, s1.fr (fun _ _ _ => ⟨rfl, rfl⟩) (fun i a b => fm i (by omega) (by omega)), e1, s2.fr (fun _ _ _ => ⟨rfl, rfl⟩) (fun i a b => fm i (by omega) (by omega)), e2, k1, k2, s3.fr (fun _ _ _ => ⟨rfl, rfl⟩) (fun i a b => fm i (by omega) (by omega)), e3, hC, k3, e⟩
theorem FNx.ls (h : FNx C d A Am p b e) (L : LSm l Am Am') (b0 : 50 * l ≤ b) (b1 : b < 50 * l + 50) (c0 : 420 * l ≤ ai Am 39 b) (c1 : ai Am 40 b ≤ 420 * l + 420) : FNx C d A Am' p b e := by
  obtain ⟨l1, t, z, s1, e1, hC, k3, e⟩ := h
  obtain ⟨r36, -, -, r39, r40⟩ := L.b5 b0 b1
  have fm := L.c2
  have g1 := s1.1.1
  unfold FNx
  rw [r36, r39, r40]
  exact ⟨l1, t, z, s1.fr (fun _ _ _ => ⟨rfl, rfl⟩) (fun i a b => fm i (by omega) (by omega)), e1, hC, k3, e⟩
theorem LPx.ls (L : LSm l Am Am') : ∀ {n : Nat} {p b q : Int}, LPx C d A Am n p b q → (∀ b', b ≤ b' → b' < b + n → 50 * l ≤ b' ∧ b' < 50 * l + 50 ∧ ai Am 40 b' ≤ 420 * l + 420 ∧ (ai Am 36 b' = 1 → 420 * l ≤ ai Am 37 b')) → LPx C d A Am' n p b q
  | 0, p, b, q, h, _ => h
  | n + 1, p, b, q, h, g => by
    obtain ⟨p1, h1, h2⟩ := h
    obtain ⟨g1, g2, g3, g4⟩ := g b (Int.le_refl _) (by omega)
    have z : ai Am 36 b = 1 := by
      obtain ⟨-, -, -, t, -⟩ := h1
      exact t
    exact ⟨p1, h1.ls L g1 g2 (g4 z) g3, LPx.ls L h2 (fun b' a c => g b' (by omega) (by omega))⟩
theorem LWx.ls (h : LWx C B d A Am p b last e) (L : LSm l Am Am') (g : ∀ b', b ≤ b' → b' < last → 50 * l ≤ b' ∧ b' < 50 * l + 50 ∧ 420 * l ≤ ai Am 39 b' ∧ ai Am 40 b' ≤ 420 * l + 420 ∧ (ai Am 36 b' = 1 → 420 * l ≤ ai Am 37 b')) : LWx C B d A Am' p b last e := by
  obtain ⟨p0, b0, hb, n, q, h1, h2, e1⟩ := h
  obtain ⟨g1, g2, g3, g4, -⟩ := g (b + n) (by omega) (by omega)
  exact ⟨p0, b0, hb, n, q, h1.ls L (fun b' a c => by
    obtain ⟨w1, w2, -, w4, w5⟩ := g b' a (by omega)
    exact ⟨w1, w2, w4, w5⟩), h2.ls L g1 g2 g3 g4, e1⟩
/-- the house in use, when the reference's other side alone has changed -/
theorem NHx.ls (H : NHx h F A Fm Am) (S : SAm Fm Am) (e18 : Fm' 18 = Fm 18) (L : LSm (Fm 18).toInt Am Am') (h40 : ∀ b, 0 ≤ b → ai Am' 40 b ≤ 840) : NHx h F A Fm' Am' := by
  obtain ⟨h1, h2, h3, h4, h5, h6, h7, h8, h10, h9⟩ := H
  have hm : (F h 17).toInt = ai Am 29 (Fm 18).toInt := by
    have e : F h 17 = Am 29 (Fm 18).toInt.toNat := h1.1 3 (by decide)
    rw [e]
    rfl
  have one : ∀ {j : Nat}, sgm j = 1 → ai Am' j (Fm 18).toInt = ai Am j (Fm 18).toInt := fun {j} hj => L j (Fm 18).toInt (by rw [hj]; omega) (by rw [hj]; omega)
  have six : ∀ {j : Nat} {k : Int}, sgm j = 6 → 0 ≤ k → k < 6 → ai Am' j (6 * (Fm 18).toInt + k) = ai Am j (6 * (Fm 18).toInt + k) := fun {j k} hj k0 k1 => L j _ (by rw [hj]; omega) (by rw [hj]; omega)
  have twl : ∀ {j : Nat} {k : Int}, sgm j = 12 → 0 ≤ k → k < 12 → ai Am' j (12 * (Fm 18).toInt + k) = ai Am j (12 * (Fm 18).toInt + k) := fun {j k} hj k0 k1 => L j _ (by rw [hj]; omega) (by rw [hj]; omega)
  have stp : ∀ {j : Nat} {t u : Int}, sgm j = 36 → 0 ≤ t → t < 6 → 0 ≤ u → u < 6 → ai Am' j (6 * (6 * (Fm 18).toInt + t) + u) = ai Am j (6 * (6 * (Fm 18).toInt + t) + u) := fun {j t u} hj t0 t1 u0 u1 => L j _ (by rw [hj]; omega) (by rw [hj]; omega)
  refine ⟨h1.ls S e18 L h7.2.2.2.1.2, ?_, ?_, h4, by rw [e18]; exact h5, h6, h7, h8, h40, h9⟩
  · obtain ⟨d1, t1, r1, m1, n1⟩ := h2
    unfold HWx RWs RWn
    rw [e18]
    refine ⟨fun k k0 k1 => ?_, fun k k0 k1 => ?_, fun t u t0 t1' u0 u1 => ?_, fun k k0 k1 => ?_, ?_⟩
    · rw [twl (j := 13) rfl k0 (by omega), twl (j := 14) rfl k0 (by omega), twl (j := 15) rfl k0 (by omega)]
      exact d1 k k0 k1
    · rw [six (j := 20) rfl k0 (by omega)]
      exact t1 k k0 k1
    · have u6 := (h6 t t0).2.1
      rw [stp (j := 23) rfl t0 (by omega) u0 (by omega), stp (j := 24) rfl t0 (by omega) u0 (by omega), stp (j := 25) rfl t0 (by omega) u0 (by omega), stp (j := 26) rfl t0 (by omega) u0 (by omega), stp (j := 27) rfl t0 (by omega) u0 (by omega), stp (j := 28) rfl t0 (by omega) u0 (by omega)]
      exact r1 t u t0 t1' u0 u1
    · rw [six (j := 30) rfl k0 (by omega)]
      exact m1 k k0 k1
    · unfold RWn at n1
      rw [n1]
      exact i_ext (one (j := 41) rfl).symm
  · intro k k0 k1
    rw [e18, six (j := 34) rfl k0 (by omega), six (j := 35) rfl k0 (by omega)]
    rcases h3 k k0 k1 with w | ⟨C, B, e, w, le⟩
    · exact .inl w
    · exact .inr ⟨C, B, e, w.ls L (fun b' a c => S.2.2.2.1 k k0 (by rw [← hm]; exact k1) b' a c), le⟩
theorem v_enter {r1 : Nat} : po (e_Evening_enter P F A J r1) (fun z => z.2.1 0 8 = P 0 8 ∧ (∀ r k, ¬ (r = 36 ∧ k = 101) → ¬ (r = 32 ∧ k = 6) → z.2.2.1 r k = F r k) ∧ z.2.2.1 36 101 = -1 ∧ z.2.2.2.1 = A) := by
  unfold e_Evening_enter
  refine po_bl (fun P1 h1 => ?_)
  have u1 := gg_cpp h1
  have dr : po (e_Ways_drop P1 F A J) (fun z => z.2.1 = P1 ∧ FUm F z.2.2.1 36 101 (-1) ∧ z.2.2.2.1 = A) := by
    unfold e_Ways_drop
    exact po_bl (fun F1 h1 => po_some ⟨rfl, gg_cpf h1, rfl⟩)
  refine po_call dr ?_
  rintro ⟨_, P3, F4, A5, J6⟩ ⟨d1, d2, d3⟩
  dsimp only at d1 d2 d3 ⊢
  refine po_call w_stale ?_
  rintro ⟨_, P8, F9, A10, J11⟩ ⟨w1, w2, w3⟩
  dsimp only at w1 w2 w3 ⊢
  exact po_some ⟨by show P8 0 8 = P 0 8; rw [w1, d1]; exact u1.2 0 8 (by decide), fun r k a b => (w2.2 r k b).trans (d2.2 r k a), (w2.2 36 101 (by decide)).trans d2.1, w3.trans d3⟩
/-- the house that was read comes into use -/
theorem v_move : po (e_SleepWork_moveIn P F A J) (fun z => z.2.1 0 8 = P 0 9 ∧ (∀ r k, r ≠ 2 → ¬ (r = 4 ∧ k = 2) → ¬ (r = 25 ∧ k = 2) → ¬ (r = 0 ∧ k = 10) → ¬ (r = 36 ∧ k = 101) → ¬ (r = 32 ∧ k = 6) → z.2.2.1 r k = F r k) ∧ (∀ r o, r ≠ 2 → z.2.2.2.1 r o = A r o) ∧ (z.2.2.1 25 2 = 0 ∧ z.2.2.1 36 101 = -1) ∧ SE (F 3) (z.2.2.1 2) (A 3) (z.2.2.2.1 2)) := by
  unfold e_SleepWork_moveIn
  refine po_bl (fun q1 c1 => ?_)
  obtain rfl := (gg_chk c1).2.symm
  refine po_bl (fun q2 c2 => ?_)
  obtain rfl := (gg_chk c2).2.symm
  refine po_bl (fun P3 h3 => po_bl (fun P4 h4 => ?_))
  have u3 := gg_cpp h3
  have u4 := gg_cpp h4
  refine po_call (v_copy (r0 := 2) (r1 := 3) (by decide)) ?_
  rintro ⟨_, P6, F7, A8, J9⟩ ⟨g1, g2, g3, g4⟩
  dsimp only at g1 g2 g3 g4 ⊢
  refine po_bl (fun Fa ha => po_bl (fun Fb hb => po_bl (fun Fc hc => po_bl (fun q13 c13 => ?_))))
  have ua := gg_cpf ha
  have ub := gg_cpf hb
  have uc := gg_cpf hc
  refine po_call v_enter ?_
  rintro ⟨_, P15, F16, A17, J18⟩ ⟨e1, e2, e3, e4⟩
  dsimp only at e1 e2 e3 e4 ⊢
  have f2 : ∀ k, F16 2 k = F7 2 k := fun k => (e2 2 k (by simp) (by simp)).trans ((uc.2 2 k (by simp)).trans ((ub.2 2 k (by simp)).trans (ua.2 2 k (by simp))))
  refine po_some ⟨?_, fun r k h2 h4 h25 h0 h36 h32 => (e2 r k h36 h32).trans ((uc.2 r k h0).trans ((ub.2 r k h25).trans ((ua.2 r k h4).trans (g2 r k h2)))), fun r o h2 => by rw [e4]; exact g3 r o h2, ⟨(e2 25 2 (by decide) (by decide)).trans ((uc.2 25 2 (by decide)).trans ub.1), e3⟩, g4.tr (.of f2 (fun o => by rw [e4]))⟩
  show P15 0 8 = P 0 9
  rw [e1, g1, u4.2 0 8 (by decide)]
  exact u3.1
theorem t_readText (hk : c_kind d = 6) (R : Rc F A) (hn : 6000 ≤ n) : ok (e_Reader_readText n P F A J d 3) (fun r => (∀ r' k, r' ≠ 37 → r.2.1 r' k = P r' k) ∧ RTc r.2.1 d F A r) := by
  unfold e_Reader_readText
  refine ok_call (s_open hk R (by omega)) ?_
  rintro ⟨u, P2, F2, A2, J2⟩ ⟨oP, x5, x6, V⟩
  dsimp only at oP x5 x6 V ⊢
  refine ok_mono (s_readText_10 x5 x6 hk V (by decide) (by rw [i_0]; omega)) (fun r hr => ?_)
  have e := hr.1
  rw [e]
  exact ⟨oP, hr⟩
theorem p2_readX {JW JK : Nat → Int64} (hW : WKx JW JK) (X : XR P F A Fm Am) (G : Gc P F A) (S : SAm Fm Am) (tp : TPx F A Fm Am) (jw : J 37 6 = JW) (jk : Jm 7 = JK) (hn : 6000 ≤ n) (hm : 12100 ≤ m) : P2 (e_SleepWork_read n P F A J) (d_read m Fm Am Jm) (fun a b => XR a.2.1 a.2.2.1 a.2.2.2.1 b.2.1 b.2.2.1) := by
  intro a b ha hb
  have cy := (p2_cread6 hW G S tp ⟨X.1.1, X.2.1⟩ jw jk hn hm a b ha hb).2
  have Ga := ((s_cRead G hn).po a ha).1.1
  have xb := (x_read S hm).po b hb
  have Sb : SAm b.2.1 b.2.2.1 := xb.1.1
  have xl := xb.2
  have hk := G.k09
  have q9 : ∀ {r : Nat}, c_kind r ≠ 6 → r ≠ P 0 9 := fun h e => h (by rw [e]; exact hk)
  have hne : P 0 8 ≠ P 0 9 := by rcases G.2.1 with h | h <;> (rw [h.1, h.2]; decide)
  have lv := G.live
  have dr : P 0 9 = 27 ∨ P 0 9 = 28 := by rcases G.2.1 with h | h <;> omega
  unfold e_SleepWork_read at ha
  obtain ⟨q1, c1, ha⟩ := Option.bind_eq_some_iff.mp ha
  obtain rfl := (gg_chk c1).2.symm
  obtain ⟨z, hz, ha⟩ := Option.bind_eq_some_iff.mp ha
  obtain ⟨r1, -, -, r4, r5⟩ := p2_read hW hk G.1 S tp jw jk hn hm z b hz hb
  obtain ⟨oP, -, t2, t3, t4, t5⟩ := (t_readText hk G.1 hn).po z hz
  have yy := y_readText G.1 hk hn z hz
  obtain ⟨v2, P3, F4, A5, J6⟩ := z
  dsimp only at r1 r4 r5 oP t2 t3 t4 t5 yy ha
  obtain ⟨v7, h7, ha⟩ := Option.bind_eq_some_iff.mp ha
  obtain ⟨F8, h8, ha⟩ := Option.bind_eq_some_iff.mp ha
  obtain ⟨F9, h9, ha⟩ := Option.bind_eq_some_iff.mp ha
  have u8 := gg_cpf h8
  have u9 := gg_cpf h9
  have f9 : ∀ r k, ¬ (r = 0 ∧ k = 11) → ¬ (r = 1 ∧ k = 1) → F9 r k = F4 r k := fun r k a b => (u9.2 r k b).trans (u8.2 r k a)
  cases hc : g_cnd .ne v2 0 with
  | true =>
    rw [hc] at ha
    obtain rfl := Option.some.inj ha
    rw [i_ne, i_0] at hc
    obtain ⟨e18, e74, e77, L, q45⟩ := r5 hc
    have e8 : P3 0 8 = P 0 8 := oP 0 8 (by decide)
    have fF : ∀ r k, r ≠ 37 → r ≠ P 0 9 → r ≠ 3 → r ≠ 0 → r ≠ 1 → F9 r k = F r k := fun r k a b c d e => (f9 r k (fun h => d h.1) (fun h => e h.1)).trans (t3 r k a b c)
    have hF8 : ∀ k, F9 (P 0 8) k = F (P 0 8) k := fun k => fF _ k (by omega) hne (by omega) (by omega) (by omega)
    have hA8 : ∀ o, A5 (P 0 8) o = A (P 0 8) o := fun o => t4 _ o (by omega) hne (by omega)
    have hS : SOK (SS (P 0 8) F A) := SS.ok X.1.ct.2.2.2.2.2
    have sr : ∀ r : Nat, r ≠ 37 → r ≠ P 0 9 → r ≠ 3 → r ≠ 0 → r ≠ 1 → SE (F r) (F9 r) (A r) (A5 r) := fun r a b c d e => .of (fun k => fF r k a b c d e) (fun o => t4 r o a b c)
    have h40 : ∀ b', 0 ≤ b' → ai b.2.2.1 40 b' ≤ 840 := fun b' b0 => by
      have w : 0 ≤ ai b.2.2.1 40 b' ∧ ai b.2.2.1 40 b' ≤ 840 := Sb.2.1 40 b' b0
      exact w.2
    have Y := X.2.2.1
    have Y' : YS (SS (P 0 8) F A) F9 A5 b.2.1 b.2.2.1 := by
      refine ⟨Y.1.cg hS (sr 2 (by decide) (by omega) (by decide) (by decide) (by decide)) (fun i _ _ => by unfold ai; rw [q45 47 (by decide)]), ?_, Y.2.2.cg hS (fun r r0 r1 => sr r (by omega) (by omega) (by omega) (by omega) (by omega)) (q45 61 (by decide)) (q45 62 (by decide))⟩
      rw [e74]
      exact Y.2.1.cg hS (by rw [fF 4 1 (by decide) (by omega) (by decide) (by decide) (by decide)]) (fun r r0 r1 => sr r (by omega) (by omega) (by omega) (by omega) (by omega)) (q45 57 (by decide))
    show XR P3 F9 A5 b.2.1 b.2.2.1
    unfold XR
    rw [e8]
    refine ⟨(X.1.ls S e18 L h40).fr hF8 (fun o _ => hA8 o) rfl (fun _ _ _ => rfl), cy.2, Y'.map (fun f a g s => s.hs (hF8 17) (hF8 16) (hA8 5)), X.2.2.2.1.cg hF8 (fun o _ => hA8 o) (fF 36 101 (by decide) (by omega) (by decide) (by decide) (by decide)) (t4 36 2 (by decide) (by omega) (by decide)), fun i i0 i1 => ?_⟩
    rw [fF 25 2 (by decide) (by omega) (by decide) (by decide) (by decide)] at i1
    rw [ci_fr (t4 25 1 (by decide) (by omega) (by decide)), ci_fr (t4 25 2 (by decide) (by omega) (by decide)), ai_fr (q45 58 (by decide)), ai_fr (q45 59 (by decide)), ai_fr (q45 60 (by decide))]
    exact X.2.2.2.2 i i0 i1
  | false =>
    rw [hc] at ha
    rw [i_nne, i_0] at hc
    obtain ⟨w, hw, ha⟩ := Option.bind_eq_some_iff.mp ha
    obtain ⟨m1, m2, m3, ⟨m4, m5⟩, m6⟩ := v_move w hw
    obtain ⟨uw, P12, F13, A14, J15⟩ := w
    dsimp only at m1 m2 m3 m4 m5 m6
    obtain rfl := Option.some.inj ha
    obtain ⟨h1, ⟨h2, h3, sv⟩, e74, e77, e61⟩ := r4 hc
    have EY := yy.resolve_left (fun h => h hc)
    have xl7 := xl.resolve_left (fun h => h (by rw [← r1]; exact hc))
    have hP : P12 0 8 = P 0 9 := m1.trans (oP 0 9 (by decide))
    dsimp only at cy Ga ⊢
    have hF13 : ∀ k, F13 (P 0 9) k = F4 (P 0 9) k := fun k => (m2 _ k (by omega) (by omega) (by omega) (by omega) (by omega) (by omega)).trans (f9 _ k (by omega) (by omega))
    have hA14 : ∀ o, A14 (P 0 9) o = A5 (P 0 9) o := fun o => m3 _ o (by omega)
    have R : Rc F13 A14 := Ga.1
    have HV : HVc F13 A14 (P 0 9) := by have := Ga.2.2.2.1; rw [hP] at this; exact this
    have LV : LVc A14 (P 0 9) 2 := by have := Ga.2.2.2.2.1; rw [hP] at this; exact this
    have k13 : 0 ≤ (F13 (P 0 9) 13).toInt ∧ (F13 (P 0 9) 13).toInt ≤ 8 := by have := R.1 (P 0 9) 13; rw [hk] at this; exact this
    have k14 : 0 ≤ (F13 (P 0 9) 14).toInt ∧ (F13 (P 0 9) 14).toInt ≤ 12 := by have := R.1 (P 0 9) 14; rw [hk] at this; exact this
    have k15 : 0 ≤ (F13 (P 0 9) 15).toInt ∧ (F13 (P 0 9) 15).toInt ≤ 6 := by have := R.1 (P 0 9) 15; rw [hk] at this; exact this
    have k16 : 0 ≤ (F13 (P 0 9) 16).toInt ∧ (F13 (P 0 9) 16).toInt ≤ 6 := by have := R.1 (P 0 9) 16; rw [hk] at this; exact this
    have k17 : 0 ≤ (F13 (P 0 9) 17).toInt ∧ (F13 (P 0 9) 17).toInt ≤ 6 := by have := R.1 (P 0 9) 17; rw [hk] at this; exact this
    have k1304 : 0 ≤ (F13 (P 0 9) 1304).toInt ∧ (F13 (P 0 9) 1304).toInt ≤ 400 := by have := R.1 (P 0 9) 1304; rw [hk] at this; exact this
    have s5 : ∀ t, 0 ≤ t → 0 ≤ ci A14 (P 0 9) 5 t ∧ ci A14 (P 0 9) 5 t ≤ 6 ∧ ((F13 (P 0 9) 16).toInt ≤ t → t < 6 → ci A14 (P 0 9) 5 t = 0) := fun t t0 => by
      have w := R.2 (P 0 9) 5 t t0
      rw [hk] at w
      have w : 0 ≤ ci A14 (P 0 9) 5 t ∧ ci A14 (P 0 9) 5 t ≤ 6 := w
      refine ⟨w.1, w.2, fun a b => ?_⟩
      rw [ci_fr (hA14 5)]
      rw [hF13 16] at a
      exact (t5.resolve_left (fun h => h hc)).2 t a b
    have HY : HYc F4 A5 (P 0 9) := ⟨EY.1, fun t t0 t1 => (EY.2.1 t t0 t1).1, fun t u t0 t1 u0 u1 => EY.2.2.1 t u t0 (by rw [← hF13 16] at t1; omega) u0 u1, EY.2.2.2.1, by rw [← hF13]; exact HV.2.2.2.2.2⟩
    have h40 : ∀ b', 0 ≤ b' → ai b.2.2.1 40 b' ≤ 840 := fun b' b0 => by
      have w : 0 ≤ ai b.2.2.1 40 b' ∧ ai b.2.2.1 40 b' ≤ 840 := Sb.2.1 40 b' b0
      exact w.2
    have N : NHx (P 0 9) F13 A14 b.2.1 b.2.2.1 := ⟨h1.fr hF13 (hA14 5) rfl (fun _ _ _ => rfl), h2.fr hF13 (fun o _ => hA14 o) rfl (fun _ _ _ => rfl), h3.fr hF13 (fun o _ => hA14 o) rfl (fun _ _ _ => rfl), HY.cg hF13 (fun o _ => hA14 o), Sb.1 18, s5, ⟨k13, k14, k15, k16, k17⟩, k1304.2, h40, hk⟩
    have f3 : ∀ k, F9 3 k = F4 3 k := fun k => f9 3 k (by simp) (by simp)
    have s3 : SS (P 0 9) F13 A14 (F9 3) (A5 3) (fun i => ai b.2.2.1 47 i) := by
      obtain ⟨w1, w2, w3, w4, w5, w6⟩ := sv
      simp only [Int.zero_add] at w1 w2 w3 w4 w5 w6
      refine ⟨w1, fun k k0 k1 => ⟨w2 k k0 k1, EY.2.2.2.2.1 k k0 k1⟩, w3, fun m m0 m1 => ?_, by rw [f3]; exact w5, by rw [f3]; exact w6, by rw [f3]; exact EY.2.2.2.2.2, BDa.z (fun i i0 i1 => (w1 i i0 i1).trans (xl7.2.1 i i0 i1)) (fun i i0 i1 => by
        by_cases z : i < (F4 (P 0 9) 16).toInt
        · exact (EY.2.1 i i0 z).2
        · have e := (w2 i i0 i1).trans (xl7.2.2 i i0 i1 (by
            have := N.tks
            rw [hF13 16] at this
            omega))
          rw [show (A5 3 2 i.toNat).toInt = 0 from e]
          decide)⟩
      obtain ⟨lf, w5', w6', w7'⟩ := w4 m m0 (by rw [← hF13]; exact m1)
      refine ⟨?_, w5', w6', w7'⟩
      show LQx (P 0 9) F13 A14 (A5 3 3 m.toNat).toInt (ai b.2.2.1 47 (42 + m)) (ai b.2.2.1 47 (48 + m))
      have hm17 := N.men
      have ht16 := N.tks
      have xm := xl7.1 m m0 (by omega)
      rcases lf with ⟨a1, a2, a3⟩ | a1
      · exact .inl ⟨by rw [a1]; decide, by unfold ai; rw [a2]; decide, by unfold ai; rw [a3]; decide⟩
      · have l2 := LV m m0 (by omega)
        have e3 : ci A14 2 3 m = (A5 3 3 m.toNat).toInt := by
          unfold ci
          rw [m6.2.2.2 3 m.toNat (by decide) (by decide) (by omega)]
        rw [e3] at l2
        rcases xm with x0 | ⟨x0, x1⟩
        · obtain ⟨v1, v2, v3, v4⟩ := Sb.2.2.2.2.1 m m0 (by omega) x0
          have t1 : ai b.2.2.1 47 (42 + m) < (F13 (P 0 9) 16).toInt := by omega
          have es := N.stp x0 t1
          have s6 := N.s6 x0
          have hx : -1 ≤ ai b.2.2.1 47 (42 + m) ∧ ai b.2.2.1 47 (42 + m) ≤ 1000 := by omega
          have hy : -1 ≤ ai b.2.2.1 47 (48 + m) ∧ ai b.2.2.1 47 (48 + m) ≤ 1000 := by omega
          refine .inr ⟨x0, t1, v3, by omega, ?_⟩
          rw [a1]
          exact cx6 hx hy
        · have hx : -1 ≤ ai b.2.2.1 47 (42 + m) ∧ ai b.2.2.1 47 (42 + m) ≤ 1000 := by omega
          have hy : -1 ≤ ai b.2.2.1 47 (48 + m) ∧ ai b.2.2.1 47 (48 + m) ≤ 1000 := by omega
          have aT : (A5 3 3 m.toNat).toInt = ai b.2.2.1 47 (42 + m) * 6 + ai b.2.2.1 47 (48 + m) := by
            rw [a1]
            exact cx6 hx hy
          rcases l2 with l2 | ⟨l2, -, -⟩
          · omega
          · omega
    have Y : YS (SS (P 0 9) F13 A14) F13 A14 b.2.1 b.2.2.1 := by
      refine ⟨SS.ok k17.2 _ _ _ _ _ _ m6 (fun _ _ _ => rfl) s3, fun u u0 u1 => absurd u1 (by omega), fun s hs hb' => ?_⟩
      have w := e61 (s : Int) (by omega) (by omega)
      unfold ai at w
      rw [Int.toNat_natCast] at w
      exact absurd (i_ext (w.trans i_0.symm)) hb'
    show XR P12 F13 A14 b.2.1 b.2.2.1
    unfold XR
    rw [hP]
    exact ⟨N, cy.2, Y, .inl m5, fun i i0 i1 => absurd i1 (by rw [m4, i_0]; omega)⟩
end H9fi
