/-! a whole night on both sides, and the call night -/
section H9fh
variable {n m : Nat} {h q : Nat} {N : Int} {ex : Prop} {P P' : Nat → Nat → Nat} {F F' : Nat → Nat → Int32} {A A' : Nat → Nat → Nat → Int32} {J : Nat → Nat → Nat → Int64} {Fm Fm' : Nat → Int32} {Am Am' : Nat → Nat → Int32} {Jm : Nat → Nat → Int64} {x1 : Int32}
theorem w_run {sh : Int32} (hk : c_kind h = 6) (R : Rc F A) (H : HVc F A h) : ok (wrun 80 80 P F A J h sh) (fun _ => True) := by
  have l0 : (0 : Int32).toInt = 0 := by decide
  have rd : 0 ≤ (F h 13).toInt ∧ (F h 13).toInt ≤ 8 := by have := R.1 h 13; rw [hk] at this; exact this
  unfold wrun
  refine ok_call (s_takeDoors hk R H (by decide)) ?_
  rintro ⟨u, P2, F2, A2, J2⟩ ⟨e1, e2, w⟩
  dsimp only at e1 e2 w ⊢
  subst e1
  subst e2
  unfold e_Ways_joinWays
  exact ok_mono (s_join_2 (A0 := A2) rd.2 (fun _ _ _ => rfl) (by decide) (by omega)) (fun _ _ => trivial)
/-- the reference's ways are in their ranges -/
theorem WIx_of (H : NHx h F A Fm Am) (R : Rc F A) (V : HVc F A h) : po (d_fillsWays m Fm Am Jm) (fun b => WIx (F h 13).toInt b.2.2.1) := by
  intro b hb
  have ct := H.ct
  have n36 : h ≠ 36 := k6ne H.kd
  obtain ⟨r, hr, -⟩ := w_run (P := fun _ _ => 0) (J := fun _ _ _ => 0) (sh := Am 48 78) H.kd R V
  exact (p2_ways (r := (F h 13).toInt) (by omega) (by omega) (by omega) n36 rfl H.dr rfl r b hr hb).1
theorem AR_of (H : NHx h F A Fm Am) (S : SBx ex h q F A Am 48 0) (I : WIx (F h 13).toInt Am) : ARx True h N F A Am (mx Am) := by
  intro m m0 m1 t0
  have ct := H.ct
  have y12 := H.hy.2.2.2.1 m m0 m1
  have L := (S.mn m0 m1).1
  have tk : ai Am 48 (42 + m) < (F h 16).toInt := by
    rcases L with ⟨-, b, -⟩ | ⟨-, b, -⟩
    · omega
    · exact b
  have y4 := H.hy.2.1 _ t0 tk
  have i := (I (ci A h 12 m) (ci A h 4 (ai Am 48 (42 + m))) y12.1 (by omega) y4.1 (by omega)).1
  exact ⟨i, i, .inl rfl⟩
/-- the ways are the same on both sides, if the same doors are shut -/
theorem AR_exact {b : mR Unit} (H : NHx h F A Fm Am) (R : Rc F A) (V : HVc F A h) (S : SBx ex h q F A Am 48 0) (e7 : (F q 7).toInt = ai Am 48 78) (hb : d_fillsWays m Fm Am Jm = some b) : ∃ D, WDx h F A (F q 7) D ∧ ARx True h N F A b.2.2.1 D := by
  obtain ⟨f, a⟩ := fw_d_fillsWays FW.rfl' b hb
  refine ⟨mx b.2.2.1, ?_, ?_⟩
  · have e : F q 7 = Am 48 78 := i_ext e7
    rw [e]
    exact WD_of H hb
  · exact AR_of (Fm := Fm) (H.fr (fun _ => rfl) (fun _ _ => rfl) rfl (fun j _ _ => a j (by omega))) (S.cg rfl rfl rfl (fun _ _ _ => rfl) (a 48 (by decide))) (WIx_of H R V b hb)
/-- what both have behind a whole night -/
def NTx (ex : Prop) (h q : Nat) (Fm : Nat → Int32) (Am : Nat → Nat → Int32) (a : cR Unit) (b : mR Int32) : Prop := (∃ (m0 m1 : Nat) (J0 J1 : Nat → Nat → Int64) (v0 v1 : Int32), d_worthNow m0 Fm Am J0 = some v0 ∧ d_worthNow m1 b.2.1 b.2.2.1 J1 = some v1 ∧ b.1 = v1 - v0) ∧ NHx h a.2.2.1 a.2.2.2.1 b.2.1 b.2.2.1 ∧ SBx ex h q a.2.2.1 a.2.2.2.1 b.2.2.1 48 0 ∧ WCx h a.2.2.1 a.2.2.2.1 ∧ (ex → (a.2.2.1 q 7).toInt = ai b.2.2.1 48 78 ∧ (a.2.2.1 q 8 + 1).toInt = ai b.2.2.1 48 79)
theorem p2_wn (H : NHx h F A Fm Am) (hq : c_kind q = 2) (S : SBx ex h q F A Am 48 0) (W : WCx h F A) (SH : SHx ex q F Am) (hsh : F q 7 ≠ -1) (AR : ∀ (m : Nat) (b : mR Unit), d_fillsWays m Fm Am Jm = some b → ∃ D, WDx h F A (F q 7) D ∧ ARx ex h (F h 18).toInt F A b.2.2.1 D) (ex1 : x1.toInt = (F h 18).toInt) : P2 (e_Sleep_goTill n P F A J x1 h q) (d_wholeNight m Fm Am Jm) (NTx ex h q Fm Am) := by
  intro a b ha hb
  have y18 := H.hy.2.2.2.2
  have nn := H.nn
  unfold d_wholeNight at hb
  obtain ⟨v1, h1, hb⟩ := Option.bind_eq_some_iff.mp hb
  obtain ⟨v2, h2, hb⟩ := Option.bind_eq_some_iff.mp hb
  obtain ⟨b', hb', hb⟩ := Option.bind_eq_some_iff.mp hb
  unfold d_goesTill at hb'
  obtain ⟨⟨u, F3, A3, J3⟩, hf, h6⟩ := Option.bind_eq_some_iff.mp hb'
  obtain ⟨f3, a3⟩ := fw_d_fillsWays FW.rfl' _ hf
  obtain ⟨D, WD, ar⟩ := AR _ _ hf
  have g2 := (gm h2).2.2
  dsimp only at f3 a3 ar h6
  obtain rfl : Fm = F3 := f3.symm
  have H3 : NHx h F A Fm A3 := H.fr (fun _ => rfl) (fun _ _ => rfl) rfl (fun j _ _ => a3 j (by omega))
  have S3 : SBx ex h q F A A3 48 0 := S.cg rfl rfl rfl (fun _ _ _ => rfl) (a3 48 (by decide))
  have SH3 : SHx ex q F A3 := SH.cg rfl rfl (by rw [ai_fr (a3 48 (by decide))]) (by rw [ai_fr (a3 48 (by decide))])
  obtain ⟨P', F', hF', Q⟩ := p2_goTill (E := (F h 18).toInt) (N := (F h 18).toInt) H3 hq S3 W SH3 WD hsh ar (Int.le_refl _) y18.2 rfl ex1 (g2.trans nn.symm) a b' ha h6
  obtain ⟨⟨q1, q2⟩, q5, q6⟩ := Q
  obtain ⟨HN, WC, WE⟩ := q6 rfl
  obtain ⟨ub, Fb, Ab, Jb⟩ := b'
  obtain ⟨ua, Pa, Fa, Aa, Ja⟩ := a
  dsimp only at q1 q2 q5 HN WC WE hb
  obtain rfl : Fa = F' := q2
  obtain ⟨w1, w2, w3, w4, w5⟩ := WE
  refine p2_wn20 (ex := ex) (h := h) (q := q) (z := some (ua, Pa, Fa, Aa, Ja)) (Q := NTx ex h q Fm Am) (Am := Ab) (s78 := ai Ab 48 78) (s79 := ai Ab 48 79) (fun {m2 Am2} N2 S2 o2 e78 e79 => ?_) HN ⟨w2, w3, w4, fun k k0 k1 => ⟨fun k2 => absurd k2 (by rw [i_0]; omega), fun _ => ?_⟩⟩ (fun _ _ => rfl) rfl rfl (by decide) _ _ rfl hb
  · refine p2_br (fun v11 h11 => p2_some ⟨⟨_, _, _, _, _, _, h1, h11, rfl⟩, N2, S2, WC, fun hx => ?_⟩)
    obtain ⟨z, z1, z2⟩ := e79
    have w := w1 hx
    have ez : z = Fa q 8 := i_ext (z1.trans w.2.symm)
    refine ⟨w.1.trans e78.symm, ?_⟩
    show (Fa q 8 + 1).toInt = ai Am2 48 79
    rw [z2, ez]
  · obtain ⟨a1, a2, a4⟩ := w5 k k0 k1
    exact ⟨q5 k k0 k1, a1, a2, a4⟩
/-- the evening of now has gone on; what is kept stays -/
theorem XR.gone (X : XR P F A Fm Am) (G : Gc P F A) (e8 : P' 0 8 = P 0 8) (hF : ∀ r k, r ≠ 2 → ¬ (r = 36 ∧ k = 101) → ¬ (r = 32 ∧ k = 6) → F' r k = F r k) (hA : ∀ r o, r ≠ 2 → r ≠ 36 → (r = P 0 8 → o ≠ 17) → A' r o = A r o) (W' : WCx (P 0 8) F' A') (e : ∀ k, k ≠ 63 → k ≠ 76 → Fm' k = Fm k) (hm : ∀ q, q < 45 ∨ 57 ≤ q → Am' q = Am q) (S : SS (P 0 8) F A (F' 2) (A' 2) (fun i => ai Am' 47 i)) : XR P' F' A' Fm' Am' := by
  obtain ⟨N, C, Y, W, T⟩ := X
  have n2 : P 0 8 ≠ 2 := G.n2
  have n32 : P 0 8 ≠ 32 := fun e => absurd G.k08 (by rw [e]; decide)
  have n36 : P 0 8 ≠ 36 := k6ne G.k08
  have n25 : P 0 8 ≠ 25 := fun e => absurd G.k08 (by rw [e]; decide)
  have lv := G.live
  have hF8 : ∀ k, F' (P 0 8) k = F (P 0 8) k := fun k => hF _ k n2 (fun e => n36 e.1) (fun e => n32 e.1)
  have hA8 : ∀ o, o ≠ 17 → A' (P 0 8) o = A (P 0 8) o := fun o ho => hA _ o n2 n36 (fun _ => ho)
  have hS : SOK (SS (P 0 8) F A) := SS.ok N.ct.2.2.2.2.2
  have sr : ∀ r : Nat, r ≠ 2 → r ≠ 32 → r ≠ 36 → r ≠ P 0 8 → SE (F r) (F' r) (A r) (A' r) := fun r h1 h2 h3 h4 => .of (fun k => hF r k h1 (fun e => h3 e.1) (fun e => h2 e.1)) (fun o => hA r o h1 h3 (fun e => absurd e h4))
  have Y' : YS (SS (P 0 8) F A) F' A' Fm' Am' := by
    refine ⟨S, ?_, Y.2.2.cg hS (fun r r0 r1 => sr r (by omega) (by omega) (by omega) (by omega)) (hm 61 (by decide)) (hm 62 (by decide))⟩
    rw [e 74 (by decide) (by decide)]
    exact Y.2.1.cg hS (by rw [hF 4 1 (by decide) (by decide) (by decide)]) (fun r r0 r1 => sr r (by omega) (by omega) (by omega) (by omega)) (hm 57 (by decide))
  have T' : TLx F' A' Am' := by
    intro i i0 i1
    rw [hF 25 2 (by decide) (by decide) (by decide)] at i1
    rw [ci_fr (hA 25 1 (by decide) (by decide) (fun e => absurd e.symm n25)), ci_fr (hA 25 2 (by decide) (by decide) (fun e => absurd e.symm n25)), ai_fr (hm 58 (by decide)), ai_fr (hm 59 (by decide)), ai_fr (hm 60 (by decide))]
    exact T i i0 i1
  have C' : SCx F' Fm' Am' := ⟨by rw [hF 25 2 (by decide) (by decide) (by decide), e 77 (by decide) (by decide)]; exact C.1, by rw [hF 4 2 (by decide) (by decide) (by decide), e 74 (by decide) (by decide)]; exact C.2.1, fun s hs => by rw [hF 0 10 (by decide) (by decide) (by decide), hm 61 (by decide)]; exact C.2.2 s hs⟩
  unfold XR
  rw [e8]
  exact ⟨N.fr hF8 hA8 (e 18 (by decide) (by decide)) (fun q a b => hm q (by omega)), C', Y'.map (fun f a g s => s.hs (hF8 17) (hF8 16) (hA8 5 (by decide))), W', T'⟩
/-- the evening of now is kept, too -/
theorem XR.push {d : Int} {z : cR Unit} (X : XR P F A Fm Am) (G : Gc P F A) (hd : d = 0 ∨ d = 1) (pu : PUv d P F A z) (e7 : (Fm' 74).toInt = (Fm 74).toInt + 1 - d) (f7 : ∀ q, q ≠ 74 → Fm' q = Fm q) (hs : HSm d (Fm 74).toInt Am Am') : XR z.2.1 z.2.2.1 z.2.2.2.1 Fm' Am' := by
  obtain ⟨N, C, Y, W, T⟩ := X
  have hS : SOK (SS (P 0 8) F A) := SS.ok N.ct.2.2.2.2.2
  have yp := YS.push hS Y C.2.1 hd pu hs
  obtain ⟨p1, p2, p3, p4, -, -⟩ := pu
  have lv := G.live
  have hm : ∀ q, q ≠ 57 → Am' q = Am q := hs.1
  have hF8 : ∀ k, z.2.2.1 (P 0 8) k = F (P 0 8) k := fun k => p2 _ k (by omega) (by omega)
  have hA8 : ∀ o, z.2.2.2.1 (P 0 8) o = A (P 0 8) o := fun o => p3 _ o (by omega)
  have Y' : YS (SS (P 0 8) F A) z.2.2.1 z.2.2.2.1 Fm' Am' := ⟨yp.1, by rw [e7]; exact yp.2.1, yp.2.2⟩
  have C' : SCx z.2.2.1 Fm' Am' := ⟨by rw [p2 25 2 (by decide) (by decide), f7 77 (by decide)]; exact C.1, i_ext (by rw [p4, e7, C.2.1]), fun s hs' => by rw [p2 0 10 (by decide) (by decide), hm 61 (by decide)]; exact C.2.2 s hs'⟩
  have T' : TLx z.2.2.1 z.2.2.2.1 Am' := by
    intro i i0 i1
    rw [p2 25 2 (by decide) (by decide)] at i1
    rw [ci_fr (p3 25 1 (by decide)), ci_fr (p3 25 2 (by decide)), ai_fr (hm 58 (by decide)), ai_fr (hm 59 (by decide)), ai_fr (hm 60 (by decide))]
    exact T i i0 i1
  unfold XR
  rw [p1]
  exact ⟨N.fr hF8 (fun o _ => hA8 o) (f7 18 (by decide)) (fun q a b => hm q (by omega)), C', Y'.map (fun f a g s => s.hs (hF8 17) (hF8 16) (hA8 5)), W.cg hF8 (fun o _ => hA8 o) (p2 36 101 (by decide) (by decide)) (p3 36 2 (by decide)), T'⟩
theorem v_goBy : po (e_Evening_goBy n P F A J) (fun r => ∃ g : cR Unit, e_Sleep_goTill n P F A J (F (P 32 4) 18) (P 32 4) 2 = some g ∧ r.2.1 = g.2.1 ∧ (∀ q k, ¬ (q = 2 ∧ k = 8) → ¬ (q = 32 ∧ k = 6) → r.2.2.1 q k = g.2.2.1 q k) ∧ r.2.2.1 2 8 = g.2.2.1 2 8 + 1 ∧ r.2.2.2.1 = g.2.2.2.1) := by
  unfold e_Evening_goBy
  refine po_bl (fun _ c1 => ?_)
  obtain rfl := (gg_chk c1).2.symm
  refine po_bl (fun _ c2 => ?_)
  obtain rfl := (gg_chk c2).2.symm
  refine po_bl (fun g hg => ?_)
  obtain ⟨u, P4, F5, A6, J7⟩ := g
  dsimp only
  refine po_bl (fun F8 h8 => ?_)
  have U8 := gg_cpf h8
  refine po_call w_stale ?_
  rintro ⟨u9, P9, F9, A9, J9⟩ ⟨w1, w2, w3⟩
  dsimp only at w1 w2 w3 ⊢
  exact po_some ⟨_, hg, w1, fun q k a b => (w2.2 q k b).trans (U8.2 q k a), (w2.2 2 8 (by decide)).trans U8.1, w3⟩
/-- a night, the evening ahead of it being kept -/
theorem p2_nrest (X : XR P F A Fm Am) (G : Gc P F A) (hn : 1500 ≤ n) : P2 ((c_chk 6 (P 0 8)).bind fun q6 => (e_House_worthOfAll n P F A J q6 2).bind fun v7 => (e_Evening_goBy n P F A J).bind fun (_, P9, F10, A11, J12) => (c_chk 6 (P9 0 8)).bind fun q13 => (e_House_worthOfAll n P9 F10 A11 J12 q13 2).bind fun v14 => some (v14 - v7, P9, F10, A11, J12)) (nrest2 m Fm Am Jm) (fun a b => a.1 = b.1 ∧ XR a.2.1 a.2.2.1 a.2.2.2.1 b.2.1 b.2.2.1) := by
  refine p2_bl (fun _ c6 => ?_)
  obtain rfl := (gg_chk c6).2.symm
  refine p2_bl (fun v7 h7 => ?_)
  intro a b ha hb
  obtain ⟨r, hr, ha⟩ := Option.bind_eq_some_iff.mp ha
  obtain ⟨g, hg, p1, p2, p3, p4⟩ := v_goBy r hr
  unfold nrest2 at hb
  obtain ⟨⟨u, F9, A10, J11⟩, ht, hb⟩ := Option.bind_eq_some_iff.mp hb
  obtain ⟨t1, cp⟩ := r_takes _ ht
  dsimp only at t1 cp hb
  obtain rfl : Fm = F9 := t1.symm
  obtain ⟨⟨v12, F13, A14, J15⟩, hw, hb⟩ := Option.bind_eq_some_iff.mp hb
  dsimp only at hb
  obtain ⟨N, B, s7, s8, s0⟩ := X.take cp
  rw [G.2.2.1] at hg
  obtain ⟨o1, -, m2, m3, m4, m5⟩ := (s_goTill G.k08 (by decide) G.1 G.2.2.2.1 G.2.2.2.2.1 G.2.2.2.1.2.2.2.2.2.2 (by omega)).po g hg
  have hsh : F 2 7 ≠ -1 := fun e => by rw [e] at s0; exact b7_m1 s0
  obtain ⟨⟨m0, m1, J0, J1, v0, v1, hv0, hv1, eb⟩, N2, B2, W2, D2⟩ := p2_wn (ex := True) N (by decide : c_kind 2 = 2) B X.2.2.2.1 (fun _ => ⟨s7, s8⟩) hsh (fun m' b' hb' => AR_exact N G.1 G.2.2.2.1 B s7 hb') rfl g _ hg hw
  dsimp only at hv1 eb N2 B2 D2
  have kt := kt_d_wholeNight KT.rfl' _ hw
  obtain ⟨k1, k2⟩ := kt
  dsimp only at k1 k2
  have e0 : v7 = v0 := p2_worthAll N (fun k k0 k1 => B.dn k0 k1) v7 v0 h7 hv0
  obtain ⟨u9, P9, F10, A11, J12⟩ := r
  dsimp only at p1 p2 p3 p4 ha
  have e98 : P9 0 8 = P 0 8 := by rw [p1]; exact o1 0 8 (by decide)
  have n2 : P 0 8 ≠ 2 := G.n2
  have n32 : P 0 8 ≠ 32 := fun e => absurd G.k08 (by rw [e]; decide)
  have f8 : ∀ k, F10 (P 0 8) k = g.2.2.1 (P 0 8) k := fun k => p2 _ k (fun e => n2 e.1) (fun e => n32 e.1)
  have N3 : NHx (P 0 8) F10 A11 F13 A14 := N2.fr f8 (fun o _ => by rw [p4]) rfl (fun _ _ _ => rfl)
  have B3 : SBx True (P 0 8) 2 F10 A11 A14 48 0 := B2.cg (f8 17) (f8 16) (by rw [p4]) (fun o _ _ => by rw [p4]) rfl
  obtain ⟨q13, c13, ha⟩ := Option.bind_eq_some_iff.mp ha
  obtain rfl := (gg_chk c13).2.symm
  obtain ⟨v14, h14, ha⟩ := Option.bind_eq_some_iff.mp ha
  rw [e98] at h14
  have e14 : v14 = v1 := p2_worthAll N3 (fun k k0 k1 => B3.dn k0 k1) v14 v1 h14 hv1
  obtain ⟨b1, b2, bc⟩ := r_night_104 (x2 := 0) (by decide) b hb
  obtain rfl := Option.some.inj ha
  have t47 : ∀ i, 0 ≤ i → i < 100 → ai b.2.2.1 47 i = ai A14 48 i := fun i i0 i1 => by
    have w := bc.2.1 i (by rw [i_0]; exact i0) i1
    rw [Int.zero_add] at w
    exact w
  refine ⟨?_, ?_⟩
  · show v14 - v7 = b.1
    rw [b1, eb, e0, e14]
  · refine X.gone (P' := P9) (F' := F10) (A' := A11) G e98 (fun r k h1 h2 h3 => (p2 r k (fun e => h1 e.1) h3).trans (m4 r k h2)) (fun r o h1 h2 h3 => by rw [p4]; exact m3 r o h2 h1 h3) (W2.cg f8 (fun o _ => by rw [p4]) (p2 36 101 (by decide) (by decide)) (by rw [p4])) (fun k a b' => by rw [b2]; exact k1 k a b') (fun q hq => (bc.1 q (by omega)).trans ((k2 q (by omega)).trans (cp.1 q (by omega)))) ?_
    refine ⟨fun k k0 k1 => ?_, fun k k0 k1 => ?_, fun k k0 k1 => ?_, fun k k0 k1 => ?_, ?_, ?_, ?_, ?_⟩
    · show ci A11 2 1 k = ai b.2.2.1 47 (6 + k)
      rw [t47 _ (by omega) (by omega)]
      exact B3.dn k0 k1
    · show ci A11 2 2 k = ai b.2.2.1 47 k ∧ 0 ≤ ci A11 2 2 k
      rw [t47 _ (by omega) (by omega)]
      exact B3.sf k0 k1
    · show ci A11 2 4 k = ai b.2.2.1 47 (72 + k)
      rw [t47 _ (by omega) (by omega)]
      exact B3.tl k0 k1
    · have c6 := N.ct.2.2.2.2.2
      show LQx (P 0 8) F A (ci A11 2 3 k) (ai b.2.2.1 47 (42 + k)) (ai b.2.2.1 47 (48 + k)) ∧ ci A11 2 5 k = ai b.2.2.1 47 (54 + k) ∧ ci A11 2 6 k = ai b.2.2.1 47 (60 + k) ∧ ci A11 2 7 k = ai b.2.2.1 47 (66 + k)
      rw [t47 _ (by omega) (by omega), t47 _ (by omega) (by omega), t47 _ (by omega) (by omega), t47 _ (by omega) (by omega), t47 _ (by omega) (by omega)]
      have f17 : ∀ k, F (P 0 8) k = F10 (P 0 8) k := fun k => ((f8 k).trans (m4 _ k (fun e => (k6ne G.k08) e.1))).symm
      have w := B3.mn k0 (by rw [← f17]; exact k1)
      exact ⟨w.1.cg (f17 16) (by rw [p4]; exact (m3 _ 5 (k6ne G.k08) n2 (fun _ => by decide)).symm), w.2.1, w.2.2.1, w.2.2.2 trivial⟩
    · show (F10 2 7).toInt = ai b.2.2.1 47 78
      rw [t47 _ (by decide) (by decide), p2 2 7 (by decide) (by decide)]
      exact (D2 trivial).1
    · show (F10 2 8).toInt = ai b.2.2.1 47 79
      rw [t47 _ (by decide) (by decide), p3]
      exact (D2 trivial).2
    · show B7 (F10 2 7)
      rw [p2 2 7 (by decide) (by decide), m4 2 7 (by decide)]
      exact s0
    · rw [p4]
      exact b_goTill (q := 2) (by decide) (by decide) (X.2.2.1.1.2.2.2.2.2.2.2.s) g hg
theorem p2_nightX (X : XR P F A Fm Am) (G : Gc P F A) (S : SAm Fm Am) (hn : 1500 ≤ n) : P2 (e_SleepWork_night n P F A J) (d_night m Fm Am Jm) (fun a b => a.1 = b.1 ∧ XR a.2.1 a.2.2.1 a.2.2.2.1 b.2.1 b.2.2.1) := by
  intro a b ha hb
  unfold e_SleepWork_night at ha
  obtain ⟨z, hz, ha⟩ := Option.bind_eq_some_iff.mp ha
  refine r_night (Q := fun b => a.1 = b.1 ∧ XR a.2.1 a.2.2.1 a.2.2.2.1 b.2.1 b.2.2.1) (SCx.r74 S) (fun n' F7 A' d hd e7 f7 hs => ?_) b hb
  obtain ⟨d', hd', pu⟩ := v_push G.1 z hz
  obtain ⟨-, G2, -⟩ := (s_push G).po z hz
  have e4 : F 4 2 = Fm 74 := X.2.1.2.1
  rw [e4] at hd'
  obtain rfl : d' = d := by omega
  have X2 := X.push G (by omega) pu e7 f7 hs
  obtain ⟨u, P2, F2, A2, J2⟩ := z
  intro b hb
  exact p2_nrest (J := J2) X2 G2 hn a b ha hb
end H9fh
