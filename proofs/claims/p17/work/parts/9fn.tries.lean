/-! tries with what is left, on both sides: what is known of them
-/
section H9fn
variable {n m h : Nat} {t u k N : Int} {P P' : Nat → Nat → Nat} {F F' F1 : Nat → Nat → Int32} {A A' : Nat → Nat → Nat → Int32} {J : Nat → Nat → Nat → Int64} {Fm Fm' : Nat → Int32} {Am Am' A7 : Nat → Nat → Int32} {Jm : Nat → Nat → Int64} {x1 x2 x3 x4 y1 y2 y3 : Int32}
theorem p2_dd' {γ δ : Type} {c : Bool} {x y : Option γ} {z w : Option δ} {Q : γ → δ → Prop} (h1 : c = true → P2 x z Q) (h2 : c = false → P2 y w Q) : P2 (cond c x y) (cond c z w) Q := by
  cases c with
  | true => exact h1 rfl
  | false => exact h2 rfl
/-- the first k things told, on both sides -/
def TK (k : Int) (F : Nat → Nat → Int32) (A : Nat → Nat → Nat → Int32) (Am : Nat → Nat → Int32) : Prop := k ≤ (F 25 2).toInt ∧ ∀ i : Int, 0 ≤ i → i < k → (ci A 25 1 i = 6 * ai Am 58 i + ai Am 59 i ∧ ci A 25 2 i = ai Am 60 i) ∧ (0 ≤ ai Am 58 i ∧ ai Am 58 i ≤ 5) ∧ (0 ≤ ai Am 59 i ∧ ai Am 59 i ≤ 5)
/-- the house in use, the evening of now and the first k things told, on both sides -/
def ZN (k : Int) (P : Nat → Nat → Nat) (F : Nat → Nat → Int32) (A : Nat → Nat → Nat → Int32) (Fm : Nat → Int32) (Am : Nat → Nat → Int32) : Prop := NHx (P 0 8) F A Fm Am ∧ YN (SS (P 0 8) F A) F A Am ∧ TK k F A Am
/-- between tries -/
def IX (k : Int) (P : Nat → Nat → Nat) (F : Nat → Nat → Int32) (A : Nat → Nat → Nat → Int32) (Fm : Nat → Int32) (Am : Nat → Nat → Int32) : Prop := ZN k P F A Fm Am ∧ Gc P F A ∧ WCx (P 0 8) F A
theorem XR.ix (X : XR P F A Fm Am) (G : Gc P F A) (S : SAm Fm Am) (hk : k ≤ (F 25 2).toInt) : IX k P F A Fm Am := ⟨⟨X.1, X.2.2.1.1, hk, fun i i0 i1 => ⟨X.2.2.2.2 i i0 (by omega), S.2.1 58 i i0, S.2.1 59 i i0⟩⟩, G, X.2.2.2.1⟩
theorem SE.sm {f f' : Nat → Int32} {a a' : Nat → Nat → Int32} (h : SE f f' a a') : SE f' f a' a := ⟨h.1.symm, h.2.1.symm, fun i hi => (h.2.2.1 i hi).symm, fun o i a b c => (h.2.2.2 o i a b c).symm⟩
/-- the class's house in use, evening of now and first k things told are the same -/
def VW (k : Int) (P : Nat → Nat → Nat) (F : Nat → Nat → Int32) (A : Nat → Nat → Nat → Int32) (P' : Nat → Nat → Nat) (F' : Nat → Nat → Int32) (A' : Nat → Nat → Nat → Int32) : Prop := P' 0 8 = P 0 8 ∧ (∀ j, F' (P 0 8) j = F (P 0 8) j) ∧ (∀ o, o ≠ 17 → A' (P 0 8) o = A (P 0 8) o) ∧ SE (F 2) (F' 2) (A 2) (A' 2) ∧ (k ≤ (F 25 2).toInt ↔ k ≤ (F' 25 2).toInt) ∧ ∀ (o : Nat) (i : Int), 0 ≤ i → i < k → ci A' 25 o i = ci A 25 o i
theorem VW.rfl' : VW k P F A P F A := ⟨rfl, fun _ => rfl, fun _ _ => rfl, SE.rfl', Iff.rfl, fun _ _ _ _ => rfl⟩
theorem VW.sm (V : VW k P F A P' F' A') : VW k P' F' A' P F A := by
  obtain ⟨e8, hF, hA, se, kk, tk⟩ := V
  exact ⟨e8.symm, fun j => by rw [e8]; exact (hF j).symm, fun o ho => by rw [e8]; exact (hA o ho).symm, se.sm, kk.symm, fun o i i0 i1 => (tk o i i0 i1).symm⟩
theorem VW.tr {P1 : Nat → Nat → Nat} {A1 : Nat → Nat → Nat → Int32} (V : VW k P F A P1 F1 A1) (W : VW k P1 F1 A1 P' F' A') : VW k P F A P' F' A' := by
  obtain ⟨e8, hF, hA, se, kk, tk⟩ := V
  obtain ⟨d8, dF, dA, de, dkk, dk⟩ := W
  rw [e8] at d8 dF dA
  exact ⟨d8, fun j => (dF j).trans (hF j), fun o ho => (dA o ho).trans (hA o ho), se.tr de, kk.trans dkk, fun o i i0 i1 => (dk o i i0 i1).trans (tk o i i0 i1)⟩
theorem VW.of (q : QFc P P' F F' A A') (G : Gc P F A) : VW k P F A P' F' A' := ⟨q.1.1 0 8 (by decide), (q.1.2.2.1 _ G.live).1, (q.1.2.2.1 _ G.live).2, .of (q.2.1.1 2 (by decide) (by decide) (by decide)).2 (q.2.1.1 2 (by decide) (by decide) (by decide)).1, by rw [q.2.1.2.2 2], fun o i _ _ => by rw [ci_fr (q.2.1.2.1 o)]⟩
theorem ZN.vw (V : VW k P F A P' F' A') (Z : ZN k P F A Fm Am) : ZN k P' F' A' Fm Am := by
  obtain ⟨e8, hF, hA, se, kk, tk⟩ := V
  obtain ⟨N, Y, T⟩ := Z
  have hS : SOK (SS (P 0 8) F A) := SS.ok N.ct.2.2.2.2.2
  refine ⟨?_, ?_, ?_⟩
  · rw [e8]
    exact N.fr hF hA rfl (fun _ _ _ => rfl)
  · rw [e8]
    have Y' : SS (P 0 8) F A (F' 2) (A' 2) (fun i => ai Am 47 i) := hS _ _ _ _ _ _ se (fun _ _ _ => rfl) Y
    exact Y'.hs (hF 17) (hF 16) (hA 5 (by decide))
  · refine ⟨kk.mp T.1, fun i i0 i1 => ?_⟩
    rw [tk 1 i i0 i1, tk 2 i i0 i1]
    exact T.2 i i0 i1
theorem ZN.kt (Z : ZN k P F A Fm Am) (z : KT Fm Am Fm' Am') : ZN k P F A Fm' Am' := by
  obtain ⟨N, Y, T⟩ := Z
  have hS : SOK (SS (P 0 8) F A) := SS.ok N.ct.2.2.2.2.2
  refine ⟨N.fr (fun _ => rfl) (fun _ _ => rfl) (z.1 18 (by decide) (by decide)) (fun q a b => z.2 q (.inl (by omega))), Y.cg hS SE.rfl' (fun i _ _ => by unfold ai; rw [z.2 47 (by decide)]), T.1, fun i i0 i1 => ?_⟩
  rw [ai_fr (z.2 58 (by decide)), ai_fr (z.2 59 (by decide)), ai_fr (z.2 60 (by decide))]
  exact T.2 i i0 i1
theorem IX.tried (I : IX k P F A Fm Am) (q : QFc P P' F F' A A') (z : KT Fm Am Fm' Am') : IX k P' F' A' Fm' Am' := ⟨(I.1.kt z).vw (.of q I.2.1), q.g I.2.1, by rw [q.1.1 0 8 (by decide)]; exact q.2.2 I.1.1.kd I.2.2⟩
/-- now as the reference takes it -/
theorem ZN.take (Z : ZN k P F A Fm Am) (cp : CPm 47 48 0 0 0 Am Am') : NHx (P 0 8) F A Fm Am' ∧ SBx True (P 0 8) 2 F A Am' 48 0 ∧ (F 2 7).toInt = ai Am' 48 78 ∧ (F 2 8).toInt = ai Am' 48 79 ∧ B7 (F 2 7) := by
  obtain ⟨N, Y, -⟩ := Z
  have ct := N.ct
  have t47 : ∀ i, 0 ≤ i → i < 100 → ai Am' 48 i = ai Am 47 i := fun i i0 i1 => by
    have := cp.2.1 i i0 i1
    rw [Int.zero_add] at this
    exact this
  obtain ⟨s1, s2, s3, s4, s5, s6, s7⟩ := Y
  refine ⟨N.fr (fun _ => rfl) (fun _ _ => rfl) rfl (fun q _ _ => cp.1 q (by omega)), SBx.mk0 (fun k k0 k1 => ?_) (fun k k0 k1 => ?_) (fun k k0 k1 => ?_) (fun k k0 k1 => ?_), ?_, ?_, s7.1⟩
  · rw [t47 (6 + k) (by omega) (by omega)]
    exact s1 k k0 k1
  · rw [t47 k (by omega) (by omega)]
    exact s2 k k0 k1
  · rw [t47 (72 + k) (by omega) (by omega)]
    exact s3 k k0 k1
  · rw [t47 (42 + k) (by omega) (by omega), t47 (48 + k) (by omega) (by omega), t47 (54 + k) (by omega) (by omega), t47 (60 + k) (by omega) (by omega), t47 (66 + k) (by omega) (by omega)]
    have w := s4 k k0 k1
    exact ⟨w.1, w.2.1, w.2.2.1, fun _ => w.2.2.2⟩
  · rw [t47 78 (by decide) (by decide)]
    exact s5
  · rw [t47 79 (by decide) (by decide)]
    exact s6
/-- a trial that has been laid out, on both sides -/
def TRy (k : Int) (P : Nat → Nat → Nat) (F : Nat → Nat → Int32) (A : Nat → Nat → Nat → Int32) (Fm : Nat → Int32) (Am : Nat → Nat → Int32) : Prop := IX k P F A Fm Am ∧ LVc A (P 0 8) 33 ∧ SBx True (P 0 8) 33 F A Am 48 0 ∧ ((F 33 7).toInt = ai Am 48 78 ∧ (F 33 8).toInt = ai Am 48 79 ∧ B7 (F 33 7)) ∧ DNx 2 A Am ∧ BDs 33 5994 A
theorem TRy.begin {z : cR Unit} {b : mR Unit} (I : IX k P F A Fm Am) (hz : e_State_copy P F A J 33 2 = some z) (hb : d_takes m Fm Am Jm = some b) : TRy k z.2.1 z.2.2.1 z.2.2.2.1 b.2.1 b.2.2.1 ∧ (∀ k, z.2.2.1 32 k = F 32 k) ∧ z.2.1 = P ∧ (∀ o, z.2.2.2.1 (P 0 8) o = A (P 0 8) o) ∧ ∀ q, q ≠ 48 → b.2.2.1 q = Am q := by
  have Z := I.1
  have G := I.2.1
  have kb := kt_d_takes KT.rfl' b hb
  obtain ⟨t1, cp⟩ := r_takes b hb
  have cv := v_copy (r0 := 33) (r1 := 2) (by decide) z hz
  obtain ⟨e1, q8, L8, f32⟩ := (fq_trial G).po z hz
  have I2 : IX k z.2.1 z.2.2.1 z.2.2.2.1 b.2.1 b.2.2.1 := I.tried q8 kb
  obtain ⟨-, B2, -, -, -⟩ := Z.take cp
  obtain ⟨-, c2, c3, c4⟩ := cv
  have n33 := G.n33
  have hF8 : ∀ k, z.2.2.1 (P 0 8) k = F (P 0 8) k := fun k => c2 _ k n33
  have hA8 : ∀ o, z.2.2.2.1 (P 0 8) o = A (P 0 8) o := fun o => c3 _ o n33
  have t48 : ∀ i, 0 ≤ i → i < 100 → ai b.2.2.1 48 i = ai Am 47 i := fun i i0 i1 => by
    have w := cp.2.1 i i0 i1
    rw [Int.zero_add] at w
    exact w
  have hS : SOK (SS (P 0 8) F A) := SS.ok Z.1.ct.2.2.2.2.2
  have s : SS (P 0 8) F A (z.2.2.1 33) (z.2.2.2.1 33) (fun i => ai b.2.2.1 48 i) := hS _ _ _ _ _ _ c4 t48 Z.2.1
  obtain ⟨s1, s2, s3, s4, s5, s6, s7⟩ := s.hs (hF8 17) (hF8 16) (hA8 5)
  have B8 : SBx True (P 0 8) 33 z.2.2.1 z.2.2.2.1 b.2.2.1 48 0 := SBx.mk0 s1 s2 s3 (fun m m0 m1 => ⟨(s4 m m0 m1).1, (s4 m m0 m1).2.1, (s4 m m0 m1).2.2.1, fun _ => (s4 m m0 m1).2.2.2⟩)
  refine ⟨⟨I2, ?_, ?_, ⟨s5, s6, s7.1⟩, fun k k0 k1 => ?_, s7.2.s⟩, f32, e1, hA8, fun q hq => cp.1 q hq⟩
  · rw [e1]
    exact L8
  · rw [e1]
    exact B8
  · rw [ci_fr (c3 2 1 (by decide))]
    exact B2.dn k0 k1
theorem SBx.leave (B : SBx True h 33 F A Am 48 0) (hm : 0 ≤ k ∧ k < 6) (hn : (F h 17).toInt ≤ 6) (hk : c_kind h = 6) {v : Int} (U : CUm A A' 33 3 k v) {r : mR Int32} (L : LVd Fm Am k t u r) (Lq : LQx h F A v t u) : SBx True h 33 F A' r.2.2.1 48 0 := by
  obtain ⟨-, l2, ⟨l3, l4⟩, l5⟩ := L
  have a : ∀ o, o ≠ 3 → A' 33 o = A 33 o := fun o ho => U.2.2 33 o (fun e => ho e.2)
  have h33 : h ≠ 33 := fun e => absurd hk (by rw [e]; decide)
  refine SBx.mk0 (fun i i0 i1 => ?_) (fun i i0 i1 => ?_) (fun i i0 i1 => ?_) (fun i i0 i1 => ?_)
  · rw [ci_fr (a 1 (by decide)), l5 _ (by omega) (by omega) (by omega)]
    exact B.dn i0 i1
  · rw [ci_fr (a 2 (by decide)), l5 _ (by omega) (by omega) (by omega)]
    exact B.sf i0 i1
  · rw [ci_fr (a 4 (by decide)), l5 _ (by omega) (by omega) (by omega)]
    exact B.tl i0 i1
  · obtain ⟨w1, w2, w3, w4⟩ := B.mn i0 i1
    rw [ci_fr (a 5 (by decide)), ci_fr (a 6 (by decide)), ci_fr (a 7 (by decide)), l5 (54 + i) (by omega) (by omega) (by omega), l5 (60 + i) (by omega) (by omega) (by omega), l5 (66 + i) (by omega) (by omega) (by omega)]
    refine ⟨?_, w2, w3, w4⟩
    by_cases e : i = k
    · subst e
      rw [U.1, l3, l4]
      exact Lq.cg rfl (U.2.2 h 5 (fun e => h33 e.1))
    · rw [U.2.1 i i0 e, l5 (42 + i) (by omega) (by omega) (by omega), l5 (48 + i) (by omega) (by omega) (by omega)]
      exact w1.cg rfl (U.2.2 h 5 (fun e => h33 e.1))
/-- a man leaves something in the trial -/
theorem TRy.leave (T : TRy k P F A Fm Am) (hm : 0 ≤ x1.toInt ∧ x1.toInt < 6) (hs : c_st A 33 3 6 x1 x3 = some A') {b : mR Int32} (hb : d_leaves m Fm Am Jm x1 y3 = some b) (L : LVd Fm Am x1.toInt t u b) (Lq : LQx (P 0 8) F A x3.toInt t u) : TRy k P F A' b.2.1 b.2.2.1 ∧ (∀ o, A' (P 0 8) o = A (P 0 8) o) ∧ ∀ q, q ≠ 48 → b.2.2.1 q = Am q := by
  obtain ⟨I, LV, B, ⟨s7, s8, s0⟩, D2, BD⟩ := T
  have N := I.1.1
  have G := I.2.1
  have ct := N.ct
  have kb := kt_d_leaves KT.rfl' b hb
  have U := (gg_cst hs).2.2
  have h33 : P 0 8 ≠ 33 := G.n33
  have a8 : ∀ o, A' (P 0 8) o = A (P 0 8) o := fun o => U.2.2 _ o (fun e => h33 e.1)
  have q : QFc P P F F A A' := (QFc.rfl' G.1).st U trivial tg33
  have lv : LVx A (P 0 8) x3.toInt := by
    rcases Lq with ⟨a, -, -⟩ | ⟨t0, t1, u0, u1, e⟩
    · exact .inl a
    · have s6 := N.s6 t0
      refine .inr ⟨by omega, by omega, ?_⟩
      rw [show x3.toInt % 6 = u by omega, show x3.toInt / 6 = t by omega]
      exact u1
  obtain ⟨⟨l0, lf⟩, l2, l3, l5⟩ := L
  refine ⟨⟨I.tried q kb, LV.put U h33 lv, B.leave hm ct.2.2.2.2.2 N.kd U ⟨⟨l0, lf⟩, l2, l3, l5⟩ Lq, ⟨?_, ?_, s0⟩, fun k k0 k1 => ?_, (BDs.a BD).fr (U.2.2 33 1 (by decide)) (U.2.2 33 2 (by decide))⟩, a8, l2⟩
  · rw [l5 78 (by decide) (by omega) (by omega)]
    exact s7
  · rw [l5 79 (by decide) (by omega) (by omega)]
    exact s8
  · rw [ci_fr (U.2.2 2 1 (by decide)), l5 (6 + k) (by omega) (by omega) (by omega)]
    exact D2 k k0 k1
/-- its night -/
theorem TRy.night (T : TRy k P F A Fm Am) (hn : 1400 ≤ n) {w : cR Unit} {b : mR Int32} (hw : e_Sleep_goTill n P F A J (F (P 32 4) 18) (P 32 4) 33 = some w) (hb : d_wholeNight m Fm Am Jm = some b) : IX k w.2.1 w.2.2.1 w.2.2.2.1 b.2.1 b.2.2.1 ∧ NTx True (P 0 8) 33 Fm Am w b ∧ (∀ k, w.2.2.1 32 k = F 32 k) ∧ (QFc P w.2.1 F w.2.2.1 A w.2.2.2.1 ∧ KT Fm Am b.2.1 b.2.2.1) ∧ w.2.2.2.1 35 0 = A 35 0 := by
  obtain ⟨I, LV, B, ⟨s7, s8, s0⟩, -⟩ := T
  have G := I.2.1
  have N := I.1.1
  have y18 : (F (P 0 8) 18).toInt ≤ 600 := N.hy.2.2.2.2.2
  have hsh : F 33 7 ≠ -1 := fun e => by rw [e] at s0; exact b7_m1 s0
  have kb := kt_d_wholeNight KT.rfl' b hb
  obtain ⟨qw, fw⟩ := (fq_goTill (n := n) (J := J) (x1 := F (P 32 4) 18) G LV (by rw [G.2.2.1]; exact y18) hn).po w hw
  rw [G.2.2.1] at hw
  obtain ⟨-, -, -, m3, -, -⟩ := (s_goTill G.k08 (by decide) G.1 G.2.2.2.1 LV G.2.2.2.1.2.2.2.2.2.2 hn).po w hw
  exact ⟨I.tried qw kb, p2_wn (ex := True) N (by decide : c_kind 33 = 2) B I.2.2 (fun _ => ⟨s7, s8⟩) hsh (fun m' b' hb' => AR_exact N G.1 G.2.2.2.1 B s7 hb') rfl w b hw hb, fw, ⟨qw, kb⟩, m3 35 0 (by decide) (by decide) (fun _ => by decide)⟩
/-- is all that is known so? -/
theorem p2_isSo7 (T : TK k F A Am) (D : DNx 33 A Am) (hk : x2.toInt ≤ k) (h30 : k ≤ 30) : ∀ {n m : Nat} {x3 : Int32}, 0 ≤ x3.toInt → P2 (e_Told_isSoIn_2 n P F A J 33 x2 x3) (d_isSo_7 m Fm Am Jm x2 x3) (fun a b => a = b.1 ∧ b.2.1 = Fm ∧ b.2.2.1 = Am) := by
  intro n
  induction n with
  | zero => intro m x3 _ a b ha; cases ha
  | succ n ih =>
    intro m x3 x0
    cases m with
    | zero => intro a b _ hb; cases hb
    | succ m =>
      unfold e_Told_isSoIn_2 d_isSo_7
      refine p2_dd' (fun c => ?_) (fun c => ?_)
      · exact p2_some ⟨rfl, rfl, rfl⟩
      · rw [i_nge] at c
        refine p2_cl (fun c2 => ?_) (fun _ => ?_)
        · rw [i_ge] at c2
          have := T.1
          omega
        refine p2_bl (fun v3 h3 => p2_bl (fun v4 h4 => p2_bl (fun v5 h5 => ?_)))
        refine p2_br (fun w6 k6 => p2_br (fun w7 k7 => p2_br (fun w8 k8 => p2_br (fun w9 k9 => ?_))))
        have g3 := (gl h3).2.2
        have g4 := (gl h4).2.2
        have g5 := (gl h5).2.2
        have f6 := (gm k6).2.2
        have f7 := (gm k7).2.2
        have f8 := (gm k8).2.2
        have f9 := (gm k9).2.2
        obtain ⟨⟨t1, t2⟩, r1, r2⟩ := T.2 x3.toInt x0 (by omega)
        rw [rx6 (by omega) (by omega)] at f8
        have e4 : v4 = w8 := i_ext (by
          rw [g4, f8, D v3.toInt (by omega) (by omega)]
          congr 1
          omega)
        have e5 : v5 = w9 := i_ext (by omega)
        rw [e4, e5]
        refine p2_dd' (fun _ => ?_) (fun _ => p2_some ⟨rfl, rfl, rfl⟩)
        have e31 := i_p1 (x := x3) (by omega)
        exact ih (by omega)
theorem p2_isSo (T : TK k F A Am) (D : DNx 33 A Am) (hk : x2.toInt ≤ k) (h30 : k ≤ 30) : P2 (e_Told_isSoIn n P F A J 33 x2) (d_isSo_7 m Fm Am Jm x2 0) (fun a b => a = b.1 ∧ b.2.1 = Fm ∧ b.2.2.1 = Am) := by
  unfold e_Told_isSoIn
  exact p2_isSo7 T D hk h30 (by decide)
/-- a night of the trial, and what is known of it -/
theorem TRy.isSo (T : TRy k P F A Fm Am) (hn : 1400 ≤ n) (hk : x2.toInt ≤ k) (h30 : k ≤ 30) {w : cR Unit} {v : Int32} {b : mR Int32} (hw : e_Sleep_goTill n P F A J (F (P 32 4) 18) (P 32 4) 33 = some w) (hv : e_Told_isSoIn n w.2.1 w.2.2.1 w.2.2.2.1 w.2.2.2.2 33 x2 = some v) (hb : d_isSo m Fm Am Jm x2 = some b) : v = b.1 ∧ IX k w.2.1 w.2.2.1 w.2.2.2.1 b.2.1 b.2.2.1 ∧ (∀ k, w.2.2.1 32 k = F 32 k) ∧ QFc P w.2.1 F w.2.2.1 A w.2.2.2.1 ∧ KT Fm Am b.2.1 b.2.2.1 ∧ w.2.2.2.1 35 0 = A 35 0 := by
  unfold d_isSo at hb
  obtain ⟨b0, hb0, hb⟩ := Option.bind_eq_some_iff.mp hb
  obtain ⟨I, ⟨-, N2, B2, -, -⟩, fw, ⟨q, z⟩, a35⟩ := T.night hn hw hb0
  obtain ⟨v0, F2, A3, J4⟩ := b0
  obtain ⟨e1, e2, e3⟩ := p2_isSo I.1.2.2 (fun k k0 k1 => B2.dn k0 k1) hk h30 v b hv hb
  rw [e2, e3]
  exact ⟨e1, I, fw, q, z, a35⟩
end H9fn
