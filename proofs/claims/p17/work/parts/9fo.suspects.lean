/-! suspects and pairs, on both sides -/
section H9fo
variable {n m h : Nat} {t u k N : Int} {c : Int → Int} {P P' : Nat → Nat → Nat} {F F' F1 : Nat → Nat → Int32} {A A' : Nat → Nat → Nat → Int32} {J : Nat → Nat → Nat → Int64} {Fm Fm' : Nat → Int32} {Am Am' A7 : Nat → Nat → Int32} {Jm : Nat → Nat → Int64} {x1 x2 x3 x4 x5 y1 y2 y3 : Int32}
/-- a left of the class beside an option of the reference -/
def LO (c : Int → Int) (x y : Int32) : Prop := (x.toInt = -1 ∧ y.toInt = 0) ∨ (0 ≤ x.toInt ∧ x.toInt ≤ 36 ∧ y.toInt = rk c x.toInt.toNat)
theorem LO.r (L : LO c x1 y1) : -1 ≤ x1.toInt ∧ x1.toInt ≤ 36 := by
  rcases L with ⟨a, b⟩ | ⟨a, b, -⟩ <;> omega
/-- a left that there isn't: the class goes on alone -/
theorem LO.over (L : LO c x1 y1) (h36 : x1.toInt < 36) (hv : ¬ (x1.toInt < 0 ∨ (0 ≤ x1.toInt ∧ x1.toInt % 6 < c (x1.toInt / 6)))) : LO c (x1 + 1) y1 := by
  rcases L with ⟨a, b⟩ | ⟨a, b, e⟩
  · omega
  · have e1 := i_p1 (x := x1) (by omega)
    refine .inr ⟨by omega, by omega, ?_⟩
    rw [e, e1, show (x1.toInt + 1).toNat = x1.toInt.toNat + 1 by omega, rk_s, if_neg (by rw [show ((x1.toInt.toNat : Nat) : Int) = x1.toInt by omega]; omega)]
    omega
/-- one that there is: both go on -/
theorem LO.next (L : LO c x1 y1) (h36 : x1.toInt < 36) (hv : x1.toInt < 0 ∨ (0 ≤ x1.toInt ∧ x1.toInt % 6 < c (x1.toInt / 6))) : LO c (x1 + 1) (y1 + 1) ∧ y1.toInt < rk c 36 := by
  rcases L with ⟨a, b⟩ | ⟨a, b, e⟩
  · have e1 := i_p1 (x := x1) (by omega)
    have e2 := i_p1 (x := y1) (by omega)
    have p := rk_pos (c := c) (k := 36)
    refine ⟨.inr ⟨by omega, by omega, ?_⟩, by omega⟩
    rw [e1, e2, a, b]
    rfl
  · have e1 := i_p1 (x := x1) (by omega)
    have s := rk_s c x1.toInt.toNat
    rw [if_pos (by rw [show ((x1.toInt.toNat : Nat) : Int) = x1.toInt by omega]; omega)] at s
    have mo := rk_mono (c := c) (k := x1.toInt.toNat + 1) (l := 36) (by omega)
    have le : ∀ k : Nat, rk c k ≤ 1 + (k : Int) := fun k => by
      induction k with
      | zero => exact Int.le_refl _
      | succ k ih =>
        rw [rk_s]
        split <;> omega
    have l36 := le 36
    have e2 := i_p1 (x := y1) (by omega)
    refine ⟨.inr ⟨by omega, by omega, ?_⟩, by omega⟩
    rw [e2, e1, e, show (x1.toInt + 1).toNat = x1.toInt.toNat + 1 by omega, s]
theorem LO.fin (L : LO c x1 y1) (h36 : ¬ x1.toInt < 36) : y1.toInt = rk c 36 := by
  rcases L with ⟨a, b⟩ | ⟨a, b, e⟩
  · omega
  · rw [e, show x1.toInt.toNat = 36 by omega]
/-- what such a left says -/
def lt6 (x : Int) : Int := if x < 0 then -1 else x / 6
def lu6 (x : Int) : Int := if x < 0 then -1 else x % 6
theorem LO.lv (L : LO (ci A h 5) x1 y1) (H : NHx h F A Fm Am) (hm : 0 ≤ x2.toInt ∧ x2.toInt < 6) (h36 : x1.toInt < 36) (hv : x1.toInt < 0 ∨ (0 ≤ x1.toInt ∧ x1.toInt % 6 < ci A h 5 (x1.toInt / 6))) : po (d_leaves n Fm Am Jm x2 y1) (LVd Fm Am x2.toInt (lt6 x1.toInt) (lu6 x1.toInt)) ∧ LQx h F A x1.toInt (lt6 x1.toInt) (lu6 x1.toInt) := by
  have ct := H.ct
  unfold lt6 lu6
  rcases L with ⟨a, b⟩ | ⟨a, b, e⟩
  · rw [if_pos (by omega), if_pos (by omega)]
    exact ⟨r_leaves0 H hm b, .inl ⟨a, rfl, rfl⟩⟩
  · rw [if_neg (by omega), if_neg (by omega)]
    have hv' : x1.toInt % 6 < ci A h 5 (x1.toInt / 6) := by
      rcases hv with z | z
      · omega
      · exact z.2
    have ek : ((x1.toInt.toNat : Nat) : Int) = x1.toInt := by omega
    have w := r_leaves (n := n) (Jm := Jm) H hm (k := x1.toInt.toNat) (y3 := y1) (by omega) (by rw [ek]; exact hv') e
    rw [ek] at w
    have s6 := H.s6 (t := x1.toInt / 6) (by omega)
    refine ⟨w, .inr ⟨by omega, ?_, by omega, hv', by omega⟩⟩
    by_cases z : x1.toInt / 6 < (F h 16).toInt
    · exact z
    · have := H.z6 (t := x1.toInt / 6) (by omega) (by omega) (by omega)
      omega
/-- is it what he left as it stands? -/
theorem LQ_eq {a t u x : Int} (L : LQx h F A a t u) (h5 : ∀ t, 0 ≤ t → ci A h 5 t ≤ 6) (hx : -1 ≤ x) : x = a ↔ lt6 x = t ∧ lu6 x = u := by
  unfold lt6 lu6
  rcases L with ⟨rfl, rfl, rfl⟩ | ⟨t0, t1, u0, u1, rfl⟩
  · by_cases z : x < 0
    · rw [if_pos z, if_pos z]
      exact ⟨fun _ => ⟨rfl, rfl⟩, fun _ => by omega⟩
    · rw [if_neg z, if_neg z]
      exact ⟨fun _ => by omega, fun e => by omega⟩
  · have s6 := h5 t t0
    by_cases z : x < 0
    · rw [if_pos z, if_pos z]
      exact ⟨fun _ => by omega, fun e => by omega⟩
    · rw [if_neg z, if_neg z]
      exact ⟨fun e => by omega, fun e => by omega⟩
theorem p2_isSus2 (hm : 0 ≤ x1.toInt ∧ x1.toInt < 6) (hc : ∀ t, 0 ≤ t → c t ≤ 6) (h30 : x2.toInt ≤ 30) : ∀ {n m : Nat} {P : Nat → Nat → Nat} {F : Nat → Nat → Int32} {A : Nat → Nat → Nat → Int32} {J : Nat → Nat → Nat → Int64} {Fm : Nat → Int32} {Am : Nat → Nat → Int32} {Jm : Nat → Nat → Int64} {x3 y3 : Int32}, IX x2.toInt P F A Fm Am → (∀ t, ci A (P 0 8) 5 t = c t) → x1.toInt < (F (P 0 8) 17).toInt → LO c x3 y3 → 1400 + 36 - x3.toInt < (n : Int) → P2 (e_Evening_isSuspect_2 n P F A J x1 x2 x3) (d_isSuspect_2 m Fm Am Jm x1 x2 y3) (fun a b => a.1 = b.1 ∧ QFc P a.2.1 F a.2.2.1 A a.2.2.2.1 ∧ KT Fm Am b.2.1 b.2.2.1) := by
  have l36 : (36 : Int32).toInt = 36 := by decide
  intro n
  induction n with
  | zero => intro m P F A J Fm Am Jm x3 y3 _ _ _ _ _ a b ha; cases ha
  | succ n ih =>
    intro m P F A J Fm Am Jm x3 y3 I ec hx1 L hn
    have N := I.1.1
    have G := I.2.1
    have lr := L.r
    have e5 : ci A (P 0 8) 5 = c := funext ec
    cases m with
    | zero => intro a b _ hb; cases hb
    | succ m =>
      unfold e_Evening_isSuspect_2
      refine p2_cl (fun c36 => ?_) (fun c36 => ?_)
      · rw [i_ge, l36] at c36
        have f := L.fin (by omega)
        unfold d_isSuspect_2
        refine p2_r (r_options N) (fun v1 q1 => ?_)
        rw [e5] at q1
        refine p2_cr (fun _ => p2_some ⟨rfl, QFc.rfl' G.1, KT.rfl'⟩) (fun c2 => ?_)
        rw [i_nge] at c2
        omega
      · rw [i_nge, l36] at c36
        have e31 := i_p1 (x := x3) (by omega)
        refine p2_bl (fun _ hk => ?_)
        obtain rfl := (gg_chk hk).2.symm
        rw [G.2.2.1]
        refine p2_l (v_mayBe (fun t t0 => by rw [ec]; exact hc t t0)) (fun v3 b3 => ?_)
        rw [e5] at b3
        rcases b3 with ⟨rfl, hv⟩ | ⟨rfl, hv⟩
        · refine p2_cl (fun c => absurd c (by decide)) (fun _ => ?_)
          obtain ⟨Ln, lt36⟩ := L.next (by omega) hv
          unfold d_isSuspect_2
          refine p2_r (r_options N) (fun v1 q1 => ?_)
          rw [e5] at q1
          refine p2_cr (fun c2 => ?_) (fun _ => ?_)
          · rw [i_ge] at c2
            omega
          refine p2_bl (fun v5 h5 => ?_)
          have g5 := (gl h5).2.2
          refine p2_br (fun b1 hb1 => ?_)
          have kb1 := kt_d_takes KT.rfl' b1 hb1
          obtain ⟨t1, cp⟩ := r_takes b1 hb1
          obtain ⟨u1, F4, A5, J6⟩ := b1
          dsimp only at kb1 t1 cp ⊢
          obtain rfl : Fm = F4 := t1.symm
          have N5 : NHx (P 0 8) F A Fm A5 := (I.1.take cp).1
          refine p2_br (fun b2 hb2 => ?_)
          have LL := LO.lv (n := m) (Jm := J6) (Fm := Fm) (Am := A5) (x2 := x1) (A := A) (h := P 0 8) (F := F) (by rw [e5]; exact L) N5 hm (by omega) (by rw [e5]; exact hv)
          have lv := LL.1 b2 hb2
          have lq := LL.2
          have kb2 := kt_d_leaves kb1 b2 hb2
          obtain ⟨v7, F8, A9, J10⟩ := b2
          obtain ⟨⟨-, l1⟩, l2, ⟨l3, l4⟩, l5⟩ := lv
          dsimp only at kb2 l1 l2 l3 l4 l5 ⊢
          obtain rfl : Fm = F8 := l1.symm
          refine p2_br (fun v11 h11 => p2_br (fun v12 h12 => ?_))
          have i42 := kx1 (c := 42) (x := x1) (k := 42) (by decide) (by decide) (by omega)
          have i48 := kx1 (c := 48) (x := x1) (k := 48) (by decide) (by decide) (by omega)
          have g11 := (gm h11).2.2
          have g12 := (gm h12).2.2
          rw [i42, l3] at g11
          rw [i42, ai_fr (kb2.2 47 (by decide))] at g12
          have ln := (I.1.2.1.2.2.2.1 x1.toInt hm.1 hx1).1
          have ln : LQx (P 0 8) F A (ci A 2 3 x1.toInt) (ai Am 47 (42 + x1.toInt)) (ai Am 47 (48 + x1.toInt)) := ln
          have eq := LQ_eq ln (fun t t0 => by rw [ec]; exact hc t t0) lr.1
          -- the try itself
          have try_ : P2 ((e_State_copy P F A J 33 2).bind fun (_, P8, F9, A10, J11) => (c_st A10 33 3 6 x1 x3).bind fun A12 => (c_chk 6 (P8 32 4)).bind fun q13 => (c_chk 6 (P8 32 4)).bind fun q14 => (e_Sleep_goTill n P8 F9 A12 J11 (F9 q13 18) q14 33).bind fun (_, P16, F17, A18, J19) => (e_Told_isSoIn n P16 F17 A18 J19 33 x2).bind fun v20 => cond (g_cnd .eq v20 0) (e_Evening_isSuspect_92 (e_Evening_isSuspect_2 n) n P16 F17 A18 J19 x1 x2 x3) (some (1, P16, F17, A18, J19))) (d_isSuspect_66 (d_isSuspect_2 m) m Fm A9 J10 x1 x2 y3) (fun a b => a.1 = b.1 ∧ QFc P a.2.1 F a.2.2.1 A a.2.2.2.1 ∧ KT Fm Am b.2.1 b.2.2.1) := by
            unfold d_isSuspect_66
            refine p2_bl (fun z hz => ?_)
            obtain ⟨T, f32, eP, eA, -⟩ := TRy.begin I hz hb1
            obtain ⟨qz, -, -⟩ : QFc P z.2.1 F z.2.2.1 A z.2.2.2.1 ∧ True ∧ True := ⟨((fq_trial G).po z hz).2.1, trivial, trivial⟩
            obtain ⟨uz, P8, F9, A10, J11⟩ := z
            dsimp only at T f32 eP eA qz ⊢
            obtain rfl : P = P8 := eP.symm
            refine p2_bl (fun A12 hs => ?_)
            have e17 : ∀ k, F9 (P 0 8) k = F (P 0 8) k := fun k => (qz.1.2.2.1 _ G.live).1 k
            have lq9 : LQx (P 0 8) F9 A10 x3.toInt (lt6 x3.toInt) (lu6 x3.toInt) := lq.cg (e17 16) (eA 5)
            obtain ⟨T2, eA2, -⟩ := T.leave hm hs hb2 ⟨⟨(LL.1 _ hb2).1.1, rfl⟩, l2, ⟨l3, l4⟩, l5⟩ lq9
            have q12 : QFc P P F F9 A A12 := qz.st (gg_cst hs).2.2 trivial tg33
            refine p2_bl (fun _ hk => ?_)
            obtain rfl := (gg_chk hk).2.symm
            refine p2_bl (fun _ hk => ?_)
            obtain rfl := (gg_chk hk).2.symm
            refine p2_bl (fun w hw => p2_bl (fun v20 h20 => p2_br (fun b3 hb3 => ?_)))
            obtain ⟨r1, I3, -, q3, k3, -⟩ := TRy.isSo (x2 := x2) T2 (by omega) (Int.le_refl _) h30 hw h20 hb3
            have qq : QFc P w.2.1 F w.2.2.1 A w.2.2.2.1 := q12.tr q3
            have kk : KT Fm Am b3.2.1 b3.2.2.1 := kb2.tr k3
            obtain ⟨uw, P16, F17, A18, J19⟩ := w
            obtain ⟨v17, F18, A19, J20⟩ := b3
            dsimp only at r1 I3 q3 k3 qq kk ⊢
            rw [r1]
            refine p2_dd' (fun _ => ?_) (fun _ => p2_some ⟨rfl, qq, kk⟩)
            unfold e_Evening_isSuspect_92 d_isSuspect_76
            have e8 : P16 0 8 = P 0 8 := qq.1.1 0 8 (by decide)
            have live := qq.1.2.2.1 _ G.live
            refine p2_mono (ih I3 (fun t => by rw [e8, ci_fr (live.2 5 (by decide))]; exact ec t) (by rw [e8, live.1 17]; exact hx1) Ln (by omega)) (fun a b h => ⟨h.1, qq.tr h.2.1, kk.tr h.2.2⟩)
          have sk_ : P2 (e_Evening_isSuspect_92 (e_Evening_isSuspect_2 n) n P F A J x1 x2 x3) (d_isSuspect_76 (d_isSuspect_2 m) m Fm A9 J10 x1 x2 y3) (fun a b => a.1 = b.1 ∧ QFc P a.2.1 F a.2.2.1 A a.2.2.2.1 ∧ KT Fm Am b.2.1 b.2.2.1) := by
            unfold e_Evening_isSuspect_92 d_isSuspect_76
            refine p2_mono (ih (I.tried (QFc.rfl' G.1) kb2) ec hx1 Ln (by omega)) (fun a b h => ⟨h.1, h.2.1, kb2.tr h.2.2⟩)
          by_cases e : x3.toInt = v5.toInt
          · have s := eq.mp (by omega)
            refine p2_cl (fun _ => ?_) (fun c => ?_)
            · refine p2_cr (fun c => ?_) (fun _ => ?_)
              · rw [i_ne] at c
                omega
              refine p2_br (fun v14 h14 => p2_br (fun v15 h15 => ?_))
              have g14 := (gm h14).2.2
              have g15 := (gm h15).2.2
              rw [i48, l4] at g14
              rw [i48, ai_fr (kb2.2 47 (by decide))] at g15
              refine p2_cr (fun c => ?_) (fun _ => sk_)
              rw [i_ne] at c
              omega
            · rw [i_neq] at c
              exact absurd e c
          · have s : ¬ (lt6 x3.toInt = ai Am 47 (42 + x1.toInt) ∧ lu6 x3.toInt = ai Am 47 (48 + x1.toInt)) := fun z => e (by rw [g5]; exact eq.mpr z)
            refine p2_cl (fun c => ?_) (fun _ => ?_)
            · rw [i_eq] at c
              exact absurd c e
            · refine p2_cr (fun _ => try_) (fun c => ?_)
              rw [i_nne] at c
              refine p2_br (fun v14 h14 => p2_br (fun v15 h15 => ?_))
              have g14 := (gm h14).2.2
              have g15 := (gm h15).2.2
              rw [i48, l4] at g14
              rw [i48, ai_fr (kb2.2 47 (by decide))] at g15
              refine p2_cr (fun _ => try_) (fun c2 => ?_)
              rw [i_nne] at c2
              exact absurd ⟨by omega, by omega⟩ s
        · refine p2_cl (fun _ => ?_) (fun c => absurd c (by decide))
          unfold e_Evening_isSuspect_92
          exact ih I ec hx1 (L.over (by omega) hv) (by omega)
/-- between tries, with what the loops look at -/
def IY (c : Int → Int) (k nm : Int) (P : Nat → Nat → Nat) (F : Nat → Nat → Int32) (A : Nat → Nat → Nat → Int32) (Fm : Nat → Int32) (Am : Nat → Nat → Int32) : Prop := IX k P F A Fm Am ∧ (∀ t, ci A (P 0 8) 5 t = c t) ∧ (F (P 0 8) 17).toInt = nm
theorem IY.tried {nm : Int} (I : IY c k nm P F A Fm Am) (q : QFc P P' F F' A A') (z : KT Fm Am Fm' Am') : IY c k nm P' F' A' Fm' Am' := by
  obtain ⟨I, ec, hn⟩ := I
  have e8 : P' 0 8 = P 0 8 := q.1.1 0 8 (by decide)
  have live := q.1.2.2.1 _ I.2.1.live
  exact ⟨I.tried q z, fun t => by rw [e8, ci_fr (live.2 5 (by decide))]; exact ec t, by rw [e8, live.1 17]; exact hn⟩
theorem p2_susBits {nm : Int} (hc : ∀ t, 0 ≤ t → c t ≤ 6) (hn6 : nm ≤ 6) (h30 : x1.toInt ≤ 30) : ∀ {n m : Nat} {P : Nat → Nat → Nat} {F : Nat → Nat → Int32} {A : Nat → Nat → Nat → Int32} {J : Nat → Nat → Nat → Int64} {Fm : Nat → Int32} {Am : Nat → Nat → Int32} {Jm : Nat → Nat → Int64} {x2 x3 : Int32}, IY c x1.toInt nm P F A Fm Am → 0 ≤ x3.toInt → 1460 + 6 - x3.toInt < (n : Int) → P2 (e_Evening_suspectBits_4 n P F A J x1 x2 x3) (d_suspects_18 m Fm Am Jm x1 x2 x3) (fun a b => a.1 = b.1) := by
  intro n
  induction n with
  | zero => intro m P F A J Fm Am Jm x2 x3 _ _ _ a b ha; cases ha
  | succ n ih =>
    intro m P F A J Fm Am Jm x2 x3 I x0 hn
    have N := I.1.1.1
    have G := I.1.2.1
    have lm : (-1 : Int32).toInt = -1 := by decide
    have hm17 := N.men
    cases m with
    | zero => intro a b _ hb; cases hb
    | succ m =>
      unfold e_Evening_suspectBits_4 d_suspects_18
      refine p2_bl (fun _ hk => ?_)
      obtain rfl := (gg_chk hk).2.symm
      refine p2_r v_menNow (fun v3 q3 => ?_)
      rw [G.2.2.1]
      have i4 := I.2.2
      refine p2_cl (fun c => p2_cr (fun _ => p2_some rfl) (fun c2 => ?_)) (fun c => p2_cr (fun c2 => ?_) (fun _ => ?_))
      · rw [i_ge] at c
        rw [i_nge] at c2
        omega
      · rw [i_nge] at c
        rw [i_ge] at c2
        omega
      · rw [i_nge] at c
        have e31 := i_p1 (x := x3) (by omega)
        unfold e_Evening_isSuspect d_isSuspect
        refine p2_call (p2_isSus2 (x1 := x3) (x2 := x1) (x3 := -1) (y3 := 0) ⟨x0, by omega⟩ hc h30 I.1 I.2.1 c (.inl ⟨lm, i_0⟩) (by rw [lm]; omega)) ?_
        rintro ⟨v, P4, F5, A6, J7⟩ ⟨v', Fm5, Am6, Jm7⟩ ⟨e1, q, z⟩
        dsimp only at e1 q z ⊢
        rw [e1]
        unfold e_Evening_suspectBits_30 d_suspects_41
        exact p2_dd' (fun _ => ih (I.tried q z) (by omega) (by omega)) (fun _ => ih (I.tried q z) (by omega) (by omega))
theorem v_cKnown : po (e_SleepWork_isKnownBy P F A J x1) (fun v => BV v (0 ≤ x1.toInt ∧ x1.toInt ≤ (F 25 2).toInt)) := by
  unfold e_SleepWork_isKnownBy
  refine po_cond (fun c => po_some (.inr ⟨rfl, ?_⟩)) (fun c => ?_)
  · rw [i_lt, i_0] at c
    omega
  · rw [i_nlt, i_0] at c
    refine po_cond (fun c2 => po_some (.inr ⟨rfl, ?_⟩)) (fun c2 => po_some (.inl ⟨rfl, ?_⟩))
    · rw [i_gt] at c2
      omega
    · rw [i_ngt] at c2
      omega
theorem p2_suspects (X : XR P F A Fm Am) (G : Gc P F A) (S : SAm Fm Am) (hn : 1500 ≤ n) : P2 (e_SleepWork_suspects n P F A J x1) (d_suspects m Fm Am Jm x1) (fun a b => a.1 = b.1) := by
  have N := X.1
  have ct := N.ct
  have e77 : F 25 2 = Fm 77 := X.2.1.1
  have r30 : 0 ≤ (F 25 2).toInt ∧ (F 25 2).toInt ≤ 30 := by
    have := G.1.1 25 2
    rw [show c_kind 25 = 4 by decide] at this
    exact this
  unfold e_SleepWork_suspects d_suspects
  refine p2_call (R := fun v w => BV v (0 ≤ x1.toInt ∧ x1.toInt ≤ (F 25 2).toInt) ∧ v = w) (p2_of v_cKnown v_dIn (fun a b h h' => ⟨h, h.eq h' (by rw [i_0, e77])⟩)) ?_
  rintro v w ⟨b, rfl⟩
  rcases b with ⟨rfl, p⟩ | ⟨rfl, p⟩
  · refine p2_cl (fun c => absurd c (by decide)) (fun _ => p2_cr (fun _ => ?_) (fun c => absurd c (by decide)))
    unfold e_Evening_suspectBits
    intro a b ha hb
    obtain ⟨r, hr, ha⟩ := Option.bind_eq_some_iff.mp ha
    have e := p2_susBits (c := ci A (P 0 8) 5) (nm := (F (P 0 8) 17).toInt) (fun t t0 => (N.s6 t0).2) ct.2.2.2.2.2 (by omega) ⟨X.ix G S p.2, fun _ => rfl, rfl⟩ (by decide) (by rw [i_0]; omega) r b hr hb
    obtain ⟨v3, P4, F5, A6, J7⟩ := r
    obtain rfl := Option.some.inj ha
    exact e
  · exact p2_cl (fun _ => p2_cr (fun c => absurd c (by decide)) (fun _ => p2_some rfl)) (fun c => absurd c (by decide))
/-- pairs: the second man's lefts -/
theorem p2_pairs16 {nm : Int} (h30 : x3.toInt ≤ 30) {K6 : (Nat → Nat → Nat) → (Nat → Nat → Int32) → (Nat → Nat → Nat → Int32) → (Nat → Nat → Nat → Int64) → Int32 → Int32 → Int32 → Int32 → Int32 → Option (cR Int32)} {K41 : (Nat → Int32) → (Nat → Nat → Int32) → (Nat → Nat → Int64) → Int32 → Int32 → Int32 → Int32 → Int32 → Option (mR Int32)} (hm1 : 0 ≤ x1.toInt ∧ x1.toInt < 6) (hm2 : 0 ≤ x2.toInt ∧ x2.toInt < 6) (hc : ∀ t, 0 ≤ t → c t ≤ 6) (L5 : LO c x5 y2) (h36 : x5.toInt < 36) (hv5 : x5.toInt < 0 ∨ (0 ≤ x5.toInt ∧ x5.toInt % 6 < c (x5.toInt / 6))) (hK : ∀ {P F A J Fm Am Jm x4}, IY c x3.toInt nm P F A Fm Am → P2 (K6 P F A J x1 x2 x3 x4 (x5 + 1)) (K41 Fm Am Jm x1 x2 x3 x4 (y2 + 1)) (fun a b => a.1 = b.1)) : ∀ {n m : Nat} {P : Nat → Nat → Nat} {F : Nat → Nat → Int32} {A : Nat → Nat → Nat → Int32} {J : Nat → Nat → Nat → Int64} {Fm : Nat → Int32} {Am : Nat → Nat → Int32} {Jm : Nat → Nat → Int64} {x4 x6 y6 : Int32}, IY c x3.toInt nm P F A Fm Am → LO c x6 y6 → 1400 + 36 - x6.toInt < (n : Int) → P2 (e_Evening_fittingPairs_16 K6 n P F A J x1 x2 x3 x4 x5 x6) (d_pairs_53 K41 m Fm Am Jm x1 x2 x3 x4 y2 y6) (fun a b => a.1 = b.1) := by
  have l36 : (36 : Int32).toInt = 36 := by decide
  intro n
  induction n with
  | zero => intro m P F A J Fm Am Jm x4 x6 y6 _ _ _ a b ha; cases ha
  | succ n ih =>
    intro m P F A J Fm Am Jm x4 x6 y6 I L hn
    have N := I.1.1.1
    have G := I.1.2.1
    have lr := L.r
    have e5 : ci A (P 0 8) 5 = c := funext I.2.1
    cases m with
    | zero => intro a b _ hb; cases hb
    | succ m =>
      unfold e_Evening_fittingPairs_16
      refine p2_cl (fun c36 => ?_) (fun c36 => ?_)
      · rw [i_ge, l36] at c36
        have f := L.fin (by omega)
        unfold d_pairs_53 e_Evening_fittingPairs_133
        refine p2_r (r_options N) (fun v1 q1 => ?_)
        rw [e5] at q1
        refine p2_cr (fun _ => hK I) (fun c2 => ?_)
        rw [i_nge] at c2
        omega
      · rw [i_nge, l36] at c36
        have e61 := i_p1 (x := x6) (by omega)
        refine p2_bl (fun _ hk => ?_)
        obtain rfl := (gg_chk hk).2.symm
        rw [G.2.2.1]
        refine p2_l (v_mayBe (fun t t0 => by rw [e5]; exact hc t t0)) (fun v4 b4 => ?_)
        rw [e5] at b4
        rcases b4 with ⟨rfl, -⟩ | ⟨rfl, hv⟩
        · refine p2_cl (fun c => absurd c (by decide)) (fun _ => ?_)
          refine p2_bl (fun _ hk => ?_)
          obtain rfl := (gg_chk hk).2.symm
          refine p2_l (v_mayBe (fun t t0 => by rw [e5]; exact hc t t0)) (fun v7 b7 => ?_)
          rw [e5] at b7
          rcases b7 with ⟨rfl, hv⟩ | ⟨rfl, hv⟩
          · refine p2_cl (fun c => absurd c (by decide)) (fun _ => ?_)
            obtain ⟨Ln, lt36⟩ := L.next (by omega) hv
            unfold d_pairs_53
            refine p2_r (r_options N) (fun v1 q1 => ?_)
            rw [e5] at q1
            refine p2_cr (fun c2 => ?_) (fun _ => ?_)
            · rw [i_ge] at c2
              omega
            refine p2_bl (fun z hz => p2_br (fun b1 hb1 => ?_))
            obtain ⟨T, f32, eP, eA, eM⟩ := TRy.begin I.1 hz hb1
            have qz := ((fq_trial G).po z hz).2.1
            have kb1 := kt_d_takes KT.rfl' b1 hb1
            obtain ⟨t1, cp⟩ := r_takes b1 hb1
            obtain ⟨uz, P8, F9, A10, J11⟩ := z
            obtain ⟨u1, F4, A5, J6⟩ := b1
            dsimp only at T f32 eP eA eM qz kb1 t1 cp ⊢
            obtain rfl : P = P8 := eP.symm
            obtain rfl : Fm = F4 := t1.symm
            have e10 : ci A10 (P 0 8) 5 = c := by rw [ci_fr (eA 5)]; exact e5
            refine p2_bl (fun A12 hs => p2_br (fun b2 hb2 => ?_))
            have N5 := T.1.1.1
            have LL := LO.lv (n := m) (Jm := J6) (x1 := x5) (y1 := y2) (x2 := x1) (by rw [e10]; exact L5) N5 hm1 h36 (by rw [e10]; exact hv5)
            have lv := LL.1 b2 hb2
            obtain ⟨T2, eA2, eM2⟩ := T.leave hm1 hs hb2 lv LL.2
            have kb2 := kt_d_leaves kb1 b2 hb2
            have q12 : QFc P P F F9 A A12 := qz.st (gg_cst hs).2.2 trivial tg33
            obtain ⟨v16, F17, A18, J19⟩ := b2
            have l1 : F17 = Fm := lv.1.2
            dsimp only at T2 eM2 kb2 ⊢
            obtain rfl : Fm = F17 := l1.symm
            have e12 : ci A12 (P 0 8) 5 = c := by rw [ci_fr (eA2 5)]; exact e10
            refine p2_bl (fun A14 hs2 => p2_br (fun b3 hb3 => ?_))
            have LL2 := LO.lv (n := m) (Jm := J19) (x1 := x6) (y1 := y6) (x2 := x2) (by rw [e12]; exact L) T2.1.1.1 hm2 (by omega) (by rw [e12]; exact hv)
            have lv2 := LL2.1 b3 hb3
            obtain ⟨T3, eA3, eM3⟩ := T2.leave hm2 hs2 hb3 lv2 LL2.2
            have kb3 := kt_d_leaves kb2 b3 hb3
            have q14 : QFc P P F F9 A A14 := q12.st (gg_cst hs2).2.2 trivial tg33
            obtain ⟨v20, F21, A22, J23⟩ := b3
            dsimp only at T3 kb3 ⊢
            refine p2_bl (fun _ hk => ?_)
            obtain rfl := (gg_chk hk).2.symm
            refine p2_bl (fun _ hk => ?_)
            obtain rfl := (gg_chk hk).2.symm
            refine p2_bl (fun w hw => p2_bl (fun v23 h23 => p2_br (fun b4 hb4 => ?_)))
            obtain ⟨r1, I3, -, q3, k3, -⟩ := TRy.isSo (x2 := x3) T3 (by omega) (Int.le_refl _) h30 hw h23 hb4
            have qq : QFc P w.2.1 F w.2.2.1 A w.2.2.2.1 := q14.tr q3
            have kk : KT Fm Am b4.2.1 b4.2.2.1 := kb3.tr k3
            obtain ⟨uw, P16, F17', A18', J19'⟩ := w
            obtain ⟨v24, F25, A26, J27⟩ := b4
            dsimp only at r1 qq kk ⊢
            rw [r1]
            have I4 := I.tried qq kk
            have z4 : x4 + 0 = x4 := i_ext (by
              have r := i_rng x4
              rw [i_add (by rw [i_0]; omega) (by rw [i_0]; omega), i_0]
              omega)
            unfold e_Evening_fittingPairs_124 e_Evening_fittingPairs_127 d_pairs_93
            rw [z4]
            exact p2_dd' (fun _ => ih I4 Ln (by omega)) (fun _ => ih I4 Ln (by omega))
          · refine p2_cl (fun _ => ?_) (fun c => absurd c (by decide))
            unfold e_Evening_fittingPairs_127
            exact ih I (L.over (by omega) hv) (by omega)
        · exact absurd hv5 hv
/-- the first man's -/
theorem p2_pairs6 {nm : Int} (h30 : x3.toInt ≤ 30) (hm1 : 0 ≤ x1.toInt ∧ x1.toInt < 6) (hm2 : 0 ≤ x2.toInt ∧ x2.toInt < 6) (hc : ∀ t, 0 ≤ t → c t ≤ 6) : ∀ {n m : Nat} {P : Nat → Nat → Nat} {F : Nat → Nat → Int32} {A : Nat → Nat → Nat → Int32} {J : Nat → Nat → Nat → Int64} {Fm : Nat → Int32} {Am : Nat → Nat → Int32} {Jm : Nat → Nat → Int64} {x4 x5 y5 : Int32}, IY c x3.toInt nm P F A Fm Am → LO c x5 y5 → 1440 + 36 - x5.toInt < (n : Int) → P2 (e_Evening_fittingPairs_6 n P F A J x1 x2 x3 x4 x5) (d_pairs_41 m Fm Am Jm x1 x2 x3 x4 y5) (fun a b => a.1 = b.1) := by
  have l36 : (36 : Int32).toInt = 36 := by decide
  have lm : (-1 : Int32).toInt = -1 := by decide
  intro n
  induction n with
  | zero => intro m P F A J Fm Am Jm x4 x5 y5 _ _ _ a b ha; cases ha
  | succ n ih =>
    intro m P F A J Fm Am Jm x4 x5 y5 I L hn
    have N := I.1.1.1
    have G := I.1.2.1
    have lr := L.r
    have e5 : ci A (P 0 8) 5 = c := funext I.2.1
    cases m with
    | zero => intro a b _ hb; cases hb
    | succ m =>
      unfold e_Evening_fittingPairs_6
      refine p2_cl (fun c36 => ?_) (fun c36 => ?_)
      · rw [i_ge, l36] at c36
        have f := L.fin (by omega)
        unfold d_pairs_41
        refine p2_r (r_options N) (fun v1 q1 => ?_)
        rw [e5] at q1
        refine p2_cr (fun _ => p2_some rfl) (fun c2 => ?_)
        rw [i_nge] at c2
        omega
      · rw [i_nge, l36] at c36
        have e51 := i_p1 (x := x5) (by omega)
        by_cases hv : x5.toInt < 0 ∨ (0 ≤ x5.toInt ∧ x5.toInt % 6 < c (x5.toInt / 6))
        · obtain ⟨Ln, lt36⟩ := L.next (by omega) hv
          unfold d_pairs_41
          refine p2_r (r_options N) (fun v1 q1 => ?_)
          rw [e5] at q1
          refine p2_cr (fun c2 => ?_) (fun _ => ?_)
          · rw [i_ge] at c2
            omega
          exact p2_pairs16 h30 hm1 hm2 hc L (by omega) hv (fun I' => ih I' Ln (by omega)) I (.inl ⟨lm, i_0⟩) (by rw [lm]; omega)
        · -- no such left: the class's inner loop ends at once
          cases n with
          | zero => intro a b ha; cases ha
          | succ n' =>
            unfold e_Evening_fittingPairs_16
            refine p2_cl (fun c => ?_) (fun _ => ?_)
            · rw [i_ge, l36, lm] at c
              omega
            refine p2_bl (fun _ hk => ?_)
            obtain rfl := (gg_chk hk).2.symm
            rw [G.2.2.1]
            refine p2_l (v_mayBe (fun t t0 => by rw [e5]; exact hc t t0)) (fun v4 b4 => ?_)
            rw [e5] at b4
            rcases b4 with ⟨rfl, hv'⟩ | ⟨rfl, -⟩
            · exact absurd hv' hv
            · refine p2_cl (fun _ => ?_) (fun c => absurd c (by decide))
              unfold e_Evening_fittingPairs_133
              exact ih I (L.over (by omega) hv) (by omega)
theorem p2_pairs (X : XR P F A Fm Am) (G : Gc P F A) (S : SAm Fm Am) (hn : 1500 ≤ n) : P2 (e_SleepWork_pairs n P F A J x1 x2 x3) (d_pairs m Fm Am Jm x1 x2 x3) (fun a b => a.1 = b.1) := by
  have N := X.1
  have ct := N.ct
  have lm : (-1 : Int32).toInt = -1 := by decide
  have e77 : F 25 2 = Fm 77 := X.2.1.1
  have r30 : 0 ≤ (F 25 2).toInt ∧ (F 25 2).toInt ≤ 30 := by
    have := G.1.1 25 2
    rw [show c_kind 25 = 4 by decide] at this
    exact this
  unfold e_SleepWork_pairs d_pairs e_SleepWork_areTwoMen
  intro a b ha hb
  obtain ⟨v1, h1, ha⟩ := Option.bind_eq_some_iff.mp ha
  obtain ⟨w1, k1, hb⟩ := Option.bind_eq_some_iff.mp hb
  obtain ⟨u1, j1, h1⟩ := Option.bind_eq_some_iff.mp h1
  have b1 := v_cMan _ j1
  have d1 := v_dMan S _ k1
  have e1 : u1 = w1 := b1.eq d1 (by rw [CX.men N.1])
  subst e1
  rcases b1 with ⟨rfl, p1⟩ | ⟨rfl, p1⟩
  · have h1 : ((e_SleepWork_isMan P F A J x2).bind fun v3 => cond (g_cnd .eq v3 0) (some (0 : Int32)) (cond (g_cnd .eq x1 x2) (some 0) (some 1))) = some v1 := h1
    obtain ⟨u2, j2, h1⟩ := Option.bind_eq_some_iff.mp h1
    have hb : ((d_isMan Fm Am Jm x2).bind fun v3 => cond (g_cnd .eq v3 0) (some ((-1 : Int32), Fm, Am, Jm)) (cond (g_cnd .eq x1 x2) (some ((-1), Fm, Am, Jm)) ((d_in x3 0 (Fm 77)).bind fun v6 => cond (g_cnd .ne v6 0) (d_pairs_41 m Fm Am Jm x1 x2 x3 0 0) (some ((-1), Fm, Am, Jm))))) = some b := hb
    obtain ⟨w2, k2, hb⟩ := Option.bind_eq_some_iff.mp hb
    have b2 := v_cMan _ j2
    have d2 := v_dMan S _ k2
    have e2 : u2 = w2 := b2.eq d2 (by rw [CX.men N.1])
    subst e2
    rcases b2 with ⟨rfl, p2⟩ | ⟨rfl, p2⟩
    · have h1 : cond (g_cnd .eq x1 x2) (some (0 : Int32)) (some 1) = some v1 := h1
      have hb : cond (g_cnd .eq x1 x2) (some ((-1 : Int32), Fm, Am, Jm)) ((d_in x3 0 (Fm 77)).bind fun v6 => cond (g_cnd .ne v6 0) (d_pairs_41 m Fm Am Jm x1 x2 x3 0 0) (some ((-1), Fm, Am, Jm))) = some b := hb
      cases hx : g_cnd .eq x1 x2 with
      | true =>
        rw [hx] at h1 hb
        obtain rfl := Option.some.inj h1
        obtain rfl := Option.some.inj ha
        obtain rfl := Option.some.inj hb
        rfl
      | false =>
        rw [hx] at h1 hb
        obtain rfl := Option.some.inj h1
        have ha : ((e_SleepWork_isKnownBy P F A J x3).bind fun v3 => cond (g_cnd .ne v3 0) ((e_Evening_fittingPairs n P F A J x1 x2 x3).bind fun (v5, P6, F7, A8, J9) => some (v5, P6, F7, A8, J9)) (some ((-1 : Int32), P, F, A, J))) = some a := ha
        obtain ⟨v3, h3, ha⟩ := Option.bind_eq_some_iff.mp ha
        have hb : ((d_in x3 0 (Fm 77)).bind fun v6 => cond (g_cnd .ne v6 0) (d_pairs_41 m Fm Am Jm x1 x2 x3 0 0) (some ((-1 : Int32), Fm, Am, Jm))) = some b := hb
        obtain ⟨w3, k3, hb⟩ := Option.bind_eq_some_iff.mp hb
        have b3 := v_cKnown _ h3
        have d3 := v_dIn _ k3
        have e3 : v3 = w3 := b3.eq d3 (by rw [i_0, e77])
        subst e3
        rcases b3 with ⟨rfl, p3⟩ | ⟨rfl, p3⟩
        · have ha : ((e_Evening_fittingPairs n P F A J x1 x2 x3).bind fun (v5, P6, F7, A8, J9) => some (v5, P6, F7, A8, J9)) = some a := ha
          have hb : d_pairs_41 m Fm Am Jm x1 x2 x3 0 0 = some b := hb
          obtain ⟨r, hr, ha⟩ := Option.bind_eq_some_iff.mp ha
          unfold e_Evening_fittingPairs at hr
          have e := p2_pairs6 (c := ci A (P 0 8) 5) (nm := (F (P 0 8) 17).toInt) (x4 := 0) (x5 := -1) (y5 := 0) (by omega) ⟨p1.1, by omega⟩ ⟨p2.1, by omega⟩ (fun t t0 => (N.s6 t0).2) ⟨X.ix G S p3.2, fun _ => rfl, rfl⟩ (.inl ⟨lm, i_0⟩) (by rw [lm]; omega) r b hr hb
          obtain ⟨v5, P6, F7, A8, J9⟩ := r
          obtain rfl := Option.some.inj ha
          exact e
        · obtain rfl := Option.some.inj ha
          obtain rfl := Option.some.inj hb
          rfl
    · obtain rfl := Option.some.inj h1
      obtain rfl := Option.some.inj ha
      obtain rfl := Option.some.inj hb
      rfl
  · obtain rfl := Option.some.inj h1
    obtain rfl := Option.some.inj ha
    obtain rfl := Option.some.inj hb
    rfl
end H9fo
