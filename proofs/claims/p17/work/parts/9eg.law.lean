section B7
variable {T : TS} {d n m N nn : Nat} {o : Int} {P : Nat → Nat → Nat} {F F' : Nat → Nat → Int32} {A A' : Nat → Nat → Nat → Int32} {J J' : Nat → Nat → Nat → Int64} {Fm Fm' : Nat → Int32} {Am Am' : Nat → Nat → Int32} {Jm Jm' : Nat → Nat → Int64} {k k' x1 x2 x3 v : Int32} {γ δ : Type} {Q : γ → δ → Prop}
/-- the reference writes what belongs to laws -/
theorem SX.w (S : SX T o d J Jm F A Fm Am) (hF : ∀ q, q ≠ 49 → q ≠ 56 → q ≠ 60 → Fm' q = Fm q) (hA : ∀ q, q < 34 ∨ q = 41 → Am' q = Am q) : SX T o d J Jm F A Fm' Am' :=
  ⟨S.r.cg (fun _ _ => rfl) (fun q hq => hF q (by omega) (by omega) (by omega)), S.x.a (fun q hq => hA q (by omega)), S.h.fr (fun _ _ _ => rfl) rfl rfl (fun _ _ => rfl) (hF 19 (by decide) (by decide) (by decide)) (hF 20 (by decide) (by decide) (by decide)) (hF 12 (by decide) (by decide) (by decide)) (fun q hq => hA q (by omega)) rfl, RW.fr S.e S.h.s0 (fun _ _ _ => rfl) rfl rfl (fun _ => rfl) (fun _ _ _ => rfl) (hF 19 (by decide) (by decide) (by decide)) (fun q _ _ h _ _ _ _ => hA q (by omega))⟩
theorem SX.a (S : SX T o d J Jm F A Fm Am) (hA : ∀ q, q < 34 ∨ q = 41 → Am' q = Am q) : SX T o d J Jm F A Fm Am' := S.w (fun _ _ _ _ => rfl) hA
/-- what a term of a law has become -/
def TTx (d : Nat) (F0 : Nat → Nat → Int32) (A0 : Nat → Nat → Nat → Int32) (Fm0 : Nat → Int32) (Am0 : Nat → Nat → Int32) (l : Int) (F : Nat → Nat → Int32) (A : Nat → Nat → Nat → Int32) (Fm : Nat → Int32) (Am : Nat → Nat → Int32) : Prop := SGT d A Am (F0 d 1304).toInt (Fm0 56).toInt l ∧ ((Fm 56).toInt = (Fm0 56).toInt + l ∧ (F d 1304).toInt = (F0 d 1304).toInt + l ∧ (F d 1304).toInt + 3 ≤ (Fm 11).toInt ∧ 0 ≤ (Fm0 49).toInt ∧ (Fm 49).toInt = (Fm0 49).toInt + 1) ∧ BLW (F0 d 1304).toInt (Fm0 56).toInt (Fm0 49).toInt d A0 A Am0 Am ∧ A d 14 = A0 d 14 ∧ (ai Am 39 (Fm0 49).toInt = (Fm0 56).toInt ∧ ai Am 40 (Fm0 49).toInt = (Fm0 56).toInt + l) ∧ (∀ q, 34 ≤ q → q ≤ 38 → Am q = Am0 q) ∧ Fm 19 = Fm0 19
/-- a term of a law, on both sides -/
theorem p2_term {f : cR Unit → Option γ} {g : mR Unit → Option δ} (K : TKs T) (h5 : P 37 5 = d) (hk : c_kind d = 6) (S : SX T 0 d J Jm F A Fm Am) (hL : 0 ≤ (F d 1304).toInt ∧ (F d 1304).toInt + 3 ≤ (Fm 11).toInt) (h56 : 0 ≤ (Fm 56).toInt) (ks : ∀ F' A' Fm' Am' l, SX T 0 d J Jm F' A' Fm' Am' → TTx d F A Fm Am l F' A' Fm' Am' → P2 (f ((), P, F', A', J)) (g ((), Fm', Am', Jm)) Q) (kf : ∀ F' A' J' Fm' Am' Jm', FE F' Fm' → P2 (f ((), P, F', A', J')) (g ((), Fm', Am', Jm')) Q) : P2 ((e_Reader_readSum 8 n P F A J 0).bind f) ((d_term m Fm Am Jm).bind g) Q := by
  unfold d_term
  rw [Option.bind_assoc]
  refine p2_br (fun A1 e1 => ?_)
  have a1 := gg_st e1
  have S1 : SX T 0 d J Jm F A Fm A1 := S.a (fun q hq => a1.2.2.1 q (by omega))
  rw [S.r.nz, cond_false, Option.bind_assoc]
  refine p2_expr K h5 hk S1 hL h56 (fun F2 A2 Fm2 Am2 l S2 T2 => ?_) (fun F2 A2 J2 Fm2 Am2 Jm2 E => ?_)
  · dsimp only
    rw [Option.bind_assoc]
    refine p2_br (fun A3 e3 => ?_)
    have a3 := gg_st e3
    rw [Option.bind_assoc]
    refine p2_br (fun F4 e4 => ?_)
    have a4 := gg_pf e4
    rw [Option.bind_some]
    obtain ⟨t1, t2, t3, t4, t5, ⟨t6, t7, t8, t9⟩, t10⟩ := T2
    have t49 : Fm2 49 = Fm 49 := (Prod.mk.inj t10).1
    have t19 : Fm2 19 = Fm 19 := (Prod.mk.inj t10).2
    rw [t49] at a3
    have m3 : ∀ q, q ≠ 40 → A3 q = Am2 q := a3.2.2.1
    have s49 : (F4 49).toInt = (Fm 49).toInt + 1 := by rw [a4.1, t49, i_add (by rw [i_1]; omega) (by rw [i_1]; have := a1.2.1; omega), i_1]
    refine ks F2 A2 F4 A3 l (S2.w (fun q h _ _ => a4.2 q h) (fun q hq => a3.2.2.1 q (by omega))) ⟨⟨t1.fr (fun _ _ _ => ⟨rfl, rfl⟩) (fun i _ _ => by rw [ai_fr (m3 42 (by decide)), ai_fr (m3 43 (by decide))]; exact ⟨rfl, rfl⟩), by rw [dpm_fr (m3 42 (by decide))]; exact t2⟩, ⟨by rw [a4.2 56 (by decide)]; exact t3, t4, by rw [a4.2 11 (by decide)]; omega, a1.1, s49⟩, ⟨t6, fun i i0 i1 => ?_, fun q h1 h2 i i0 i1 => ?_⟩, t9, ⟨?_, ?_⟩, fun q h1 h2 => ?_, (a4.2 19 (by decide)).trans t19⟩
    · rw [ai_fr (m3 42 (by decide)), ai_fr (m3 43 (by decide))]
      have w := t7 i i0 i1
      rw [ai_fr (a1.2.2.1 42 (by decide)), ai_fr (a1.2.2.1 43 (by decide))] at w
      exact w
    · have w := t8 q (by omega) (by omega)
      by_cases e40 : q = 40
      · rw [e40, a3.2.2.2.2 i i0 (by omega), ai_fr (t8 40 (by decide) (by decide)), ai_fr (a1.2.2.1 40 (by decide))]
      · rw [ai_fr (m3 q e40), ai_fr w]
        by_cases e39 : q = 39
        · rw [e39]; exact a1.2.2.2.2 i i0 (by omega)
        · rw [ai_fr (a1.2.2.1 q e39)]
    · rw [ai_fr (m3 39 (by decide)), ai_fr (t8 39 (by decide) (by decide))]
      exact a1.2.2.2.1
    · rw [a3.2.2.2.1]
      exact t3
    · rw [m3 q (by omega), t8 q h1 (by omega), a1.2.2.1 q (by omega)]
  · dsimp only
    rw [Option.bind_assoc]
    refine p2_br (fun A3 e3 => ?_)
    rw [Option.bind_assoc]
    refine p2_br (fun F4 e4 => ?_)
    have e13 : F4 13 = Fm2 13 := (gg_pf e4).2 13 (by decide)
    rw [Option.bind_some]
    exact kf F2 A2 J2 F4 A3 Jm2 ⟨by rw [e13]; exact E.1, by rw [e13]; exact E.gg⟩
theorem term_ff (E : FE F Fm) : po (d_term m Fm Am Jm) (fun b => b.2.1 13 = Fm 13) := by
  unfold d_term d_term_24
  refine po_bl (fun A1 _ => ?_)
  rw [E.nz, cond_true]
  exact po_bl (fun A2 _ => po_bl (fun F3 e3 => po_some ((gg_pf e3).2 13 (by decide))))
/-- the reference goes on with its fault -/
theorem l116_ff {x : Option γ} {K18 : (Nat → Int32) → (Nat → Nat → Int32) → (Nat → Nat → Int64) → Int32 → Int32 → Int32 → Option δ} (E : FE F Fm) (ks : ∀ Fm' Am' Jm', FE F Fm' → P2 x (K18 Fm' Am' Jm' x1 x2 x3) Q) : P2 x ((d_must Fm Am Jm 32).bind fun (_, F99, A100, J101) => (d_term m F99 A100 J101).bind fun (_, F103, A104, J105) => (d_must F103 A104 J105 33).bind fun (_, F107, A108, J109) => K18 F107 A108 J109 x1 x2 x3) Q := by
  rw [d_must_ff E.gg, Option.bind_some]
  dsimp only
  refine p2_r (term_ff E) ?_
  rintro ⟨u, F1, A1, J1⟩ h1
  have h1 : F1 13 = Fm 13 := h1
  dsimp only
  have E1 : FE F F1 := ⟨by rw [h1]; exact E.1, by rw [h1]; exact E.gg⟩
  rw [d_must_ff E1.gg, Option.bind_some]
  exact ks F1 A1 J1 E1
/-- the class's if, in pieces -/
def gif3 (n : Nat) (P : Nat → Nat → Nat) (F : Nat → Nat → Int32) (A : Nat → Nat → Nat → Int32) (J : Nat → Nat → Nat → Int64) (v22 : Int32) : Option (cR Unit) :=
  (c_chk 6 (P 37 5)).bind fun q37 =>
  (e_Laws_add P F A J q37 0 0).bind fun (v38, P39, F40, A41, J42) =>
  (e_Reader_take P39 F40 A41 J42 14).bind fun (v43, P44, F45, A46, J47) =>
  (c_chk 6 (P44 37 5)).bind fun q48 =>
  (e_Laws_aimHere P44 F45 A46 J47 q48 v22).bind fun (_, P50, F51, A52, J53) =>
  some ((), P50, F51, A52, J53)
def gif2 (n : Nat) (P : Nat → Nat → Nat) (F : Nat → Nat → Int32) (A : Nat → Nat → Nat → Int32) (J : Nat → Nat → Nat → Int64) : Option (cR Unit) :=
  (c_chk 6 (P 37 5)).bind fun q21 =>
  (e_Laws_add P F A J q21 60 0).bind fun (v22, P23, F24, A25, J26) =>
  (e_Reader_take P23 F24 A25 J26 13).bind fun (v27, P28, F29, A30, J31) =>
  (e_Reader_readSum 8 n P28 F29 A30 J31 0).bind fun (_, P33, F34, A35, J36) =>
  gif3 n P33 F34 A35 J36 v22
def gif1 (n : Nat) (P : Nat → Nat → Nat) (F : Nat → Nat → Int32) (A : Nat → Nat → Nat → Int32) (J : Nat → Nat → Nat → Int64) : Option (cR Unit) :=
  (e_Reader_take P F A J 60).bind fun (v11, P12, F13, A14, J15) =>
  (e_Reader_readSum 8 n P12 F13 A14 J15 0).bind fun (_, P17, F18, A19, J20) =>
  gif2 n P17 F18 A19 J20
theorem readIf_g : e_Reader_readIf n P F A J = (e_Reader_take P F A J 12).bind fun (v1, P2, F3, A4, J5) => (e_Reader_readSum 8 n P2 F3 A4 J5 0).bind fun (_, P7, F8, A9, J10) => gif1 n P7 F8 A9 J10 := rfl
def cFf (P : Nat → Nat → Nat) (F : Nat → Nat → Int32) (r : cR Unit) : Prop := ∃ F' A' J', r = ((), P, F', A', J') ∧ F' 37 10 = F 37 10
theorem gif3_ff (hd : d ≠ 37) (hc : c_chk 6 (P 37 5) = some d) (h : (F 37 10).toInt ≠ 0) : po (gif3 n P F A J v) (cFf P F) := by
  unfold gif3
  rw [hc, Option.bind_some]
  refine po_call add_po ?_
  rintro _ ⟨w, F1, A1, rfl, f1⟩
  have e1 := f1.1 37 10 (fun e => hd e.1.symm)
  dsimp only
  rw [e_take_ff (by rw [e1]; exact h), Option.bind_some]
  dsimp only
  rw [hc, Option.bind_some]
  refine po_call aim_po ?_
  rintro _ ⟨A2, rfl, f2⟩
  exact po_some ⟨F1, A2, J, rfl, e1⟩
theorem gif2_ff (hd : d ≠ 37) (hc : c_chk 6 (P 37 5) = some d) (h : (F 37 10).toInt ≠ 0) : po (gif2 n P F A J) (cFf P F) := by
  unfold gif2
  rw [hc, Option.bind_some]
  refine po_call add_po ?_
  rintro _ ⟨w, F1, A1, rfl, f1⟩
  have e1 := f1.1 37 10 (fun e => hd e.1.symm)
  dsimp only
  rw [e_take_ff (by rw [e1]; exact h), Option.bind_some]
  dsimp only
  refine po_call (eS_ff hd hc (by rw [e1]; exact h)) ?_
  rintro _ ⟨F2, A2, rfl, f2⟩
  have e2 := f2.1 37 10 (fun e => hd e.1.symm)
  dsimp only
  refine po_mono (gif3_ff hd hc (by rw [e2, e1]; exact h)) ?_
  rintro _ ⟨F3, A3, J3, rfl, e3⟩
  exact ⟨F3, A3, J3, rfl, by rw [e3, e2, e1]⟩
theorem gif1_ff (hd : d ≠ 37) (hc : c_chk 6 (P 37 5) = some d) (h : (F 37 10).toInt ≠ 0) : po (gif1 n P F A J) (cFf P F) := by
  unfold gif1
  rw [e_take_ff h, Option.bind_some]
  dsimp only
  refine po_call (eS_ff hd hc h) ?_
  rintro _ ⟨F2, A2, rfl, f2⟩
  have e2 := f2.1 37 10 (fun e => hd e.1.symm)
  dsimp only
  refine po_mono (gif2_ff hd hc (by rw [e2]; exact h)) ?_
  rintro _ ⟨F3, A3, J3, rfl, e3⟩
  exact ⟨F3, A3, J3, rfl, by rw [e3, e2]⟩
theorem readIf_ff (hd : d ≠ 37) (hc : c_chk 6 (P 37 5) = some d) (h : (F 37 10).toInt ≠ 0) : po (e_Reader_readIf n P F A J) (cFf P F) := by
  rw [readIf_g, e_take_ff h, Option.bind_some]
  dsimp only
  refine po_call (eS_ff hd hc h) ?_
  rintro _ ⟨F2, A2, rfl, f2⟩
  have e2 := f2.1 37 10 (fun e => hd e.1.symm)
  dsimp only
  refine po_mono (gif1_ff hd hc (by rw [e2]; exact h)) ?_
  rintro _ ⟨F3, A3, J3, rfl, e3⟩
  exact ⟨F3, A3, J3, rfl, by rw [e3, e2]⟩
/-- an if of a law, on both sides -/
theorem p2_if {f : cR Unit → Option γ} {K18 : (Nat → Int32) → (Nat → Nat → Int32) → (Nat → Nat → Int64) → Int32 → Int32 → Int32 → Option (mR Unit)} {Q : γ → mR Unit → Prop} {nb : Nat} {s p0 b0 c0 : Int} {A1 : Nat → Nat → Nat → Int32} {Am1 : Nat → Nat → Int32} (K : TKs T) (h5 : P 37 5 = d) (hk : c_kind d = 6) (S : SX T 0 d J Jm F A Fm Am) (LG : LGx nb s p0 b0 c0 d A1 Am1 F A Fm Am) (hm : (Am 3 (Fm 11).toInt.toNat).toInt = (31 : Int32).toInt) (ks : ∀ F' A' Fm' Am', SX T 0 d J Jm F' A' Fm' Am' → LGx (nb + 1) s p0 b0 c0 d A1 Am1 F' A' Fm' Am' → P2 (f ((), P, F', A', J)) (K18 Fm' Am' Jm x1 x2 (x3 + 1)) Q) (kf : ∀ F' A' J' Fm' Am' Jm', FE F' Fm' → P2 (f ((), P, F', A', J')) (K18 Fm' Am' Jm' x1 x2 (x3 + 1)) Q) : P2 ((e_Reader_readIf n P F A J).bind f) (d_tellLaw_44 K18 m Fm Am Jm x1 x2 x3) Q := by
  have hd := kd37 hk
  have hd3 := kd3 hk
  have hc := chk_in h5 hk
  -- the class's rest with a fault beside what the reference has come to
  have cf : ∀ {o : Option (cR Unit)} {F1 : Nat → Nat → Int32} {Fm1 Am1 Jm1}, po o (cFf P F1) → FE F1 Fm1 → P2 (o.bind f) (K18 Fm1 Am1 Jm1 x1 x2 (x3 + 1)) Q := by
    intro o F1 Fm1 Am1 Jm1 ho E
    refine p2_l ho ?_
    rintro _ ⟨F2, A2, J2, rfl, e2⟩
    exact kf F2 A2 J2 Fm1 Am1 Jm1 ⟨by rw [e2]; exact E.1, E.gg⟩
  have FEr : ∀ {F1 F2 : Nat → Nat → Int32} {Fm1 : Nat → Int32}, FE F1 Fm1 → F2 37 10 = F1 37 10 → FE F2 Fm1 := fun E e => ⟨by rw [e]; exact E.1, E.gg⟩
  rw [readIf_g]
  unfold d_tellLaw_44
  rw [S.r.le, cond_true, Option.bind_assoc]
  refine p2_goes (k' := 31) K S.r S.x (by decide) (by decide) hm (fun F1 Fm1 U1 => ?_) (fun F1 Fm1 fc fm E => ?_)
  · have S1 := S.v hd U1.v
    dsimp only
    refine p2_br (fun A2 e2 => ?_)
    have a2 := gg_st e2
    refine p2_br (fun A3 e3 => ?_)
    have a3 := gg_st e3
    have S3 : SX T 0 d J Jm F1 A Fm1 A3 := S1.a (fun q hq => by rw [a3.2.2.1 q (by omega), a2.2.2.1 q (by omega)])
    rw [Option.bind_assoc]
    have ple := LPx.le LG.1
    have f1304 : F1 d 1304 = F d 1304 := U1.fc d 1304 (fun e => hd e.1)
    have hL3 : 0 ≤ (F1 d 1304).toInt ∧ (F1 d 1304).toInt + 3 ≤ (Fm1 11).toInt := by
      rw [f1304, U1.m1]
      have := LG.2.2.2.2.2.1
      have := LG.2.2.2.2.2.2
      omega
    have h563 : 0 ≤ (Fm1 56).toInt := by
      rw [U1.fm 56 (by decide)]
      have := LG.2.2.2.2.2.1
      omega
    refine p2_expr K h5 hk S3 hL3 h563 (fun F4 A4 Fm4 Am4 l1 S4 T4 => ?_) (fun F4 A4 J4 Fm4 Am4 Jm4 E => ?_)
    · dsimp only
      unfold gif1
      rw [Option.bind_assoc]
      refine p2_take K S4.r S4.x (k' := 13) (by decide) (by decide) (fun F5 Fm5 U5 _ => ?_) (fun F5 Fm5 fc fm E _ => ?_)
      · have S5 := S4.v hd U5.v
        dsimp only
        refine p2_br (fun A6 e6 => ?_)
        have a6 := gg_st e6
        have S6 : SX T 0 d J Jm F5 A4 Fm5 A6 := S5.a (fun q hq => a6.2.2.1 q (by omega))
        rw [S5.r.nz, cond_false, Option.bind_assoc]
        have g5 : F5 d 1304 = F4 d 1304 := U5.fc d 1304 (fun e => hd e.1)
        have c5 : Fm5 56 = Fm4 56 := U5.fm 56 (by decide)
        have j5 : Fm5 49 = Fm4 49 := U5.fm 49 (by decide)
        have m5 := U5.m1
        have g5i := congrArg Int32.toInt g5
        have c5i := congrArg Int32.toInt c5
        obtain ⟨t1, t2, t3, t4, t5, ⟨t6, t7, t8, t9⟩, t10⟩ := T4
        have t1l := t1.1
        refine p2_expr K h5 hk S6 (by rw [g5]; omega) (by rw [c5]; omega) (fun F7 A7 Fm7 Am7 l2 S7 T7 => ?_) (fun F7 A7 J7 Fm7 Am7 Jm7 E => ?_)
        · dsimp only
          unfold gif2
          rw [hc, Option.bind_some, Option.bind_assoc]
          obtain ⟨u1, u2, u3, u4, u5, ⟨u6, u7, u8, u9⟩, u10⟩ := T7
          have u1l := u1.1
          have t71 := S7.r.t1
          refine p2_l (add_v (by omega) (by omega)) ?_
          rintro _ ⟨v22, F8, A8, rfl, f8, v22e, g8, x15, x16, xo⟩
          have S8 := S7.l hd hd3 f8
          dsimp only
          rw [Option.bind_assoc]
          refine p2_take K S8.r S8.x (k' := 32) (by decide) (by decide) (fun F9 Fm9 U9 _ => ?_) (fun F9 Fm9 fc fm E _ => ?_)
          · have S9 := S8.v hd U9.v
            dsimp only
            rw [Option.bind_assoc]
            have g9 : F9 d 1304 = F8 d 1304 := U9.fc d 1304 (fun e => hd e.1)
            have c9 : Fm9 56 = Fm7 56 := U9.fm 56 (by decide)
            have j9 : Fm9 49 = Fm7 49 := U9.fm 49 (by decide)
            have m9 := U9.m1
            have g9i := congrArg Int32.toInt g9
            have c9i := congrArg Int32.toInt c9
            refine p2_term K h5 hk S9 (by rw [g9]; omega) (by rw [c9]; omega) (fun F10 A10 Fm10 Am10 l3 S10 T10 => ?_) (fun F10 A10 J10 Fm10 Am10 Jm10 E => ?_)
            · dsimp only
              unfold gif3
              rw [hc, Option.bind_some, Option.bind_assoc]
              obtain ⟨w1, ⟨w2, w3, w4, w5, w6⟩, w7, w8, ⟨w9, w10⟩, w11⟩ := T10
              have w1l := w1.1.1
              have t101 := S10.r.t1
              refine p2_l (add_v (by omega) (by omega)) ?_
              rintro _ ⟨v38, F11, A11, rfl, f11, -, g11, y15, y16, yo⟩
              have S11 := S10.l hd hd3 f11
              dsimp only
              rw [Option.bind_assoc]
              refine p2_take K S11.r S11.x (k' := 33) (by decide) (by decide) (fun F12 Fm12 U12 _ => ?_) (fun F12 Fm12 fc fm E _ => ?_)
              · have S12 := S11.v hd U12.v
                dsimp only
                rw [hc, Option.bind_some, Option.bind_assoc]
                have g12 : F12 d 1304 = F11 d 1304 := U12.fc d 1304 (fun e => hd e.1)
                have c12 : Fm12 56 = Fm10 56 := U12.fm 56 (by decide)
                have j12 : Fm12 49 = Fm10 49 := U12.fm 49 (by decide)
                have m12 := U12.m1
                obtain ⟨L0, hL0⟩ : ∃ L, L = (F1 d 1304).toInt := ⟨_, rfl⟩
                obtain ⟨C0, hC0⟩ : ∃ C, C = (Fm1 56).toInt := ⟨_, rfl⟩
                obtain ⟨Bb, hBb⟩ : ∃ B, B = (Fm1 49).toInt := ⟨_, rfl⟩
                obtain ⟨lg1, lg2, lg3, lg4, lg5, lg6, lg7, lg8⟩ := LG
                have u49 := (Prod.mk.inj u10).1
                have u19 := (Prod.mk.inj u10).2
                have t49 := (Prod.mk.inj t10).1
                have t19 := (Prod.mk.inj t10).2
                have f49 : Fm1 49 = Fm 49 := U1.fm 49 (by decide)
                have f56 : Fm1 56 = Fm 56 := U1.fm 56 (by decide)
                have b5 : (Fm5 49).toInt = Bb := by rw [j5, t49, hBb]
                have b9 : (Fm9 49).toInt = Bb := by rw [j9, u49]; exact b5
                have q5 : (F5 d 1304).toInt = L0 + l1 := by rw [g5, hL0]; exact t4
                have q7 : (F7 d 1304).toInt = L0 + l1 + l2 := by omega
                have q9 : (F9 d 1304).toInt = L0 + l1 + l2 + 1 := by rw [g9]; omega
                have q10 : (F10 d 1304).toInt = L0 + l1 + l2 + 1 + l3 := by omega
                have q12 : (F12 d 1304).toInt = L0 + l1 + l2 + 1 + l3 + 1 := by rw [g12]; omega
                have k5 : (Fm5 56).toInt = C0 + l1 := by rw [c5, hC0]; exact t3
                have k9 : (Fm9 56).toInt = C0 + l1 + l2 := by rw [c9]; omega
                have k12 : (Fm12 56).toInt = C0 + l1 + l2 + l3 := by rw [c12]; omega
                have vq : v22.toInt = L0 + l1 + l2 := by rw [v22e]; exact q7
                rw [← hL0] at t1 t6 hL3
                rw [← hC0] at t1 t2 t7 h563
                rw [q5] at u1 u6
                rw [k5] at u1 u2 u7
                rw [q7] at x15 x16 xo
                rw [q9] at w1 w7
                rw [k9] at w1 w7 w9 w10
                rw [b9] at w7 w9 w10
                rw [q10] at y15 y16 yo
                have tl : 0 ≤ l1 := t1l
                have ul : 0 ≤ l2 := u1l
                have wl : 0 ≤ l3 := w1l
                refine p2_l (aim_v (by omega) (by rw [q12]; omega)) ?_
                rintro _ ⟨A13, rfl, f13, z15, z16, zo⟩
                dsimp only
                rw [Option.bind_some]
                rw [vq] at z16 zo
                -- what the class has written, from the back
                have y13 : ∀ i, 0 ≤ i → i < L0 + l1 + l2 + 1 + l3 → i ≠ L0 + l1 + l2 → ci A13 d 15 i = ci A10 d 15 i ∧ ci A13 d 16 i = ci A10 d 16 i := fun i i0 i1 i2 => ⟨by rw [ci_fr z15]; exact (yo i i0 (by omega)).1, by rw [zo i i0 i2]; exact (yo i i0 (by omega)).2⟩
                have y7 : ∀ i, 0 ≤ i → i < L0 + l1 + l2 → ci A13 d 15 i = ci A7 d 15 i ∧ ci A13 d 16 i = ci A7 d 16 i := fun i i0 i1 => by
                  have a := y13 i i0 (by omega) (by omega)
                  have b := w7.1 i i0 (by omega)
                  have c := xo i i0 (by omega)
                  exact ⟨a.1.trans (b.1.trans c.1), a.2.trans (b.2.trans c.2)⟩
                have y4 : ∀ i, 0 ≤ i → i < L0 + l1 → ci A13 d 15 i = ci A4 d 15 i ∧ ci A13 d 16 i = ci A4 d 16 i := fun i i0 i1 => by
                  have a := y7 i i0 (by omega)
                  have b := u6 i i0 (by omega)
                  exact ⟨a.1.trans b.1, a.2.trans b.2⟩
                have r7 : ∀ i, 0 ≤ i → i < C0 + l1 + l2 → ai Am10 42 i = ai Am7 42 i ∧ ai Am10 43 i = ai Am7 43 i := fun i i0 i1 => w7.2.1 i i0 i1
                have r4 : ∀ i, 0 ≤ i → i < C0 + l1 → ai Am10 42 i = ai Am4 42 i ∧ ai Am10 43 i = ai Am4 43 i := fun i i0 i1 => by
                  have a := r7 i i0 (by omega)
                  have b := u7 i i0 (by omega)
                  rw [ai_fr (a6.2.2.1 42 (by decide)), ai_fr (a6.2.2.1 43 (by decide))] at b
                  exact ⟨a.1.trans b.1, a.2.trans b.2⟩
                have s36 : Am10 36 = A2 36 := by rw [w11.1 36 (by decide) (by decide), u8 36 (by decide) (by decide), a6.2.2.1 36 (by decide), t8 36 (by decide) (by decide), a3.2.2.1 36 (by decide)]
                have s37 : Am10 37 = A3 37 := by rw [w11.1 37 (by decide) (by decide), u8 37 (by decide) (by decide), a6.2.2.1 37 (by decide), t8 37 (by decide) (by decide)]
                have s38 : Am10 38 = A6 38 := by rw [w11.1 38 (by decide) (by decide), u8 38 (by decide) (by decide)]
                have n1 : (vp_nar .boolean (1 : Int32)).toInt = 1 := by decide
                have v36 : ai Am10 36 Bb = 1 := by rw [ai_fr s36, hBb, a2.2.2.2.1, n1]
                have v37 : ai Am10 37 Bb = C0 := by rw [ai_fr s37, hBb, a3.2.2.2.1, hC0]
                have v38 : ai Am10 38 Bb = C0 + l1 := by rw [ai_fr s38, ← b5, a6.2.2.2.1, k5]
                have br : BRx (Fm12 56).toInt d A13 Am10 L0 Bb (F12 d 1304).toInt := by
                  refine ⟨l1, l2, l3, v36, by rw [v37]; omega, ?_, by rw [v37, v38], ?_, by rw [v38, w9], ?_, ?_, ?_, by rw [w9, w10], by rw [w10, k12]; omega, ?_, q12⟩
                  · rw [v37]
                    exact (show SGT d A4 Am4 L0 C0 l1 from ⟨t1, t2⟩).fr (fun i a b => y4 i (by omega) (by omega)) (fun i a b => r4 i (by omega) (by omega))
                  · rw [v38]
                    exact (show SGT d A7 Am7 (L0 + l1) (C0 + l1) l2 from ⟨u1, u2⟩).fr (fun i a b => y7 i (by omega) (by omega)) (fun i a b => r7 i (by omega) (by omega))
                  · have z60 : ci A13 d 15 (L0 + l1 + l2) = ci A10 d 15 (L0 + l1 + l2) := by rw [ci_fr z15]; exact (yo (L0 + l1 + l2) (by omega) (by omega)).1
                    rw [z60, (w7.1 (L0 + l1 + l2) (by omega) (by omega)).1, x15]
                    decide
                  · rw [z16]
                  · rw [w9]
                    exact w1.fr (fun i a b => y13 i (by omega) (by omega) (by omega)) (fun _ _ _ => ⟨rfl, rfl⟩)
                  · rw [ci_fr z15, y15]
                    decide
                have fr : BLW L0 C0 Bb d A A13 Am Am10 := by
                  refine ⟨fun i i0 i1 => ?_, fun i i0 i1 => ?_, fun q h1 h2 i i0 i1 => ?_⟩
                  · have a := y4 i i0 (by omega)
                    have b := t6 i i0 i1
                    exact ⟨a.1.trans b.1, a.2.trans b.2⟩
                  · have a := r4 i i0 (by omega)
                    have b := t7 i i0 i1
                    rw [ai_fr (a3.2.2.1 42 (by decide)), ai_fr (a3.2.2.1 43 (by decide)), ai_fr (a2.2.2.1 42 (by decide)), ai_fr (a2.2.2.1 43 (by decide))] at b
                    exact ⟨a.1.trans b.1, a.2.trans b.2⟩
                  · rw [w7.2.2 q h1 h2 i i0 i1, ai_fr (u8 q (by omega) (by omega))]
                    have e4 : ai Am4 q i = ai Am q i := by
                      rw [ai_fr (t8 q (by omega) (by omega))]
                      by_cases e37 : q = 37
                      · rw [e37, a3.2.2.2.2 i i0 (by omega), ai_fr (a2.2.2.1 37 (by decide))]
                      · rw [ai_fr (a3.2.2.1 q e37)]
                        by_cases e36 : q = 36
                        · rw [e36]; exact a2.2.2.2.2 i i0 (by omega)
                        · rw [ai_fr (a2.2.2.1 q e36)]
                    by_cases e38 : q = 38
                    · rw [e38] at e4 ⊢
                      rw [a6.2.2.2.2 i i0 (by omega)]; exact e4
                    · rw [ai_fr (a6.2.2.1 q e38)]; exact e4
                have eL : (F d 1304).toInt = L0 := by rw [hL0, f1304]
                have eB : b0 + (nb : Int) = Bb := by rw [hBb, f49]; exact lg2.symm
                have eC : (Fm 56).toInt = C0 := by rw [hC0, f56]
                have s34 : ∀ q, q = 34 ∨ q = 35 → Am10 q = Am q := fun q hq => by rw [w11.1 q (by omega) (by omega), u8 q (by omega) (by omega), a6.2.2.1 q (by omega), t8 q (by omega) (by omega), a3.2.2.1 q (by omega), a2.2.2.1 q (by omega)]
                have l14 : A13 d 14 = A1 d 14 := by rw [f13.2 d 14 (by omega), f11.2 d 14 (by omega), w8, f8.2 d 14 (by omega), u9, t9]; exact lg4
                refine ks F12 A13 Fm12 Am10 (S12.l hd hd3 f13) ⟨?_, ?_, ?_, l14, ⟨(s34 34 (.inl rfl)).trans lg5.1, (s34 35 (.inr rfl)).trans lg5.2⟩, ⟨by omega, lg6.2.1, lg6.2.2.1, lg6.2.2.2⟩, ?_, by omega⟩
                · rw [eL, eC] at lg1
                  refine LPx.snoc (LPx.fr fr (by omega) lg1 lg6.2.1 (Int.le_refl _) lg6.2.2.1 (by omega)) ?_
                  rw [eB]
                  exact br
                · rw [j12]; omega
                · exact lg3.tr fr (by rw [eL] at ple; exact ple) (by omega) (by omega)
                · rw [U12.fm 19 (by decide), w11.2, U9.fm 19 (by decide), u19, U5.fm 19 (by decide), t19, U1.fm 19 (by decide)]
                  exact lg7
              · dsimp only
                rw [hc, Option.bind_some, Option.bind_assoc]
                refine p2_l aim_po ?_
                rintro _ ⟨A13, rfl, f13⟩
                dsimp only
                rw [Option.bind_some]
                exact kf F12 A13 J Fm12 Am10 Jm E
            · dsimp only
              rw [d_must_ff E.gg, Option.bind_some]
              exact cf (gif3_ff hd hc E.c) E
          · dsimp only
            rw [Option.bind_assoc]
            refine p2_l (eS_ff hd hc E.c) ?_
            rintro _ ⟨F10, A10, rfl, f10⟩
            have E10 := FEr E (f10.1 37 10 (fun e => hd e.1.symm))
            dsimp only
            refine p2_r (term_ff E10) ?_
            rintro ⟨u, Fm11, Am11, Jm11⟩ h11
            have h11 : Fm11 13 = Fm9 13 := h11
            have E11 : FE F10 Fm11 := ⟨by rw [h11]; exact E10.1, by rw [h11]; exact E10.gg⟩
            dsimp only
            rw [d_must_ff E11.gg, Option.bind_some]
            exact cf (gif3_ff hd hc E11.c) E11
        · dsimp only
          exact l116_ff E (fun Fm8 Am8 Jm8 E8 => cf (gif2_ff hd (by exact hc) E8.c) E8)
      · dsimp only
        refine p2_br (fun A6 e6 => ?_)
        rw [E.nz, cond_true]
        unfold d_tellLaw_116
        refine l116_ff E (fun Fm8 Am8 Jm8 E8 => ?_)
        rw [Option.bind_assoc]
        refine p2_l (eS_ff hd hc E8.c) ?_
        rintro _ ⟨F10, A10, rfl, f10⟩
        dsimp only
        exact cf (gif2_ff hd hc (by rw [f10.1 37 10 (fun e => hd e.1.symm)]; exact E8.c)) (FEr E8 (f10.1 37 10 (fun e => hd e.1.symm)))
    · dsimp only
      rw [d_must_ff E.gg, Option.bind_some]
      dsimp only
      refine p2_br (fun A6 e6 => ?_)
      rw [E.nz, cond_true]
      unfold d_tellLaw_116
      exact l116_ff E (fun Fm8 Am8 Jm8 E8 => cf (gif1_ff hd hc E8.c) E8)
  · dsimp only
    refine p2_br (fun A2 e2 => ?_)
    refine p2_br (fun A3 e3 => ?_)
    refine p2_r (dE_ff E.gg) ?_
    rintro ⟨u, Fm4, Am4, Jm4⟩ h4
    have h4 : Fm4 13 = Fm1 13 := h4
    have E4 : FE F1 Fm4 := ⟨by rw [h4]; exact E.1, by rw [h4]; exact E.gg⟩
    dsimp only
    rw [d_must_ff E4.gg, Option.bind_some]
    dsimp only
    refine p2_br (fun A6 e6 => ?_)
    rw [E4.nz, cond_true]
    unfold d_tellLaw_116
    refine l116_ff E4 (fun Fm8 Am8 Jm8 E8 => ?_)
    rw [Option.bind_assoc]
    refine p2_l (eS_ff hd hc E8.c) ?_
    rintro _ ⟨F10, A10, rfl, f10⟩
    dsimp only
    exact cf (gif1_ff hd hc (by rw [f10.1 37 10 (fun e => hd e.1.symm)]; exact E8.c)) (FEr E8 (f10.1 37 10 (fun e => hd e.1.symm)))
/-- what a sentence leaves, laws and all -/
def RSL (T : TS) (d : Nat) (a : cR Unit) (b : mR Unit) : Prop := FE a.2.2.1 b.2.1 ∨ (RT T a.2.2.1 b.2.1 ∧ RX T a.2.2.2.1 a.2.2.2.2 b.2.2.1 b.2.2.2 ∧ RH d a.2.2.1 a.2.2.2.1 a.2.2.2.2 b.2.1 b.2.2.1 b.2.2.2 ∧ RW d a.2.2.1 a.2.2.2.1 b.2.1 b.2.2.1 ∧ RL (b.2.1 19).toInt d a.2.2.1 a.2.2.2.1 b.2.1 b.2.2.1)
theorem p2_ffL {x : Option (cR Unit)} {z : Option (mR Unit)} (E : FE F Fm) (h1 : po x (fun a => a.2.2.1 37 10 = F 37 10)) (h2 : po z (fun b => b.2.1 13 = Fm 13)) : P2 x z (RSL T d) :=
  p2_of h1 h2 (fun a b ha hb => .inl ⟨by rw [ha, hb]; exact E.1, by rw [hb]; exact E.2⟩)
/-- the laws as a law's sentence found them -/
def RLb (s p0 b0 c0 : Int) (d : Nat) (A : Nat → Nat → Nat → Int32) (Am : Nat → Nat → Int32) : Prop := ∀ m : Int, 0 ≤ m → m < 6 → (ci A d 14 m = -1 ∧ ai Am 34 (6 * s + m) = ai Am 35 (6 * s + m)) ∨ ∃ e, LWx c0 b0 d A Am (ci A d 14 m) (ai Am 34 (6 * s + m)) (ai Am 35 (6 * s + m)) e ∧ e ≤ p0
/-- the end of a law -/
theorem ql_end {nb : Nat} {s p0 b0 c0 : Int} {Ab : Nat → Nat → Nat → Int32} {Amb : Nat → Nat → Int32} {w1 w2 : Int32} (K : TKs T) (h5 : P 37 5 = d) (hk : c_kind d = 6) (S : SX T 0 d J Jm F A Fm Am) (LG : LGx nb s p0 b0 c0 d Ab Amb F A Fm Am) (RB : RLb s p0 b0 c0 d Ab Amb) (e1w : w1.toInt = p0) (e2w : w2.toInt = b0) (hv : v.toInt < 6) : P2 (e_Reader_readLaw_94 n P F A J v w1) (d_tellLaw_135 m Fm Am Jm v w2) (RSL T d) := by
  have hd := kd37 hk
  have hd3 := kd3 hk
  have hc := chk_in h5 hk
  unfold e_Reader_readLaw_94 d_tellLaw_135
  refine p2_br (fun A1 e1 => ?_)
  have a1 := gg_st e1
  have S1 : SX T 0 d J Jm F A Fm A1 := S.a (fun q hq => a1.2.2.1 q (by omega))
  obtain ⟨lg1, lg2, lg3, lg4, ⟨lg5, lg5'⟩, ⟨lg6, lp0, lb0, lc0⟩, lg7, lg8⟩ := LG
  have ple := LPx.le lg1
  refine p2_term K h5 hk S1 (by omega) (by omega) (fun F2 A2 Fm2 Am2 l S2 T2 => ?_) (fun F2 A2 J2 Fm2 Am2 Jm2 E => ?_)
  · dsimp only
    rw [hc, Option.bind_some]
    obtain ⟨t1, ⟨t2, t3, t4, t5, t6⟩, t7, t8, ⟨t9, t10⟩, t11, t12⟩ := T2
    have tl : 0 ≤ l := t1.1.1
    have t21 := S2.r.t1
    refine p2_l (add_v (by omega) (by omega)) ?_
    rintro _ ⟨v39, F3, A3, rfl, f3, -, g3, x15, x16, xo⟩
    have S3 := S2.l hd hd3 f3
    dsimp only
    refine p2_take K S3.r S3.x (k' := 4) (by decide) (by decide) (fun F4 Fm4 U4 _ => ?_) (fun F4 Fm4 fc fm E _ => ?_)
    · have S4 := S3.v hd U4.v
      dsimp only
      rw [cz_10, cond_false, S4.r.le, cond_true]
      refine p2_bl (fun F5 e5 => ?_)
      have U5 := gg_cpf e5
      refine p2_br (fun v60 e60 => ?_)
      have a60 := gg_ld e60
      refine p2_br (fun B6 e6 => ?_)
      have b6 := gg_st e6
      have R5 : RT T F5 Fm4 := S4.r.cg (fun k hk => U5.2 37 k (by omega)) (fun _ _ => rfl)
      have fin : ∀ {A7 : Nat → Nat → Nat → Int32} {B7 : Nat → Nat → Int32}, (∀ r o, ¬ (r = d ∧ o = 14) → A7 r o = A3 r o) → (∀ q, q < 34 ∨ q = 41 → B7 q = B6 q) → RL (Fm4 19).toInt d F5 A7 Fm4 B7 → RSL T d ((), P, F5, A7, J) ((), Fm4, B7, Jm) := by
        intro A7 B7 h7 g7 rl
        have p : ∀ q, q < 33 ∨ q = 41 → B7 q = Am2 q := fun q hq => by rw [g7 q (by omega), b6.2.2.1 q (by omega)]
        refine .inr ⟨R5, ?_, ?_, RW.fr S4.e S4.h.s0 (fun k h1 h2 => U5.2 d k (fun e => hd e.1)) (U5.2 3 7 (fun e => by omega)) (U5.2 3 8 (fun e => by omega)) (fun o => h7 3 o (fun e => hd3 e.1.symm)) (fun o h1 h2 => h7 d o (fun e => by omega)) rfl (fun q _ _ h _ _ _ _ => p q (by omega)), rl⟩
        · exact (S4.x.ca (A' := A7) (fun o => h7 37 o (fun e => hd e.1.symm))).a (fun q hq => p q (by omega))
        · refine ⟨S4.h.s0, S4.h.s1, fun q hq => ?_, ?_, ?_, ?_, ?_, S4.h.op⟩
          · show F5 d (cq q) = B7 (rq q) (Fm4 19).toInt.toNat
            rw [U5.2 d (cq q) (fun e => hd e.1), p (rq q) (by have := rq_in q; omega)]
            exact S4.h.cn q hq
          · show F5 d 14 = B7 12 (Fm4 19).toInt.toNat
            rw [U5.2 d 14 (fun e => hd e.1), p 12 (by omega)]
            exact S4.h.dr
          · show F5 37 9 = B7 33 (Fm4 19).toInt.toNat
            refine i_ext ?_
            have w : (B6 33 (Fm4 19).toInt.toNat).toInt = (v60 + 1).toInt := b6.2.2.2.1
            rw [g7 33 (by omega), w, a60.2.2, ← S4.h.lw, U5.1]
          · show ∀ k : Int, 0 ≤ k → k < (F5 d 16).toInt → ci A7 d 5 k = ai B7 22 (6 * (Fm4 19).toInt + k)
            rw [U5.2 d 16 (fun e => hd e.1), ci_fr (h7 d 5 (by omega)), ai_fr (p 22 (by omega))]
            exact S4.h.sc
          · exact S4.h.nr.fr (fun q hq => U5.2 d (cq q) (fun e => hd e.1)) (fun _ _ => rfl) rfl (p 9 (by omega)) (p 10 (by omega)) rfl
      have e5 : F5 d 1304 = F3 d 1304 := by rw [U5.2 d 1304 (fun e => hd e.1)]; exact U4.fc d 1304 (fun e => hd e.1)
      have c4 : Fm4 56 = Fm2 56 := U4.fm 56 (by decide)
      have j4 : Fm4 49 = Fm2 49 := U4.fm 49 (by decide)
      have s4 : (Fm4 19).toInt = s := by rw [U4.fm 19 (by decide), t12]; exact lg7
      have e5L : (F5 d 1304).toInt = (F d 1304).toInt + l + 1 := by rw [e5]; omega
      have n0 : (vp_nar .boolean (0 : Int32)).toInt = 0 := by decide
      -- the rows of laws, as they are ahead of the man's own
      have b6 : ∀ q, q ≠ 33 → B6 q = Am2 q := b6.2.2.1
      have fr : BLW (F d 1304).toInt (Fm 56).toInt (Fm 49).toInt d A A3 Am Am2 := by
        refine ⟨fun i i0 i1 => ?_, fun i i0 i1 => ?_, fun q h1 h2 i i0 i1 => ?_⟩
        · have a := xo i i0 (by omega)
          have b := t7.1 i i0 i1
          exact ⟨a.1.trans b.1, a.2.trans b.2⟩
        · have b := t7.2.1 i i0 i1
          rw [ai_fr (a1.2.2.1 42 (by decide)), ai_fr (a1.2.2.1 43 (by decide))] at b
          exact b
        · rw [t7.2.2 q h1 h2 i i0 i1]
          by_cases e36 : q = 36
          · rw [e36]; exact a1.2.2.2.2 i i0 (by omega)
          · rw [ai_fr (a1.2.2.1 q e36)]
      have s36 : Am2 36 = A1 36 := t11 36 (by decide) (by decide)
      have fn : FNx (Fm4 56).toInt d A3 Am2 (F d 1304).toInt (Fm 49).toInt (F5 d 1304).toInt := by
        refine ⟨l, ?_, by rw [t9]; omega, ?_, by rw [t9, t10], by rw [t10, c4]; omega, ?_, e5L⟩
        · rw [ai_fr s36, a1.2.2.2.1, n0]
        · rw [t9]
          exact t1.fr (fun i a b => xo i (by omega) (by omega)) (fun _ _ _ => ⟨rfl, rfl⟩)
        · rw [← t3, x15]
          decide
      have lw : LWx (Fm4 56).toInt (Fm4 49).toInt d A3 Am2 p0 b0 (Fm4 49).toInt (F5 d 1304).toInt := by
        refine ⟨lp0, lb0, Int.le_refl _, nb, (F d 1304).toInt, LPx.fr fr (by rw [c4]; omega) lg1 lp0 (Int.le_refl _) lb0 (by omega), ?_, by rw [j4]; omega⟩
        rw [← lg2]
        exact fn
      have frb : BLW p0 c0 b0 d Ab A3 Amb Am2 := lg3.tr fr ple lg6 (by omega)
      have d14 : A3 d 14 = Ab d 14 := by rw [f3.2 d 14 (by omega), t8]; exact lg4
      have s34 : Am2 34 = Amb 34 := by rw [t11 34 (by decide) (by decide), a1.2.2.1 34 (by decide)]; exact lg5
      have s35 : Am2 35 = Amb 35 := by rw [t11 35 (by decide) (by decide), a1.2.2.1 35 (by decide)]; exact lg5'
      -- what is said of the laws rests on these rows alone
      have eqr : ∀ {A7 : Nat → Nat → Nat → Int32} {B7 : Nat → Nat → Int32} {x y z e : Int}, A7 d 15 = A3 d 15 → A7 d 16 = A3 d 16 → (∀ q, 36 ≤ q → q ≤ 43 → B7 q = Am2 q) → LWx (Fm4 56).toInt (Fm4 49).toInt d A3 Am2 x y z e → e ≤ (F5 d 1304).toInt → LWx (Fm4 56).toInt (Fm4 49).toInt d A7 B7 x y z e := by
        intro A7 B7 x y z e a15 a16 hB h he
        refine h.fr (L := (F5 d 1304).toInt) ⟨fun i _ _ => by rw [ci_fr a15, ci_fr a16]; exact ⟨rfl, rfl⟩, fun i _ _ => by rw [ai_fr (hB 42 (by decide) (by decide)), ai_fr (hB 43 (by decide) (by decide))]; exact ⟨rfl, rfl⟩, fun q h1 h2 i _ _ => by rw [ai_fr (hB q h1 (by omega))]⟩ he (Int.le_refl _) (Int.le_refl _)
      by_cases c : v.toInt < 0
      · rw [i_lt.mpr (by rw [i_0]; exact c), cond_true, i_nge.mpr (by rw [i_0]; exact c), cond_false]
        refine p2_some (fin (fun _ _ _ => rfl) (fun _ _ => rfl) ⟨by rw [e5L]; omega, fun m m0 m1 => ?_⟩)
        rw [s4, ci_fr d14, ai_fr (b6 34 (by decide)), ai_fr (b6 35 (by decide)), ai_fr s34, ai_fr s35]
        rcases RB m m0 m1 with h | ⟨e, h, he⟩
        · exact .inl h
        · exact .inr ⟨e, eqr rfl rfl (fun q h1 h2 => b6 q (by omega)) (h.fr frb he (by rw [c4]; omega) (by rw [j4]; omega)) (by omega), by omega⟩
      · rw [i_nlt.mpr (by rw [i_0]; omega), cond_false, i_ge.mpr (by rw [i_0]; omega), cond_true, hc, Option.bind_some]
        refine p2_bl (fun A7 e7 => ?_)
        have a7 := (gg_cst e7).2.2
        refine p2_br (fun B7 f7 => ?_)
        have b7 := gg_st f7
        refine p2_br (fun B8 f8 => ?_)
        have b8 := gg_st f8
        have ixv : (6 * Fm4 19 + v).toInt = 6 * s + v.toInt := by rw [S4.h.ix6 (by omega) (by omega), s4]
        rw [ixv] at b7 b8
        refine p2_some (fin (fun r o h => a7.2.2 r o h) (fun q hq => by rw [b8.2.2.1 q (by omega), b7.2.2.1 q (by omega)]) ⟨by rw [e5L]; omega, fun m m0 m1 => ?_⟩)
        have a15 : A7 d 15 = A3 d 15 := a7.2.2 d 15 (fun e => absurd e.2 (by decide))
        have a16 : A7 d 16 = A3 d 16 := a7.2.2 d 16 (fun e => absurd e.2 (by decide))
        have hB : ∀ q, 36 ≤ q → q ≤ 43 → B8 q = Am2 q := fun q h1 h2 => by rw [b8.2.2.1 q (by omega), b7.2.2.1 q (by omega), b6 q (by omega)]
        rw [s4]
        by_cases e : m = v.toInt
        · refine .inr ⟨(F5 d 1304).toInt, ?_, Int.le_refl _⟩
          have x34 : ai B8 34 (6 * s + m) = b0 := by rw [ai_fr (b8.2.2.1 34 (by decide)), e, b7.2.2.2.1, e2w]
          have x35 : ai B8 35 (6 * s + m) = (Fm4 49).toInt := by rw [e, b8.2.2.2.1]
          have x14 : ci A7 d 14 m = p0 := by rw [e, a7.1, e1w]
          rw [x34, x35, x14]
          exact eqr a15 a16 hB lw (Int.le_refl _)
        · have x34 : ai B8 34 (6 * s + m) = ai Amb 34 (6 * s + m) := by rw [ai_fr (b8.2.2.1 34 (by decide)), b7.2.2.2.2 _ (by have := S4.h.s0; omega) (by omega), ai_fr (b6 34 (by decide)), ai_fr s34]
          have x35 : ai B8 35 (6 * s + m) = ai Amb 35 (6 * s + m) := by rw [b8.2.2.2.2 _ (by have := S4.h.s0; omega) (by omega), ai_fr (b7.2.2.1 35 (by decide)), ai_fr (b6 35 (by decide)), ai_fr s35]
          have x14 : ci A7 d 14 m = ci Ab d 14 m := by rw [a7.2.1 m m0 e, ci_fr d14]
          rw [x34, x35, x14]
          rcases RB m m0 m1 with h | ⟨e, h, he⟩
          · exact .inl h
          · exact .inr ⟨e, eqr a15 a16 hB (h.fr frb he (by rw [c4]; omega) (by rw [j4]; omega)) (by omega), by omega⟩
    · refine p2_ffL E ?_ ?_
      · dsimp only
        rw [cz_00, cond_true]
        exact po_some rfl
      · dsimp only
        rw [E.le, cond_false]
        exact po_some rfl
  · refine p2_ffL E ?_ ?_
    · dsimp only
      rw [hc, Option.bind_some]
      refine po_call add_po ?_
      rintro _ ⟨w, F3, A3, rfl, f3⟩
      have e3 := f3.1 37 10 (fun e => hd e.1.symm)
      dsimp only
      rw [e_take_ff (by rw [e3]; exact E.c), Option.bind_some]
      dsimp only
      rw [cz_00, cond_true]
      exact po_some e3
    · dsimp only
      rw [d_must_ff E.gg, Option.bind_some]
      dsimp only
      rw [E.le, cond_false]
      exact po_some rfl
theorem c94_ff {w1 : Int32} (hd : d ≠ 37) (hc : c_chk 6 (P 37 5) = some d) (h : (F 37 10).toInt ≠ 0) : po (e_Reader_readLaw_94 n P F A J v w1) (fun a => a.2.2.1 37 10 = F 37 10) := by
  unfold e_Reader_readLaw_94
  refine po_call (eS_ff hd hc h) ?_
  rintro _ ⟨F2, A2, rfl, f2⟩
  have e2 := f2.1 37 10 (fun e => hd e.1.symm)
  dsimp only
  rw [hc, Option.bind_some]
  refine po_call add_po ?_
  rintro _ ⟨w, F3, A3, rfl, f3⟩
  have e3 := f3.1 37 10 (fun e => hd e.1.symm)
  dsimp only
  rw [e_take_ff (by rw [e3, e2]; exact h), Option.bind_some]
  dsimp only
  rw [cz_00, cond_true]
  exact po_some (by show F3 37 10 = F 37 10; rw [e3, e2])
theorem c48_ff {w1 : Int32} (hd : d ≠ 37) (hc : c_chk 6 (P 37 5) = some d) (h : (F 37 10).toInt ≠ 0) : po (e_Reader_readLaw_48 n P F A J v w1 x3) (fun a => a.2.2.1 37 10 = F 37 10) := by
  cases n with
  | zero => intro r hr; cases hr
  | succ n =>
    unfold e_Reader_readLaw_48
    refine po_cond (fun _ => c94_ff hd hc h) (fun _ => ?_)
    rw [e_next_ff h, Option.bind_some, cz_00, cond_true]
    exact c94_ff hd hc h
theorem d18_ff {w2 : Int32} (E : FE F Fm) : po (d_tellLaw_18 m Fm Am Jm v w2 x3) (fun b => b.2.1 13 = Fm 13) := by
  cases m with
  | zero => intro r hr; cases hr
  | succ m =>
    unfold d_tellLaw_18
    rw [E.nz, cond_true]
    unfold d_tellLaw_135
    refine po_bl (fun A1 _ => ?_)
    refine po_call (term_ff E) ?_
    rintro ⟨u, F1, A2, J1⟩ h1
    have h1 : F1 13 = Fm 13 := h1
    have E1 : FE F F1 := ⟨by rw [h1]; exact E.1, by rw [h1]; exact E.gg⟩
    dsimp only
    rw [d_must_ff E1.gg, Option.bind_some]
    dsimp only
    rw [E1.le, cond_false]
    exact po_some h1
/-- a law's ifs, and its end -/
theorem ql_48 {s p0 b0 c0 : Int} {Ab : Nat → Nat → Nat → Int32} {Amb : Nat → Nat → Int32} {w1 w2 : Int32} (K : TKs T) (h5 : P 37 5 = d) (hk : c_kind d = 6) (RB : RLb s p0 b0 c0 d Ab Amb) (e1w : w1.toInt = p0) (e2w : w2.toInt = b0) (hv : v.toInt < 6) : ∀ {nb n m : Nat} {F : Nat → Nat → Int32} {A : Nat → Nat → Nat → Int32} {Fm : Nat → Int32} {Am : Nat → Nat → Int32} {x3 : Int32}, SX T 0 d J Jm F A Fm Am → LGx nb s p0 b0 c0 d Ab Amb F A Fm Am → 0 ≤ x3.toInt → x3.toInt ≤ 4 → P2 (e_Reader_readLaw_48 n P F A J v w1 x3) (d_tellLaw_18 m Fm Am Jm v w2 x3) (RSL T d) := by
  have hd := kd37 hk
  have hd3 := kd3 hk
  have hc := chk_in h5 hk
  have l4 : (4 : Int32).toInt = 4 := by decide
  have l1 := i_1
  intro nb n
  induction n generalizing nb with
  | zero => intro m F A Fm Am x3 _ _ _ _ a b ha _; cases ha
  | succ n ih =>
    intro m F A Fm Am x3 S LG h0 h4
    cases m with
    | zero => intro a b _ hb; cases hb
    | succ m =>
      unfold e_Reader_readLaw_48 d_tellLaw_18
      rw [i_ngt.mpr (by rw [l4]; exact h4), cond_false, S.r.nz, cond_false]
      refine p2_next K S.r S.x (k' := 31) (by decide) (fun hm => ?_) (fun _ => ?_)
      · rw [cz_10, cond_false, cond_false]
        by_cases h : x3.toInt = 4
        · rw [i_nne.mpr (by rw [l4]; exact h), cond_false, cond_false]
          obtain ⟨F1, e1, h1, -⟩ := e_fail_0 (P := P) (F := F) (A := A) (J := J) (k := 2) (v := A 37 3 (F 37 7).toInt.toNat) S.r.f0
          obtain ⟨Fm1, g1, h1', -, -⟩ := d_fail_0 (F := Fm) (A := Am) (J := Jm) (k := 2) S.r.g0 S.r.t0 S.r.t1
          have E : FE F1 Fm1 := FE.mk' h1 h1' (by decide)
          rw [m_ld_in (by rw [S.r.tk]; exact S.r.t0) (by rw [S.r.tk]; have := S.r.t1; omega), Option.bind_some, e1, Option.bind_some, g1, Option.bind_some]
          refine p2_ffL E ?_ ?_
          · dsimp only
            refine po_call (readIf_ff hd hc E.c) ?_
            rintro _ ⟨F2, A2, J2, rfl, e2⟩
            dsimp only
            exact po_mono (c48_ff hd hc (by rw [e2]; exact E.c)) (fun a ha => by rw [ha, e2])
          · dsimp only
            rw [E.le, cond_false]
            exact po_some rfl
        · rw [i_ne.mpr (by rw [l4]; exact h), cond_true, cond_true]
          unfold e_Reader_readLaw_84
          have e31 := i_add (x := x3) (y := 1) (by omega) (by omega)
          refine p2_if K h5 hk S LG hm (fun F2 A2 Fm2 Am2 S2 LG2 => ?_) (fun F2 A2 J2 Fm2 Am2 Jm2 E => ?_)
          · exact ih S2 LG2 (by omega) (by omega)
          · exact p2_ffL E (c48_ff hd hc E.c) (d18_ff E)
      · rw [cz_00, cond_true, cond_true]
        exact ql_end K h5 hk S LG RB e1w e2w hv
/-- a law is told -/
theorem q_law (K : TKs T) (R : RT T F Fm) (X : RX T A J Am Jm) (H : RH d F A J Fm Am Jm) (W : RW d F A Fm Am) (L : RL (Fm 19).toInt d F A Fm Am) (l56 : 0 ≤ (Fm 56).toInt ∧ 0 ≤ (Fm 49).toInt) (lt : (F d 1304).toInt ≤ (Fm 11).toInt) (h5 : P 37 5 = d) (hk : c_kind d = 6) (b9 : (F 37 9).toInt ≤ 8) (hm : (Am 3 (Fm 11).toInt.toNat).toInt = (30 : Int32).toInt) : P2 (e_Reader_readLaw n P F A J) ((d_roomFor Fm Am Jm (Am 33 (Fm 19).toInt.toNat) 8).bind fun (_, F5, A6, J7) => cond (g_cnd .ne (F5 13) 0) (some ((), F5, A6, J7)) ((d_tellLaw m F5 A6 J7).bind fun (_, F10, A11, J12) => some ((), F10, A11, J12))) (RSL T d) := by
  have hd := kd37 hk
  have hd3 := kd3 hk
  have hc := chk_in h5 hk
  have l8 : (8 : Int32).toInt = 8 := by decide
  unfold e_Reader_readLaw
  rw [← H.lw]
  refine p2_first (k' := 30) K R X (by decide) (by decide) hm (by omega) (fun F1 Fm1 U1 hx => ?_) (fun F1 Fm1 fc fm E => ?_)
  · have R1 := U1.rt
    have H1 := U1.v.h hd H
    dsimp only
    rw [hc, Option.bind_some, R1.nz, cond_false, known_3]
    refine p2_eta ?_
    unfold d_tellLaw
    refine p2_known (q := 3) (by decide) (by decide) K R1 X H1.nr (fun v F2 Fm2 V2 _ hv => ?_) (fun F2 Fm2 fc fm E _ => ?_)
    · have H2 := V2.h hd H1
      dsimp only
      rw [hc, Option.bind_some]
      refine p2_take K V2.rt X (k' := 5) (by decide) (by decide) (fun F3 Fm3 U3 _ => ?_) (fun F3 Fm3 fc fm E _ => ?_)
      · have f1 : F3 d 1304 = F d 1304 := by rw [U3.fc d 1304 (fun e => hd e.1), V2.fc d 1304 (fun e => hd e.1), U1.fc d 1304 (fun e => hd e.1)]
        have f2 : F2 d 1304 = F d 1304 := by rw [V2.fc d 1304 (fun e => hd e.1), U1.fc d 1304 (fun e => hd e.1)]
        have g : ∀ q, q = 19 ∨ q = 49 ∨ q = 56 → Fm3 q = Fm q := fun q hq => by rw [U3.fm q (by omega), V2.fm q (by omega) (by omega) (by omega) (by omega) (by omega), U1.fm q (by omega)]
        have bm : 0 ≤ (F1 d 17).toInt ∧ (F1 d 17).toInt ≤ 6 := H1.nr.bd 3 (by decide)
        have l0 := L.1
        have m1 := U1.m1
        have m2 := V2.m1
        have m3 := U3.m1
        refine ql_48 (nb := 0) (F := F3) (A := A) (Fm := Fm3) (Am := Am) (s := (Fm 19).toInt) (p0 := (F d 1304).toInt) (b0 := (Fm 49).toInt) (c0 := (Fm 56).toInt) (Ab := A) (Amb := Am) K h5 hk L.2 (by rw [f2]) (by show (Fm3 49).toInt = (Fm 49).toInt; rw [g 49 (by omega)]) ?_ ⟨U3.rt, X, U3.v.h hd H2, ((W.v H.s0 hd U1.c U1.m).v H1.s0 hd V2.fc V2.fm).v H2.s0 hd U3.c U3.m⟩ ⟨by show (F3 d 1304).toInt = _; rw [f1], by rw [g 49 (by omega)]; omega, BLW.rfl', rfl, ⟨rfl, rfl⟩, ⟨by rw [g 56 (by omega)]; exact Int.le_refl _, l0, l56.2, l56.1⟩, by rw [g 19 (by omega)], by rw [f1]; omega⟩ (by decide) (by decide)
        rcases hv with ⟨_, h, _⟩ | ⟨rfl, _⟩
        · have h : v.toInt < (F1 d 17).toInt := h
          omega
        · decide
      · exact p2_ffL E (c48_ff hd hc E.c) (d18_ff E)
    · refine p2_ffL E ?_ ?_
      · dsimp only
        rw [hc, Option.bind_some, e_take_ff E.c, Option.bind_some]
        exact c48_ff hd hc E.c
      · dsimp only
        rw [d_must_ff E.gg, Option.bind_some]
        exact d18_ff E
  · refine p2_ffL E ?_ ?_
    · dsimp only
      rw [hc, Option.bind_some, known_3, gknown_ff E.c, Option.bind_some]
      dsimp only
      rw [hc, Option.bind_some, e_take_ff E.c, Option.bind_some]
      exact c48_ff hd hc E.c
    · (dsimp only; rw [FE.nz E, cond_true]; exact po_some rfl)
end B7
