section Qz112
section B7
variable {T : TS} {d n m N nn : Nat} {o : Int} {P : Nat → Nat → Nat} {F F' : Nat → Nat → Int32} {A A' : Nat → Nat → Nat → Int32} {J J' : Nat → Nat → Nat → Int64} {Fm Fm' : Nat → Int32} {Am Am' : Nat → Nat → Int32} {Jm Jm' : Nat → Nat → Int64} {k k' x1 x2 x3 v : Int32} {γ δ : Type} {Q : γ → δ → Prop}
/-- the reference writes what belongs to laws -/
theorem SX.w (S : SX T o d J Jm F A Fm Am) (hF : ∀ q, q ≠ 49 → q ≠ 56 → q ≠ 60 → Fm' q = Fm q) (hA : ∀ q, q < 34 ∨ q = 41 → Am' q = Am q) : SX T o d J Jm F A Fm' Am' :=
  ⟨S.r.cg (fun _ _ => rfl) (fun q hq => hF q (by omega) (by omega) (by omega)), S.x.a (fun q hq => hA q (by omega)), S.h.fr (fun _ _ _ => rfl) rfl rfl (fun _ _ => rfl) (hF 19 (by decide) (by decide) (by decide)) (hF 20 (by decide) (by decide) (by decide)) (hF 12 (by decide) (by decide) (by decide)) (fun q hq => hA q (by omega)) rfl, RW.fr S.e S.h.s0 (fun _ _ _ => rfl) rfl rfl (fun _ => rfl) (fun _ _ _ => rfl) (hF 19 (by decide) (by decide) (by decide)) (fun q _ _ h _ _ _ _ => hA q (by omega))⟩
theorem SX.a (S : SX T o d J Jm F A Fm Am) (hA : ∀ q, q < 34 ∨ q = 41 → Am' q = Am q) : SX T o d J Jm F A Fm Am' := S.w (fun _ _ _ _ => rfl) hA
/-- what a term of a law has become -/
def TTx (d : Nat) (F0 : Nat → Nat → Int32) (A0 : Nat → Nat → Nat → Int32) (Fm0 : Nat → Int32) (Am0 : Nat → Nat → Int32) (l : Int) (F : Nat → Nat → Int32) (A : Nat → Nat → Nat → Int32) (Fm : Nat → Int32) (Am : Nat → Nat → Int32) : Prop := SGT d A Am (F0 d 1304).toInt (Fm0 56).toInt l ∧ ((Fm 56).toInt = (Fm0 56).toInt + l ∧ (F d 1304).toInt = (F0 d 1304).toInt + l ∧ (F d 1304).toInt + 3 ≤ (Fm 11).toInt ∧ 0 ≤ (Fm0 49).toInt ∧ (Fm 49).toInt = (Fm0 49).toInt + 1) ∧ BLW (F0 d 1304).toInt (Fm0 56).toInt (Fm0 49).toInt d A0 A Am0 Am ∧ A d 14 = A0 d 14 ∧ (ai Am 39 (Fm0 49).toInt = (Fm0 56).toInt ∧ ai Am 40 (Fm0 49).toInt = (Fm0 56).toInt + l) ∧ (∀ q, 34 ≤ q → q ≤ 38 → Am q = Am0 q) ∧ Fm 19 = Fm0 19
/-- a term of a law, on both sides -/
theorem p2_term {f : cR Unit → Option γ} {g : mR Unit → Option δ} (K : TKs T) (h5 : P 37 5 = d) (hk : c_kind d = 6) (S : SX T 0 d J Jm F A Fm Am) (hL : 0 ≤ (F d 1304).toInt ∧ (F d 1304).toInt + 3 ≤ (Fm 11).toInt) (h56 : 0 ≤ (Fm 56).toInt) (ks : ∀ F' A' Fm' Am' l, SX T 0 d J Jm F' A' Fm' Am' → TTx d F A Fm Am l F' A' Fm' Am' → P2 (f ((), P, F', A', J)) (g ((), Fm', Am', Jm)) Q) (kf : ∀ F' A' J' Fm' Am' Jm', FE F' Fm' → P2 (f ((), P, F', A', J')) (g ((), Fm', Am', Jm')) Q) : P2 ((e_Reader_readSum 8 n P F A J 0).bind f) ((d_term m Fm Am Jm).bind g) Q := by
  unfold d_term
  rw [Option.bind_assoc]
  refine p2_br (fun A1 e1 => ?_)
  have a1 := gg_st e1
  have S1 : SX T 0 d J Jm F A Fm A1 := S.a (fun q hq => a1.2.2.1 q (by omega))
  rw [S.r.nz, cond_false, Option.bind_assoc]
  refine p2_expr K h5 hk S1 hL h56 (fun F2 A2 Fm2 Am2 l S2 T2 => ?_) (fun F2 A2 J2 Fm2 Am2 Jm2 E => ?_)
  · dsimp only
    rw [Option.bind_assoc]
    refine p2_br (fun A3 e3 => ?_)
    have a3 := gg_st e3
    rw [Option.bind_assoc]
    refine p2_br (fun F4 e4 => ?_)
    have a4 := gg_pf e4
    rw [Option.bind_some]
    obtain ⟨t1, t2, t3, t4, t5, ⟨t6, t7, t8, t9⟩, t10⟩ := T2
    have t49 : Fm2 49 = Fm 49 := (Prod.mk.inj t10).1
    have t19 : Fm2 19 = Fm 19 := (Prod.mk.inj t10).2
    rw [t49] at a3
    have m3 : ∀ q, q ≠ 40 → A3 q = Am2 q := a3.2.2.1
    have s49 : (F4 49).toInt = (Fm 49).toInt + 1 := by rw [a4.1, t49, i_add (by rw [i_1]; omega) (by rw [i_1]; have := a1.2.1; omega), i_1]
    refine ks F2 A2 F4 A3 l (S2.w (fun q h _ _ => a4.2 q h) (fun q hq => a3.2.2.1 q (by omega))) ⟨⟨t1.fr (fun _ _ _ => ⟨rfl, rfl⟩) (fun i _ _ => by rw [ai_fr (m3 42 (by decide)), ai_fr (m3 43 (by decide))]; exact ⟨rfl, rfl⟩), by rw [dpm_fr (m3 42 (by decide))]; exact t2⟩, ⟨by rw [a4.2 56 (by decide)]; exact t3, t4, by rw [a4.2 11 (by decide)]; omega, a1.1, s49⟩, ⟨t6, fun i i0 i1 => ?_, fun q h1 h2 i i0 i1 => ?_⟩, t9, ⟨?_, ?_⟩, fun q h1 h2 => ?_, (a4.2 19 (by decide)).trans t19⟩
    · rw [ai_fr (m3 42 (by decide)), ai_fr (m3 43 (by decide))]
      have w := t7 i i0 i1
      rw [ai_fr (a1.2.2.1 42 (by decide)), ai_fr (a1.2.2.1 43 (by decide))] at w
      exact w
    · have w := t8 q (by omega) (by omega)
      by_cases e40 : q = 40
      · rw [e40, a3.2.2.2.2 i i0 (by omega), ai_fr (t8 40 (by decide) (by decide)), ai_fr (a1.2.2.1 40 (by decide))]
      · rw [ai_fr (m3 q e40), ai_fr w]
        by_cases e39 : q = 39
        · rw [e39]; exact a1.2.2.2.2 i i0 (by omega)
        · rw [ai_fr (a1.2.2.1 q e39)]
    · rw [ai_fr (m3 39 (by decide)), ai_fr (t8 39 (by decide) (by decide))]
      exact a1.2.2.2.1
    · rw [a3.2.2.2.1]
      exact t3
    · rw [m3 q (by omega), t8 q h1 (by omega), a1.2.2.1 q (by omega)]
  · dsimp only
    rw [Option.bind_assoc]
    refine p2_br (fun A3 e3 => ?_)
    rw [Option.bind_assoc]
    refine p2_br (fun F4 e4 => ?_)
    have e13 : F4 13 = Fm2 13 := (gg_pf e4).2 13 (by decide)
    rw [Option.bind_some]
    exact kf F2 A2 J2 F4 A3 Jm2 ⟨by rw [e13]; exact E.1, by rw [e13]; exact E.gg⟩
theorem term_ff (E : FE F Fm) : po (d_term m Fm Am Jm) (fun b => b.2.1 13 = Fm 13) := by
  unfold d_term d_term_24
  refine po_bl (fun A1 _ => ?_)
  rw [E.nz, cond_true]
  exact po_bl (fun A2 _ => po_bl (fun F3 e3 => po_some ((gg_pf e3).2 13 (by decide))))
/-- the reference goes on with its fault -/
theorem l116_ff {x : Option γ} {K18 : (Nat → Int32) → (Nat → Nat → Int32) → (Nat → Nat → Int64) → Int32 → Int32 → Int32 → Option δ} (E : FE F Fm) (ks : ∀ Fm' Am' Jm', FE F Fm' → P2 x (K18 Fm' Am' Jm' x1 x2 x3) Q) : P2 x ((d_must Fm Am Jm 32).bind fun (_, F99, A100, J101) => (d_term m F99 A100 J101).bind fun (_, F103, A104, J105) => (d_must F103 A104 J105 33).bind fun (_, F107, A108, J109) => K18 F107 A108 J109 x1 x2 x3) Q := by
  rw [d_must_ff E.gg, Option.bind_some]
  dsimp only
  refine p2_r (term_ff E) ?_
  rintro ⟨u, F1, A1, J1⟩ h1
  have h1 : F1 13 = Fm 13 := h1
  dsimp only
  have E1 : FE F F1 := ⟨by rw [h1]; exact E.1, by rw [h1]; exact E.gg⟩
  rw [d_must_ff E1.gg, Option.bind_some]
  exact ks F1 A1 J1 E1
/-- the class's if, in pieces -/
def gif3 (n : Nat) (P : Nat → Nat → Nat) (F : Nat → Nat → Int32) (A : Nat → Nat → Nat → Int32) (J : Nat → Nat → Nat → Int64) (v22 : Int32) : Option (cR Unit) :=
  (c_chk 6 (P 37 5)).bind fun q37 =>
  (e_Laws_add P F A J q37 0 0).bind fun (v38, P39, F40, A41, J42) =>
  (e_Reader_take P39 F40 A41 J42 14).bind fun (v43, P44, F45, A46, J47) =>
  (c_chk 6 (P44 37 5)).bind fun q48 =>
  (e_Laws_aimHere P44 F45 A46 J47 q48 v22).bind fun (_, P50, F51, A52, J53) =>
  some ((), P50, F51, A52, J53)
def gif2 (n : Nat) (P : Nat → Nat → Nat) (F : Nat → Nat → Int32) (A : Nat → Nat → Nat → Int32) (J : Nat → Nat → Nat → Int64) : Option (cR Unit) :=
  (c_chk 6 (P 37 5)).bind fun q21 =>
  (e_Laws_add P F A J q21 60 0).bind fun (v22, P23, F24, A25, J26) =>
  (e_Reader_take P23 F24 A25 J26 13).bind fun (v27, P28, F29, A30, J31) =>
  (e_Reader_readSum 8 n P28 F29 A30 J31 0).bind fun (_, P33, F34, A35, J36) =>
  gif3 n P33 F34 A35 J36 v22
def gif1 (n : Nat) (P : Nat → Nat → Nat) (F : Nat → Nat → Int32) (A : Nat → Nat → Nat → Int32) (J : Nat → Nat → Nat → Int64) : Option (cR Unit) :=
  (e_Reader_take P F A J 60).bind fun (v11, P12, F13, A14, J15) =>
  (e_Reader_readSum 8 n P12 F13 A14 J15 0).bind fun (_, P17, F18, A19, J20) =>
  gif2 n P17 F18 A19 J20
theorem readIf_g : e_Reader_readIf n P F A J = (e_Reader_take P F A J 12).bind fun (v1, P2, F3, A4, J5) => (e_Reader_readSum 8 n P2 F3 A4 J5 0).bind fun (_, P7, F8, A9, J10) => gif1 n P7 F8 A9 J10 := rfl
def cFf (P : Nat → Nat → Nat) (F : Nat → Nat → Int32) (r : cR Unit) : Prop := ∃ F' A' J', r = ((), P, F', A', J') ∧ F' 37 10 = F 37 10
theorem gif3_ff (hd : d ≠ 37) (hc : c_chk 6 (P 37 5) = some d) (h : (F 37 10).toInt ≠ 0) : po (gif3 n P F A J v) (cFf P F) := by
  unfold gif3
  rw [hc, Option.bind_some]
  refine po_call add_po ?_
  rintro _ ⟨w, F1, A1, rfl, f1⟩
  have e1 := f1.1 37 10 (fun e => hd e.1.symm)
  dsimp only
  rw [e_take_ff (by rw [e1]; exact h), Option.bind_some]
  dsimp only
  rw [hc, Option.bind_some]
  refine po_call aim_po ?_
  rintro _ ⟨A2, rfl, f2⟩
  exact po_some ⟨F1, A2, J, rfl, e1⟩
theorem gif2_ff (hd : d ≠ 37) (hc : c_chk 6 (P 37 5) = some d) (h : (F 37 10).toInt ≠ 0) : po (gif2 n P F A J) (cFf P F) := by
  unfold gif2
  rw [hc, Option.bind_some]
  refine po_call add_po ?_
  rintro _ ⟨w, F1, A1, rfl, f1⟩
  have e1 := f1.1 37 10 (fun e => hd e.1.symm)
  dsimp only
  rw [e_take_ff (by rw [e1]; exact h), Option.bind_some]
  dsimp only
  refine po_call (eS_ff hd hc (by rw [e1]; exact h)) ?_
  rintro _ ⟨F2, A2, rfl, f2⟩
  have e2 := f2.1 37 10 (fun e => hd e.1.symm)
  dsimp only
  refine po_mono (gif3_ff hd hc (by rw [e2, e1]; exact h)) ?_
  rintro _ ⟨F3, A3, J3, rfl, e3⟩
  exact ⟨F3, A3, J3, rfl, by rw [e3, e2, e1]⟩
theorem gif1_ff (hd : d ≠ 37) (hc : c_chk 6 (P 37 5) = some d) (h : (F 37 10).toInt ≠ 0) : po (gif1 n P F A J) (cFf P F) := by
  unfold gif1
  rw [e_take_ff h, Option.bind_some]
  dsimp only
  refine po_call (eS_ff hd hc h) ?_
  rintro _ ⟨F2, A2, rfl, f2⟩
  have e2 := f2.1 37 10 (fun e => hd e.1.symm)
  dsimp only
  refine po_mono (gif2_ff hd hc (by rw [e2]; exact h)) ?_
  rintro _ ⟨F3, A3, J3, rfl, e3⟩
  exact ⟨F3, A3, J3, rfl, by rw [e3, e2]⟩
theorem readIf_ff (hd : d ≠ 37) (hc : c_chk 6 (P 37 5) = some d) (h : (F 37 10).toInt ≠ 0) : po (e_Reader_readIf n P F A J) (cFf P F) := by
  rw [readIf_g, e_take_ff h, Option.bind_some]
  dsimp only
  refine po_call (eS_ff hd hc h) ?_
  rintro _ ⟨F2, A2, rfl, f2⟩
  have e2 := f2.1 37 10 (fun e => hd e.1.symm)
  dsimp only
  refine po_mono (gif1_ff hd hc (by rw [e2]; exact h)) ?_
  rintro _ ⟨F3, A3, J3, rfl, e3⟩
  exact ⟨F3, A3, J3, rfl, by rw [e3, e2]⟩
/-- an if of a law, on both sides -/
theorem p2_if {f : cR Unit → Option γ} {K18 : (Nat → Int32) → (Nat → Nat → Int32) → (Nat → Nat → Int64) → Int32 → Int32 → Int32 → Option (mR Unit)} {Q : γ → mR Unit → Prop} {nb : Nat} {s p0 b0 c0 : Int} {A1 : Nat → Nat → Nat → Int32} {Am1 : Nat → Nat → Int32} (K : TKs T) (h5 : P 37 5 = d) (hk : c_kind d = 6) (S : SX T 0 d J Jm F A Fm Am) (LG : LGx nb s p0 b0 c0 d A1 Am1 F A Fm Am) (hm : (Am 3 (Fm 11).toInt.toNat).toInt = (31 : Int32).toInt) (ks : ∀ F' A' Fm' Am', SX T 0 d J Jm F' A' Fm' Am' → LGx (nb + 1) s p0 b0 c0 d A1 Am1 F' A' Fm' Am' → P2 (f ((), P, F', A', J)) (K18 Fm' Am' Jm x1 x2 (x3 + 1)) Q) (kf : ∀ F' A' J' Fm' Am' Jm', FE F' Fm' → P2 (f ((), P, F', A', J')) (K18 Fm' Am' Jm' x1 x2 (x3 + 1)) Q) : P2 ((e_Reader_readIf n P F A J).bind f) (d_tellLaw_44 K18 m Fm Am Jm x1 x2 x3) Q := by
  have hd := kd37 hk
  have hd3 := kd3 hk
  have hc := chk_in h5 hk
  -- the class's rest with a fault beside what the reference has come to
  have cf : ∀ {o : Option (cR Unit)} {F1 : Nat → Nat → Int32} {Fm1 Am1 Jm1}, po o (cFf P F1) → FE F1 Fm1 → P2 (o.bind f) (K18 Fm1 Am1 Jm1 x1 x2 (x3 + 1)) Q := by
    intro o F1 Fm1 Am1 Jm1 ho E
    refine p2_l ho ?_
    rintro _ ⟨F2, A2, J2, rfl, e2⟩
    exact kf F2 A2 J2 Fm1 Am1 Jm1 ⟨by rw [e2]; exact E.1, E.gg⟩
  have FEr : ∀ {F1 F2 : Nat → Nat → Int32} {Fm1 : Nat → Int32}, FE F1 Fm1 → F2 37 10 = F1 37 10 → FE F2 Fm1 := fun E e => ⟨by rw [e]; exact E.1, E.gg⟩
  rw [readIf_g]
  unfold d_tellLaw_44
  rw [S.r.le, cond_true, Option.bind_assoc]
  refine p2_goes (k' := 31) K S.r S.x (by decide) (by decide) hm (fun F1 Fm1 U1 => ?_) (fun F1 Fm1 fc fm E => ?_)
  · have S1 := S.v hd U1.v
    dsimp only
    refine p2_br (fun A2 e2 => ?_)
    have a2 := gg_st e2
    refine p2_br (fun A3 e3 => ?_)
    have a3 := gg_st e3
    have S3 : SX T 0 d J Jm F1 A Fm1 A3 := S1.a (fun q hq => by rw [a3.2.2.1 q (by omega), a2.2.2.1 q (by omega)])
    rw [Option.bind_assoc]
    have ple := LPx.le LG.1
    have f1304 : F1 d 1304 = F d 1304 := U1.fc d 1304 (fun e => hd e.1)
    have hL3 : 0 ≤ (F1 d 1304).toInt ∧ (F1 d 1304).toInt + 3 ≤ (Fm1 11).toInt := by
      rw [f1304, U1.m1]
      have := LG.2.2.2.2.2.1
      have := LG.2.2.2.2.2.2
      omega
    have h563 : 0 ≤ (Fm1 56).toInt := by
      rw [U1.fm 56 (by decide)]
      have := LG.2.2.2.2.2.1
      omega
    refine p2_expr K h5 hk S3 hL3 h563 (fun F4 A4 Fm4 Am4 l1 S4 T4 => ?_) (fun F4 A4 J4 Fm4 Am4 Jm4 E => ?_)
    · dsimp only
      unfold gif1
      rw [Option.bind_assoc]
      refine p2_take K S4.r S4.x (k' := 13) (by decide) (by decide) (fun F5 Fm5 U5 _ => ?_) (fun F5 Fm5 fc fm E _ => ?_)
      · have S5 := S4.v hd U5.v
        dsimp only
        refine p2_br (fun A6 e6 => ?_)
        have a6 := gg_st e6
        have S6 : SX T 0 d J Jm F5 A4 Fm5 A6 := S5.a (fun q hq => a6.2.2.1 q (by omega))
        rw [S5.r.nz, cond_false, Option.bind_assoc]
        have g5 : F5 d 1304 = F4 d 1304 := U5.fc d 1304 (fun e => hd e.1)
        have c5 : Fm5 56 = Fm4 56 := U5.fm 56 (by decide)
        have j5 : Fm5 49 = Fm4 49 := U5.fm 49 (by decide)
        have m5 := U5.m1
        have g5i := congrArg Int32.toInt g5
        have c5i := congrArg Int32.toInt c5
        obtain ⟨t1, t2, t3, t4, t5, ⟨t6, t7, t8, t9⟩, t10⟩ := T4
        have t1l := t1.1
        refine p2_expr K h5 hk S6 (by rw [g5]; omega) (by rw [c5]; omega) (fun F7 A7 Fm7 Am7 l2 S7 T7 => ?_) (fun F7 A7 J7 Fm7 Am7 Jm7 E => ?_)
        · dsimp only
          unfold gif2
          rw [hc, Option.bind_some, Option.bind_assoc]
          obtain ⟨u1, u2, u3, u4, u5, ⟨u6, u7, u8, u9⟩, u10⟩ := T7
          have u1l := u1.1
          have t71 := S7.r.t1
          refine p2_l (add_v (by omega) (by omega)) ?_
          rintro _ ⟨v22, F8, A8, rfl, f8, v22e, g8, x15, x16, xo⟩
          have S8 := S7.l hd hd3 f8
          dsimp only
          rw [Option.bind_assoc]
          refine p2_take K S8.r S8.x (k' := 32) (by decide) (by decide) (fun F9 Fm9 U9 _ => ?_) (fun F9 Fm9 fc fm E _ => ?_)
          · have S9 := S8.v hd U9.v
            dsimp only
            rw [Option.bind_assoc]
            have g9 : F9 d 1304 = F8 d 1304 := U9.fc d 1304 (fun e => hd e.1)
            have c9 : Fm9 56 = Fm7 56 := U9.fm 56 (by decide)
            have j9 : Fm9 49 = Fm7 49 := U9.fm 49 (by decide)
            have m9 := U9.m1
            have g9i := congrArg Int32.toInt g9
            have c9i := congrArg Int32.toInt c9
            refine p2_term K h5 hk S9 (by rw [g9]; omega) (by rw [c9]; omega) (fun F10 A10 Fm10 Am10 l3 S10 T10 => ?_) (fun F10 A10 J10 Fm10 Am10 Jm10 E => ?_)
            · dsimp only
              unfold gif3
              rw [hc, Option.bind_some, Option.bind_assoc]
              obtain ⟨w1, ⟨w2, w3, w4, w5, w6⟩, w7, w8, ⟨w9, w10⟩, w11⟩ := T10
              have w1l := w1.1.1
              have t101 := S10.r.t1
              refine p2_l (add_v (by omega) (by omega)) ?_
              rintro _ ⟨v38, F11, A11, rfl, f11, -, g11, y15, y16, yo⟩
              have S11 := S10.l hd hd3 f11
              dsimp only
              rw [Option.bind_assoc]
              refine p2_take K S11.r S11.x (k' := 33) (by decide) (by decide) (fun F12 Fm12 U12 _ => ?_) (fun F12 Fm12 fc fm E _ => ?_)
              · have S12 := S11.v hd U12.v
                dsimp only
                rw [hc, Option.bind_some, Option.bind_assoc]
                have g12 : F12 d 1304 = F11 d 1304 := U12.fc d 1304 (fun e => hd e.1)
                have c12 : Fm12 56 = Fm10 56 := U12.fm 56 (by decide)
                have j12 : Fm12 49 = Fm10 49 := U12.fm 49 (by decide)
                have m12 := U12.m1
                obtain ⟨L0, hL0⟩ : ∃ L, L = (F1 d 1304).toInt := ⟨_, rfl⟩
                obtain ⟨C0, hC0⟩ : ∃ C, C = (Fm1 56).toInt := ⟨_, rfl⟩
                obtain ⟨Bb, hBb⟩ : ∃ B, B = (Fm1 49).toInt := ⟨_, rfl⟩
                obtain ⟨lg1, lg2, lg3, lg4, lg5, lg6, lg7, lg8⟩ := LG
                have u49 := (Prod.mk.inj u10).1
                have u19 := (Prod.mk.inj u10).2
                have t49 := (Prod.mk.inj t10).1
                have t19 := (Prod.mk.inj t10).2
                have f49 : Fm1 49 = Fm 49 := U1.fm 49 (by decide)
                have f56 : Fm1 56 = Fm 56 := U1.fm 56 (by decide)
                have b5 : (Fm5 49).toInt = Bb := by rw [j5, t49, hBb]
                have b9 : (Fm9 49).toInt = Bb := by rw [j9, u49]; exact b5
                have q5 : (F5 d 1304).toInt = L0 + l1 := by rw [g5, hL0]; exact t4
                have q7 : (F7 d 1304).toInt = L0 + l1 + l2 := by omega
                have q9 : (F9 d 1304).toInt = L0 + l1 + l2 + 1 := by rw [g9]; omega
                have q10 : (F10 d 1304).toInt = L0 + l1 + l2 + 1 + l3 := by omega
                have q12 : (F12 d 1304).toInt = L0 + l1 + l2 + 1 + l3 + 1 := by rw [g12]; omega
                have k5 : (Fm5 56).toInt = C0 + l1 := by rw [c5, hC0]; exact t3
                have k9 : (Fm9 56).toInt = C0 + l1 + l2 := by rw [c9]; omega
                have k12 : (Fm12 56).toInt = C0 + l1 + l2 + l3 := by rw [c12]; omega
                have vq : v22.toInt = L0 + l1 + l2 := by rw [v22e]; exact q7
                rw [← hL0] at t1 t6 hL3
                rw [← hC0] at t1 t2 t7 h563
                rw [q5] at u1 u6
                rw [k5] at u1 u2 u7
                rw [q7] at x15 x16 xo
                rw [q9] at w1 w7
                rw [k9] at w1 w7 w9 w10
                rw [b9] at w7 w9 w10
                rw [q10] at y15 y16 yo
                have tl : 0 ≤ l1 := t1l
                have ul : 0 ≤ l2 := u1l
                have wl : 0 ≤ l3 := w1l
                refine p2_l (aim_v (by omega) (by rw [q12]; omega)) ?_
                rintro _ ⟨A13, rfl, f13, z15, z16, zo⟩
                dsimp only
                rw [Option.bind_some]
                rw [vq] at z16 zo
                -- what the class has written, from the back
                have y13 : ∀ i, 0 ≤ i → i < L0 + l1 + l2 + 1 + l3 → i ≠ L0 + l1 + l2 → ci A13 d 15 i = ci A10 d 15 i ∧ ci A13 d 16 i = ci A10 d 16 i := fun i i0 i1 i2 => ⟨by rw [ci_fr z15]; exact (yo i i0 (by omega)).1, by rw [zo i i0 i2]; exact (yo i i0 (by omega)).2⟩
                have y7 : ∀ i, 0 ≤ i → i < L0 + l1 + l2 → ci A13 d 15 i = ci A7 d 15 i ∧ ci A13 d 16 i = ci A7 d 16 i := fun i i0 i1 => by
                  have a := y13 i i0 (by omega) (by omega)
                  have b := w7.1 i i0 (by omega)
                  have c := xo i i0 (by omega)
                  exact ⟨a.1.trans (b.1.trans c.1), a.2.trans (b.2.trans c.2)⟩
                have y4 : ∀ i, 0 ≤ i → i < L0 + l1 → ci A13 d 15 i = ci A4 d 15 i ∧ ci A13 d 16 i = ci A4 d 16 i := fun i i0 i1 => by
                  have a := y7 i i0 (by omega)
                  have b := u6 i i0 (by omega)
                  exact ⟨a.1.trans b.1, a.2.trans b.2⟩
                have r7 : ∀ i, 0 ≤ i → i < C0 + l1 + l2 → ai Am10 42 i = ai Am7 42 i ∧ ai Am10 43 i = ai Am7 43 i := fun i i0 i1 => w7.2.1 i i0 i1
                have r4 : ∀ i, 0 ≤ i → i < C0 + l1 → ai Am10 42 i = ai Am4 42 i ∧ ai Am10 43 i = ai Am4 43 i := fun i i0 i1 => by
                  have a := r7 i i0 (by omega)
                  have b := u7 i i0 (by omega)
                  rw [ai_fr (a6.2.2.1 42 (by decide)), ai_fr (a6.2.2.1 43 (by decide))] at b
                  exact ⟨a.1.trans b.1, a.2.trans b.2⟩
                have s36 : Am10 36 = A2 36 := by rw [w11.1 36 (by decide) (by decide), u8 36 (by decide) (by decide), a6.2.2.1 36 (by decide), t8 36 (by decide) (by decide), a3.2.2.1 36 (by decide)]
                have s37 : Am10 37 = A3 37 := by rw [w11.1 37 (by decide) (by decide), u8 37 (by decide) (by decide), a6.2.2.1 37 (by decide), t8 37 (by decide) (by decide)]
                have s38 : Am10 38 = A6 38 := by rw [w11.1 38 (by decide) (by decide), u8 38 (by decide) (by decide)]
                have n1 : (vp_nar .boolean (1 : Int32)).toInt = 1 := by decide
                have v36 : ai Am10 36 Bb = 1 := by rw [ai_fr s36, hBb, a2.2.2.2.1, n1]
                have v37 : ai Am10 37 Bb = C0 := by rw [ai_fr s37, hBb, a3.2.2.2.1, hC0]
                have v38 : ai Am10 38 Bb = C0 + l1 := by rw [ai_fr s38, ← b5, a6.2.2.2.1, k5]
                have br : BRx (Fm12 56).toInt d A13 Am10 L0 Bb (F12 d 1304).toInt := by
                  refine ⟨l1, l2, l3, v36, by rw [v37]; omega, ?_, by rw [v37, v38], ?_, by rw [v38, w9], ?_, ?_, ?_, by rw [w9, w10], by rw [w10, k12]; omega, ?_, q12⟩
                  · rw [v37]
                    exact (show SGT d A4 Am4 L0 C0 l1 from ⟨t1, t2⟩).fr (fun i a b => y4 i (by omega) (by omega)) (fun i a b => r4 i (by omega) (by omega))
                  · rw [v38]
                    exact (show SGT d A7 Am7 (L0 + l1) (C0 + l1) l2 from ⟨u1, u2⟩).fr (fun i a b => y7 i (by omega) (by omega)) (fun i a b => r7 i (by omega) (by omega))
                  · have z60 : ci A13 d 15 (L0 + l1 + l2) = ci A10 d 15 (L0 + l1 + l2) := by rw [ci_fr z15]; exact (yo (L0 + l1 + l2) (by omega) (by omega)).1
                    rw [z60, (w7.1 (L0 + l1 + l2) (by omega) (by omega)).1, x15]
                    decide
                  · rw [z16]
                  · rw [w9]
                    exact w1.fr (fun i a b => y13 i (by omega) (by omega) (by omega)) (fun _ _ _ => ⟨rfl, rfl⟩)
                  · rw [ci_fr z15, y15]
                    decide
                have fr : BLW L0 C0 Bb d A A13 Am Am10 := by
                  refine ⟨fun i i0 i1 => ?_, fun i i0 i1 => ?_, fun q h1 h2 i i0 i1 => ?_⟩
                  · have a := y4 i i0 (by omega)
                    have b := t6 i i0 i1
                    exact ⟨a.1.trans b.1, a.2.trans b.2⟩
                  · have a := r4 i i0 (by omega)
                    have b := t7 i i0 i1
                    rw [ai_fr (a3.2.2.1 42 (by decide)), ai_fr (a3.2.2.1 43 (by decide)), ai_fr (a2.2.2.1 42 (by decide)), ai_fr (a2.2.2.1 43 (by decide))] at b
                    exact ⟨a.1.trans b.1, a.2.trans b.2⟩
                  · rw [w7.2.2 q h1 h2 i i0 i1, ai_fr (u8 q (by omega) (by omega))]
                    have e4 : ai Am4 q i = ai Am q i := by
                      rw [ai_fr (t8 q (by omega) (by omega))]
                      by_cases e37 : q = 37
                      · rw [e37, a3.2.2.2.2 i i0 (by omega), ai_fr (a2.2.2.1 37 (by decide))]
                      · rw [ai_fr (a3.2.2.1 q e37)]
                        by_cases e36 : q = 36
                        · rw [e36]; exact a2.2.2.2.2 i i0 (by omega)
                        · rw [ai_fr (a2.2.2.1 q e36)]
                    by_cases e38 : q = 38
                    · rw [e38] at e4 ⊢
                      rw [a6.2.2.2.2 i i0 (by omega)]; exact e4
                    · rw [ai_fr (a6.2.2.1 q e38)]; exact e4
                have eL : (F d 1304).toInt = L0 := by rw [hL0, f1304]
                have eB : b0 + (nb : Int) = Bb := by rw [hBb, f49]; exact lg2.symm
                have eC : (Fm 56).toInt = C0 := by rw [hC0, f56]
                have s34 : ∀ q, q = 34 ∨ q = 35 → Am10 q = Am q := fun q hq => by rw [w11.1 q (by omega) (by omega), u8 q (by omega) (by omega), a6.2.2.1 q (by omega), t8 q (by omega) (by omega), a3.2.2.1 q (by omega), a2.2.2.1 q (by omega)]
                have l14 : A13 d 14 = A1 d 14 := by rw [f13.2 d 14 (by omega), f11.2 d 14 (by omega), w8, f8.2 d 14 (by omega), u9, t9]; exact lg4
                refine ks F12 A13 Fm12 Am10 (S12.l hd hd3 f13) ⟨?_, ?_, ?_, l14, ⟨(s34 34 (.inl rfl)).trans lg5.1, (s34 35 (.inr rfl)).trans lg5.2⟩, ⟨by omega, lg6.2.1, lg6.2.2.1, lg6.2.2.2⟩, ?_, by omega⟩
                · rw [eL, eC] at lg1
                  refine LPx.snoc (LPx.fr fr (by omega) lg1 lg6.2.1 (Int.le_refl _) lg6.2.2.1 (by omega)) ?_
                  rw [eB]
                  exact br
                · rw [j12]; omega
                · exact lg3.tr fr (by rw [eL] at ple; exact ple) (by omega) (by omega)
                · rw [U12.fm 19 (by decide), w11.2, U9.fm 19 (by decide), u19, U5.fm 19 (by decide), t19, U1.fm 19 (by decide)]
                  exact lg7
              · dsimp only
                rw [hc, Option.bind_some, Option.bind_assoc]
                refine p2_l aim_po ?_
                rintro _ ⟨A13, rfl, f13⟩
                dsimp only
                rw [Option.bind_some]
                exact kf F12 A13 J Fm12 Am10 Jm E
            · dsimp only
              rw [d_must_ff E.gg, Option.bind_some]
              exact cf (gif3_ff hd hc E.c) E
          · dsimp only
            rw [Option.bind_assoc]
            refine p2_l (eS_ff hd hc E.c) ?_
            rintro _ ⟨F10, A10, rfl, f10⟩
            have E10 := FEr E (f10.1 37 10 (fun e => hd e.1.symm))
            dsimp only
            refine p2_r (term_ff E10) ?_
            rintro ⟨u, Fm11, Am11, Jm11⟩ h11
            have h11 : Fm11 13 = Fm9 13 := h11
            have E11 : FE F10 Fm11 := ⟨by rw [h11]; exact E10.1, by rw [h11]; exact E10.gg⟩
            dsimp only
            rw [d_must_ff E11.gg, Option.bind_some]
            exact cf (gif3_ff hd hc E11.c) E11
        · dsimp only
          exact l116_ff E (fun Fm8 Am8 Jm8 E8 => cf (gif2_ff hd (by exact hc) E8.c) E8)
      · dsimp only
        refine p2_br (fun A6 e6 => ?_)
        rw [E.nz, cond_true]
        unfold d_tellLaw_116
        refine l116_ff E (fun Fm8 Am8 Jm8 E8 => ?_)
        rw [Option.bind_assoc]
        refine p2_l (eS_ff hd hc E8.c) ?_
        rintro _ ⟨F10, A10, rfl, f10⟩
        dsimp only
        exact cf (gif2_ff hd hc (by rw [f10.1 37 10 (fun e => hd e.1.symm)]; exact E8.c)) (FEr E8 (f10.1 37 10 (fun e => hd e.1.symm)))
    · dsimp only
      rw [d_must_ff E.gg, Option.bind_some]
      dsimp only
      refine p2_br (fun A6 e6 => ?_)
      rw [E.nz, cond_true]
      unfold d_tellLaw_116
      exact l116_ff E (fun Fm8 Am8 Jm8 E8 => cf (gif1_ff hd hc E8.c) E8)
  · dsimp only
    refine p2_br (fun A2 e2 => ?_)
    refine p2_br (fun A3 e3 => ?_)
    refine p2_r (dE_ff E.gg) ?_
    rintro ⟨u, Fm4, Am4, Jm4⟩ h4
    have h4 : Fm4 13 = Fm1 13 := h4
    have E4 : FE F1 Fm4 := ⟨by rw [h4]; exact E.1, by rw [h4]; exact E.gg⟩
    dsimp only
    rw [d_must_ff E4.gg, Option.bind_some]
    dsimp only
    refine p2_br (fun A6 e6 => ?_)
    rw [E4.nz, cond_true]
    unfold d_tellLaw_116
    refine l116_ff E4 (fun Fm8 Am8 Jm8 E8 => ?_)
    rw [Option.bind_assoc]
    refine p2_l (eS_ff hd hc E8.c) ?_
    rintro _ ⟨F10, A10, rfl, f10⟩
    dsimp only
    exact cf (gif1_ff hd hc (by rw [f10.1 37 10 (fun e => hd e.1.symm)]; exact E8.c)) (FEr E8 (f10.1 37 10 (fun e => hd e.1.symm)))
/-- what a sentence leaves, laws and all -/
def RSL (T : TS) (d : Nat) (a : cR Unit) (b : mR Unit) : Prop := FE a.2.2.1 b.2.1 ∨ (RT T a.2.2.1 b.2.1 ∧ RX T a.2.2.2.1 a.2.2.2.2 b.2.2.1 b.2.2.2 ∧ RH d a.2.2.1 a.2.2.2.1 a.2.2.2.2 b.2.1 b.2.2.1 b.2.2.2 ∧ RW d a.2.2.1 a.2.2.2.1 b.2.1 b.2.2.1 ∧ RL (b.2.1 19).toInt d a.2.2.1 a.2.2.2.1 b.2.1 b.2.2.1)
theorem p2_ffL {x : Option (cR Unit)} {z : Option (mR Unit)} (E : FE F Fm) (h1 : po x (fun a => a.2.2.1 37 10 = F 37 10)) (h2 : po z (fun b => b.2.1 13 = Fm 13)) : P2 x z (RSL T d) :=
  p2_of h1 h2 (fun a b ha hb => .inl ⟨by rw [ha, hb]; exact E.1, by rw [hb]; exact E.2⟩)
/-- the laws as a law's sentence found them -/
def RLb (s p0 b0 c0 : Int) (d : Nat) (A : Nat → Nat → Nat → Int32) (Am : Nat → Nat → Int32) : Prop := ∀ m : Int, 0 ≤ m → m < 6 → (ci A d 14 m = -1 ∧ ai Am 34 (6 * s + m) = ai Am 35 (6 * s + m)) ∨ ∃ e, LWx c0 b0 d A Am (ci A d 14 m) (ai Am 34 (6 * s + m)) (ai Am 35 (6 * s + m)) e ∧ e ≤ p0
/-- the end of a law -/
theorem ql_end {nb : Nat} {s p0 b0 c0 : Int} {Ab : Nat → Nat → Nat → Int32} {Amb : Nat → Nat → Int32} {w1 w2 : Int32} (K : TKs T) (h5 : P 37 5 = d) (hk : c_kind d = 6) (S : SX T 0 d J Jm F A Fm Am) (LG : LGx nb s p0 b0 c0 d Ab Amb F A Fm Am) (RB : RLb s p0 b0 c0 d Ab Amb) (e1w : w1.toInt = p0) (e2w : w2.toInt = b0) (hv : v.toInt < 6) : P2 (e_Reader_readLaw_94 n P F A J v w1) (d_tellLaw_135 m Fm Am Jm v w2) (RSL T d) := by
  have hd := kd37 hk
  have hd3 := kd3 hk
  have hc := chk_in h5 hk
  unfold e_Reader_readLaw_94 d_tellLaw_135
  refine p2_br (fun A1 e1 => ?_)
  have a1 := gg_st e1
  have S1 : SX T 0 d J Jm F A Fm A1 := S.a (fun q hq => a1.2.2.1 q (by omega))
  obtain ⟨lg1, lg2, lg3, lg4, ⟨lg5, lg5'⟩, ⟨lg6, lp0, lb0, lc0⟩, lg7, lg8⟩ := LG
  have ple := LPx.le lg1
  refine p2_term K h5 hk S1 (by omega) (by omega) (fun F2 A2 Fm2 Am2 l S2 T2 => ?_) (fun F2 A2 J2 Fm2 Am2 Jm2 E => ?_)
  · dsimp only
    rw [hc, Option.bind_some]
    obtain ⟨t1, ⟨t2, t3, t4, t5, t6⟩, t7, t8, ⟨t9, t10⟩, t11, t12⟩ := T2
    have tl : 0 ≤ l := t1.1.1
    have t21 := S2.r.t1
    refine p2_l (add_v (by omega) (by omega)) ?_
    rintro _ ⟨v39, F3, A3, rfl, f3, -, g3, x15, x16, xo⟩
    have S3 := S2.l hd hd3 f3
    dsimp only
    refine p2_take K S3.r S3.x (k' := 4) (by decide) (by decide) (fun F4 Fm4 U4 _ => ?_) (fun F4 Fm4 fc fm E _ => ?_)
    · have S4 := S3.v hd U4.v
      dsimp only
      rw [cz_10, cond_false, S4.r.le, cond_true]
      refine p2_bl (fun F5 e5 => ?_)
      have U5 := gg_cpf e5
      refine p2_br (fun v60 e60 => ?_)
      have a60 := gg_ld e60
      refine p2_br (fun B6 e6 => ?_)
      have b6 := gg_st e6
      have R5 : RT T F5 Fm4 := S4.r.cg (fun k hk => U5.2 37 k (by omega)) (fun _ _ => rfl)
      have fin : ∀ {A7 : Nat → Nat → Nat → Int32} {B7 : Nat → Nat → Int32}, (∀ r o, ¬ (r = d ∧ o = 14) → A7 r o = A3 r o) → (∀ q, q < 34 ∨ q = 41 → B7 q = B6 q) → RL (Fm4 19).toInt d F5 A7 Fm4 B7 → RSL T d ((), P, F5, A7, J) ((), Fm4, B7, Jm) := by
        intro A7 B7 h7 g7 rl
        have p : ∀ q, q < 33 ∨ q = 41 → B7 q = Am2 q := fun q hq => by rw [g7 q (by omega), b6.2.2.1 q (by omega)]
        refine .inr ⟨R5, ?_, ?_, RW.fr S4.e S4.h.s0 (fun k h1 h2 => U5.2 d k (fun e => hd e.1)) (U5.2 3 7 (fun e => by omega)) (U5.2 3 8 (fun e => by omega)) (fun o => h7 3 o (fun e => hd3 e.1.symm)) (fun o h1 h2 => h7 d o (fun e => by omega)) rfl (fun q _ _ h _ _ _ _ => p q (by omega)), rl⟩
        · exact (S4.x.ca (A' := A7) (fun o => h7 37 o (fun e => hd e.1.symm))).a (fun q hq => p q (by omega))
        · refine ⟨S4.h.s0, S4.h.s1, fun q hq => ?_, ?_, ?_, ?_, ?_, S4.h.op⟩
          · show F5 d (cq q) = B7 (rq q) (Fm4 19).toInt.toNat
            rw [U5.2 d (cq q) (fun e => hd e.1), p (rq q) (by have := rq_in q; omega)]
            exact S4.h.cn q hq
          · show F5 d 14 = B7 12 (Fm4 19).toInt.toNat
            rw [U5.2 d 14 (fun e => hd e.1), p 12 (by omega)]
            exact S4.h.dr
          · show F5 37 9 = B7 33 (Fm4 19).toInt.toNat
            refine i_ext ?_
            have w : (B6 33 (Fm4 19).toInt.toNat).toInt = (v60 + 1).toInt := b6.2.2.2.1
            rw [g7 33 (by omega), w, a60.2.2, ← S4.h.lw, U5.1]
          · show ∀ k : Int, 0 ≤ k → k < (F5 d 16).toInt → ci A7 d 5 k = ai B7 22 (6 * (Fm4 19).toInt + k)
            rw [U5.2 d 16 (fun e => hd e.1), ci_fr (h7 d 5 (by omega)), ai_fr (p 22 (by omega))]
            exact S4.h.sc
          · exact S4.h.nr.fr (fun q hq => U5.2 d (cq q) (fun e => hd e.1)) (fun _ _ => rfl) rfl (p 9 (by omega)) (p 10 (by omega)) rfl
      have e5 : F5 d 1304 = F3 d 1304 := by rw [U5.2 d 1304 (fun e => hd e.1)]; exact U4.fc d 1304 (fun e => hd e.1)
      have c4 : Fm4 56 = Fm2 56 := U4.fm 56 (by decide)
      have j4 : Fm4 49 = Fm2 49 := U4.fm 49 (by decide)
      have s4 : (Fm4 19).toInt = s := by rw [U4.fm 19 (by decide), t12]; exact lg7
      have e5L : (F5 d 1304).toInt = (F d 1304).toInt + l + 1 := by rw [e5]; omega
      have n0 : (vp_nar .boolean (0 : Int32)).toInt = 0 := by decide
      -- the rows of laws, as they are ahead of the man's own
      have b6 : ∀ q, q ≠ 33 → B6 q = Am2 q := b6.2.2.1
      have fr : BLW (F d 1304).toInt (Fm 56).toInt (Fm 49).toInt d A A3 Am Am2 := by
        refine ⟨fun i i0 i1 => ?_, fun i i0 i1 => ?_, fun q h1 h2 i i0 i1 => ?_⟩
        · have a := xo i i0 (by omega)
          have b := t7.1 i i0 i1
          exact ⟨a.1.trans b.1, a.2.trans b.2⟩
        · have b := t7.2.1 i i0 i1
          rw [ai_fr (a1.2.2.1 42 (by decide)), ai_fr (a1.2.2.1 43 (by decide))] at b
          exact b
        · rw [t7.2.2 q h1 h2 i i0 i1]
          by_cases e36 : q = 36
          · rw [e36]; exact a1.2.2.2.2 i i0 (by omega)
          · rw [ai_fr (a1.2.2.1 q e36)]
      have s36 : Am2 36 = A1 36 := t11 36 (by decide) (by decide)
      have fn : FNx (Fm4 56).toInt d A3 Am2 (F d 1304).toInt (Fm 49).toInt (F5 d 1304).toInt := by
        refine ⟨l, ?_, by rw [t9]; omega, ?_, by rw [t9, t10], by rw [t10, c4]; omega, ?_, e5L⟩
        · rw [ai_fr s36, a1.2.2.2.1, n0]
        · rw [t9]
          exact t1.fr (fun i a b => xo i (by omega) (by omega)) (fun _ _ _ => ⟨rfl, rfl⟩)
        · rw [← t3, x15]
          decide
      have lw : LWx (Fm4 56).toInt (Fm4 49).toInt d A3 Am2 p0 b0 (Fm4 49).toInt (F5 d 1304).toInt := by
        refine ⟨lp0, lb0, Int.le_refl _, nb, (F d 1304).toInt, LPx.fr fr (by rw [c4]; omega) lg1 lp0 (Int.le_refl _) lb0 (by omega), ?_, by rw [j4]; omega⟩
        rw [← lg2]
        exact fn
      have frb : BLW p0 c0 b0 d Ab A3 Amb Am2 := lg3.tr fr ple lg6 (by omega)
      have d14 : A3 d 14 = Ab d 14 := by rw [f3.2 d 14 (by omega), t8]; exact lg4
      have s34 : Am2 34 = Amb 34 := by rw [t11 34 (by decide) (by decide), a1.2.2.1 34 (by decide)]; exact lg5
      have s35 : Am2 35 = Amb 35 := by rw [t11 35 (by decide) (by decide), a1.2.2.1 35 (by decide)]; exact lg5'
      -- what is said of the laws rests on these rows alone
      have eqr : ∀ {A7 : Nat → Nat → Nat → Int32} {B7 : Nat → Nat → Int32} {x y z e : Int}, A7 d 15 = A3 d 15 → A7 d 16 = A3 d 16 → (∀ q, 36 ≤ q → q ≤ 43 → B7 q = Am2 q) → LWx (Fm4 56).toInt (Fm4 49).toInt d A3 Am2 x y z e → e ≤ (F5 d 1304).toInt → LWx (Fm4 56).toInt (Fm4 49).toInt d A7 B7 x y z e := by
        intro A7 B7 x y z e a15 a16 hB h he
        refine h.fr (L := (F5 d 1304).toInt) ⟨fun i _ _ => by rw [ci_fr a15, ci_fr a16]; exact ⟨rfl, rfl⟩, fun i _ _ => by rw [ai_fr (hB 42 (by decide) (by decide)), ai_fr (hB 43 (by decide) (by decide))]; exact ⟨rfl, rfl⟩, fun q h1 h2 i _ _ => by rw [ai_fr (hB q h1 (by omega))]⟩ he (Int.le_refl _) (Int.le_refl _)
      by_cases c : v.toInt < 0
      · rw [i_lt.mpr (by rw [i_0]; exact c), cond_true, i_nge.mpr (by rw [i_0]; exact c), cond_false]
        refine p2_some (fin (fun _ _ _ => rfl) (fun _ _ => rfl) ⟨by rw [e5L]; omega, fun m m0 m1 => ?_⟩)
        rw [s4, ci_fr d14, ai_fr (b6 34 (by decide)), ai_fr (b6 35 (by decide)), ai_fr s34, ai_fr s35]
        rcases RB m m0 m1 with h | ⟨e, h, he⟩
        · exact .inl h
        · exact .inr ⟨e, eqr rfl rfl (fun q h1 h2 => b6 q (by omega)) (h.fr frb he (by rw [c4]; omega) (by rw [j4]; omega)) (by omega), by omega⟩
      · rw [i_nlt.mpr (by rw [i_0]; omega), cond_false, i_ge.mpr (by rw [i_0]; omega), cond_true, hc, Option.bind_some]
        refine p2_bl (fun A7 e7 => ?_)
        have a7 := (gg_cst e7).2.2
        refine p2_br (fun B7 f7 => ?_)
        have b7 := gg_st f7
        refine p2_br (fun B8 f8 => ?_)
        have b8 := gg_st f8
        have ixv : (6 * Fm4 19 + v).toInt = 6 * s + v.toInt := by rw [S4.h.ix6 (by omega) (by omega), s4]
        rw [ixv] at b7 b8
        refine p2_some (fin (fun r o h => a7.2.2 r o h) (fun q hq => by rw [b8.2.2.1 q (by omega), b7.2.2.1 q (by omega)]) ⟨by rw [e5L]; omega, fun m m0 m1 => ?_⟩)
        have a15 : A7 d 15 = A3 d 15 := a7.2.2 d 15 (fun e => absurd e.2 (by decide))
        have a16 : A7 d 16 = A3 d 16 := a7.2.2 d 16 (fun e => absurd e.2 (by decide))
        have hB : ∀ q, 36 ≤ q → q ≤ 43 → B8 q = Am2 q := fun q h1 h2 => by rw [b8.2.2.1 q (by omega), b7.2.2.1 q (by omega), b6 q (by omega)]
        rw [s4]
        by_cases e : m = v.toInt
        · refine .inr ⟨(F5 d 1304).toInt, ?_, Int.le_refl _⟩
          have x34 : ai B8 34 (6 * s + m) = b0 := by rw [ai_fr (b8.2.2.1 34 (by decide)), e, b7.2.2.2.1, e2w]
          have x35 : ai B8 35 (6 * s + m) = (Fm4 49).toInt := by rw [e, b8.2.2.2.1]
          have x14 : ci A7 d 14 m = p0 := by rw [e, a7.1, e1w]
          rw [x34, x35, x14]
          exact eqr a15 a16 hB lw (Int.le_refl _)
        · have x34 : ai B8 34 (6 * s + m) = ai Amb 34 (6 * s + m) := by rw [ai_fr (b8.2.2.1 34 (by decide)), b7.2.2.2.2 _ (by have := S4.h.s0; omega) (by omega), ai_fr (b6 34 (by decide)), ai_fr s34]
          have x35 : ai B8 35 (6 * s + m) = ai Amb 35 (6 * s + m) := by rw [b8.2.2.2.2 _ (by have := S4.h.s0; omega) (by omega), ai_fr (b7.2.2.1 35 (by decide)), ai_fr (b6 35 (by decide)), ai_fr s35]
          have x14 : ci A7 d 14 m = ci Ab d 14 m := by rw [a7.2.1 m m0 e, ci_fr d14]
          rw [x34, x35, x14]
          rcases RB m m0 m1 with h | ⟨e, h, he⟩
          · exact .inl h
          · exact .inr ⟨e, eqr a15 a16 hB (h.fr frb he (by rw [c4]; omega) (by rw [j4]; omega)) (by omega), by omega⟩
    · refine p2_ffL E ?_ ?_
      · dsimp only
        rw [cz_00, cond_true]
        exact po_some rfl
      · dsimp only
        rw [E.le, cond_false]
        exact po_some rfl
  · refine p2_ffL E ?_ ?_
    · dsimp only
      rw [hc, Option.bind_some]
      refine po_call add_po ?_
      rintro _ ⟨w, F3, A3, rfl, f3⟩
      have e3 := f3.1 37 10 (fun e => hd e.1.symm)
      dsimp only
      rw [e_take_ff (by rw [e3]; exact E.c), Option.bind_some]
      dsimp only
      rw [cz_00, cond_true]
      exact po_some e3
    · dsimp only
      rw [d_must_ff E.gg, Option.bind_some]
      dsimp only
      rw [E.le, cond_false]
      exact po_some rfl
theorem c94_ff {w1 : Int32} (hd : d ≠ 37) (hc : c_chk 6 (P 37 5) = some d) (h : (F 37 10).toInt ≠ 0) : po (e_Reader_readLaw_94 n P F A J v w1) (fun a => a.2.2.1 37 10 = F 37 10) := by
  unfold e_Reader_readLaw_94
  refine po_call (eS_ff hd hc h) ?_
  rintro _ ⟨F2, A2, rfl, f2⟩
  have e2 := f2.1 37 10 (fun e => hd e.1.symm)
  dsimp only
  rw [hc, Option.bind_some]
  refine po_call add_po ?_
  rintro _ ⟨w, F3, A3, rfl, f3⟩
  have e3 := f3.1 37 10 (fun e => hd e.1.symm)
  dsimp only
  rw [e_take_ff (by rw [e3, e2]; exact h), Option.bind_some]
  dsimp only
  rw [cz_00, cond_true]
  exact po_some (by show F3 37 10 = F 37 10; rw [e3, e2])
theorem c48_ff {w1 : Int32} (hd : d ≠ 37) (hc : c_chk 6 (P 37 5) = some d) (h : (F 37 10).toInt ≠ 0) : po (e_Reader_readLaw_48 n P F A J v w1 x3) (fun a => a.2.2.1 37 10 = F 37 10) := by
  cases n with
  | zero => intro r hr; cases hr
  | succ n =>
    unfold e_Reader_readLaw_48
    refine po_cond (fun _ => c94_ff hd hc h) (fun _ => ?_)
    rw [e_next_ff h, Option.bind_some, cz_00, cond_true]
    exact c94_ff hd hc h
theorem d18_ff {w2 : Int32} (E : FE F Fm) : po (d_tellLaw_18 m Fm Am Jm v w2 x3) (fun b => b.2.1 13 = Fm 13) := by
  cases m with
  | zero => intro r hr; cases hr
  | succ m =>
    unfold d_tellLaw_18
    rw [E.nz, cond_true]
    unfold d_tellLaw_135
    refine po_bl (fun A1 _ => ?_)
    refine po_call (term_ff E) ?_
    rintro ⟨u, F1, A2, J1⟩ h1
    have h1 : F1 13 = Fm 13 := h1
    have E1 : FE F F1 := ⟨by rw [h1]; exact E.1, by rw [h1]; exact E.gg⟩
    dsimp only
    rw [d_must_ff E1.gg, Option.bind_some]
    dsimp only
    rw [E1.le, cond_false]
    exact po_some h1
/-- a law's ifs, and its end -/
theorem ql_48 {s p0 b0 c0 : Int} {Ab : Nat → Nat → Nat → Int32} {Amb : Nat → Nat → Int32} {w1 w2 : Int32} (K : TKs T) (h5 : P 37 5 = d) (hk : c_kind d = 6) (RB : RLb s p0 b0 c0 d Ab Amb) (e1w : w1.toInt = p0) (e2w : w2.toInt = b0) (hv : v.toInt < 6) : ∀ {nb n m : Nat} {F : Nat → Nat → Int32} {A : Nat → Nat → Nat → Int32} {Fm : Nat → Int32} {Am : Nat → Nat → Int32} {x3 : Int32}, SX T 0 d J Jm F A Fm Am → LGx nb s p0 b0 c0 d Ab Amb F A Fm Am → 0 ≤ x3.toInt → x3.toInt ≤ 4 → P2 (e_Reader_readLaw_48 n P F A J v w1 x3) (d_tellLaw_18 m Fm Am Jm v w2 x3) (RSL T d) := by
  have hd := kd37 hk
  have hd3 := kd3 hk
  have hc := chk_in h5 hk
  have l4 : (4 : Int32).toInt = 4 := by decide
  have l1 := i_1
  intro nb n
  induction n generalizing nb with
  | zero => intro m F A Fm Am x3 _ _ _ _ a b ha _; cases ha
  | succ n ih =>
    intro m F A Fm Am x3 S LG h0 h4
    cases m with
    | zero => intro a b _ hb; cases hb
    | succ m =>
      unfold e_Reader_readLaw_48 d_tellLaw_18
      rw [i_ngt.mpr (by rw [l4]; exact h4), cond_false, S.r.nz, cond_false]
      refine p2_next K S.r S.x (k' := 31) (by decide) (fun hm => ?_) (fun _ => ?_)
      · rw [cz_10, cond_false, cond_false]
        by_cases h : x3.toInt = 4
        · rw [i_nne.mpr (by rw [l4]; exact h), cond_false, cond_false]
          obtain ⟨F1, e1, h1, -⟩ := e_fail_0 (P := P) (F := F) (A := A) (J := J) (k := 2) (v := A 37 3 (F 37 7).toInt.toNat) S.r.f0
          obtain ⟨Fm1, g1, h1', -, -⟩ := d_fail_0 (F := Fm) (A := Am) (J := Jm) (k := 2) S.r.g0 S.r.t0 S.r.t1
          have E : FE F1 Fm1 := FE.mk' h1 h1' (by decide)
          rw [m_ld_in (by rw [S.r.tk]; exact S.r.t0) (by rw [S.r.tk]; have := S.r.t1; omega), Option.bind_some, e1, Option.bind_some, g1, Option.bind_some]
          refine p2_ffL E ?_ ?_
          · dsimp only
            refine po_call (readIf_ff hd hc E.c) ?_
            rintro _ ⟨F2, A2, J2, rfl, e2⟩
            dsimp only
            exact po_mono (c48_ff hd hc (by rw [e2]; exact E.c)) (fun a ha => by rw [ha, e2])
          · dsimp only
            rw [E.le, cond_false]
            exact po_some rfl
        · rw [i_ne.mpr (by rw [l4]; exact h), cond_true, cond_true]
          unfold e_Reader_readLaw_84
          have e31 := i_add (x := x3) (y := 1) (by omega) (by omega)
          refine p2_if K h5 hk S LG hm (fun F2 A2 Fm2 Am2 S2 LG2 => ?_) (fun F2 A2 J2 Fm2 Am2 Jm2 E => ?_)
          · exact ih S2 LG2 (by omega) (by omega)
          · exact p2_ffL E (c48_ff hd hc E.c) (d18_ff E)
      · rw [cz_00, cond_true, cond_true]
        exact ql_end K h5 hk S LG RB e1w e2w hv
/-- a law is told -/
theorem q_law (K : TKs T) (R : RT T F Fm) (X : RX T A J Am Jm) (H : RH d F A J Fm Am Jm) (W : RW d F A Fm Am) (L : RL (Fm 19).toInt d F A Fm Am) (l56 : 0 ≤ (Fm 56).toInt ∧ 0 ≤ (Fm 49).toInt) (lt : (F d 1304).toInt ≤ (Fm 11).toInt) (h5 : P 37 5 = d) (hk : c_kind d = 6) (b9 : (F 37 9).toInt ≤ 8) (hm : (Am 3 (Fm 11).toInt.toNat).toInt = (30 : Int32).toInt) : P2 (e_Reader_readLaw n P F A J) ((d_roomFor Fm Am Jm (Am 33 (Fm 19).toInt.toNat) 8).bind fun (_, F5, A6, J7) => cond (g_cnd .ne (F5 13) 0) (some ((), F5, A6, J7)) ((d_tellLaw m F5 A6 J7).bind fun (_, F10, A11, J12) => some ((), F10, A11, J12))) (RSL T d) := by
  have hd := kd37 hk
  have hd3 := kd3 hk
  have hc := chk_in h5 hk
  have l8 : (8 : Int32).toInt = 8 := by decide
  unfold e_Reader_readLaw
  rw [← H.lw]
  refine p2_first (k' := 30) K R X (by decide) (by decide) hm (by omega) (fun F1 Fm1 U1 hx => ?_) (fun F1 Fm1 fc fm E => ?_)
  · have R1 := U1.rt
    have H1 := U1.v.h hd H
    dsimp only
    rw [hc, Option.bind_some, R1.nz, cond_false, known_3]
    refine p2_eta ?_
    unfold d_tellLaw
    refine p2_known (q := 3) (by decide) (by decide) K R1 X H1.nr (fun v F2 Fm2 V2 _ hv => ?_) (fun F2 Fm2 fc fm E _ => ?_)
    · have H2 := V2.h hd H1
      dsimp only
      rw [hc, Option.bind_some]
      refine p2_take K V2.rt X (k' := 5) (by decide) (by decide) (fun F3 Fm3 U3 _ => ?_) (fun F3 Fm3 fc fm E _ => ?_)
      · have f1 : F3 d 1304 = F d 1304 := by rw [U3.fc d 1304 (fun e => hd e.1), V2.fc d 1304 (fun e => hd e.1), U1.fc d 1304 (fun e => hd e.1)]
        have f2 : F2 d 1304 = F d 1304 := by rw [V2.fc d 1304 (fun e => hd e.1), U1.fc d 1304 (fun e => hd e.1)]
        have g : ∀ q, q = 19 ∨ q = 49 ∨ q = 56 → Fm3 q = Fm q := fun q hq => by rw [U3.fm q (by omega), V2.fm q (by omega) (by omega) (by omega) (by omega) (by omega), U1.fm q (by omega)]
        have bm : 0 ≤ (F1 d 17).toInt ∧ (F1 d 17).toInt ≤ 6 := H1.nr.bd 3 (by decide)
        have l0 := L.1
        have m1 := U1.m1
        have m2 := V2.m1
        have m3 := U3.m1
        refine ql_48 (nb := 0) (F := F3) (A := A) (Fm := Fm3) (Am := Am) (s := (Fm 19).toInt) (p0 := (F d 1304).toInt) (b0 := (Fm 49).toInt) (c0 := (Fm 56).toInt) (Ab := A) (Amb := Am) K h5 hk L.2 (by rw [f2]) (by show (Fm3 49).toInt = (Fm 49).toInt; rw [g 49 (by omega)]) ?_ ⟨U3.rt, X, U3.v.h hd H2, ((W.v H.s0 hd U1.c U1.m).v H1.s0 hd V2.fc V2.fm).v H2.s0 hd U3.c U3.m⟩ ⟨by show (F3 d 1304).toInt = _; rw [f1], by rw [g 49 (by omega)]; omega, BLW.rfl', rfl, ⟨rfl, rfl⟩, ⟨by rw [g 56 (by omega)]; exact Int.le_refl _, l0, l56.2, l56.1⟩, by rw [g 19 (by omega)], by rw [f1]; omega⟩ (by decide) (by decide)
        rcases hv with ⟨_, h, _⟩ | ⟨rfl, _⟩
        · have h : v.toInt < (F1 d 17).toInt := h
          omega
        · decide
      · exact p2_ffL E (c48_ff hd hc E.c) (d18_ff E)
    · refine p2_ffL E ?_ ?_
      · dsimp only
        rw [hc, Option.bind_some, e_take_ff E.c, Option.bind_some]
        exact c48_ff hd hc E.c
      · dsimp only
        rw [d_must_ff E.gg, Option.bind_some]
        exact d18_ff E
  · refine p2_ffL E ?_ ?_
    · dsimp only
      rw [hc, Option.bind_some, known_3, gknown_ff E.c, Option.bind_some]
      dsimp only
      rw [hc, Option.bind_some, e_take_ff E.c, Option.bind_some]
      exact c48_ff hd hc E.c
    · (dsimp only; rw [FE.nz E, cond_true]; exact po_some rfl)
end B7
end Qz112
section Qz113
/-! what the sentences without laws leave of the laws (printed by wip/frames.py) -/
section B7y
variable {d : Nat} {F0 : Nat → Nat → Int32} {A0 : Nat → Nat → Nat → Int32} {Fr : Nat → Int32} {Ar : Nat → Nat → Int32}
/-- the class's instructions are as they were -/
def FLh (d : Nat) (F0 : Nat → Nat → Int32) (A0 : Nat → Nat → Nat → Int32) (F : Nat → Nat → Int32) (A : Nat → Nat → Nat → Int32) : Prop := F d 1304 = F0 d 1304 ∧ A d 14 = A0 d 14 ∧ A d 15 = A0 d 15 ∧ A d 16 = A0 d 16
theorem fl_pf {γ : Type} {q k : Nat} {x : Int32} {F : Nat → Nat → Int32} {A : Nat → Nat → Nat → Int32} {g : (Nat → Nat → Int32) → Option γ} {Q : γ → Prop} (h : FLh d F0 A0 F A) (hk : k ≠ 1304) (kk : ∀ F', FLh d F0 A0 F' A → po (g F') Q) : po ((c_pf F q k x).bind g) Q :=
  po_bl (fun F' e => kk F' ⟨((gg_cpf e).2 d 1304 (fun e => hk e.2.symm)).trans h.1, h.2⟩)
theorem fl_st {γ : Type} {q o n : Nat} {i x : Int32} {F : Nat → Nat → Int32} {A : Nat → Nat → Nat → Int32} {g : (Nat → Nat → Nat → Int32) → Option γ} {Q : γ → Prop} (h : FLh d F0 A0 F A) (ho : o ≠ 14 ∧ o ≠ 15 ∧ o ≠ 16) (kk : ∀ A', FLh d F0 A0 F A' → po (g A') Q) : po ((c_st A q o n i x).bind g) Q :=
  po_bl (fun A' e => by
    have a := (gg_cst e).2.2.2.2
    exact kk A' ⟨h.1, (a d 14 (fun e => ho.1 e.2.symm)).trans h.2.1, (a d 15 (fun e => ho.2.1 e.2.symm)).trans h.2.2.1, (a d 16 (fun e => ho.2.2 e.2.symm)).trans h.2.2.2⟩)
/-- the reference's codes and branches are as they were -/
def FMh (F0 : Nat → Int32) (A0 : Nat → Nat → Int32) (F : Nat → Int32) (A : Nat → Nat → Int32) : Prop := (F 49 = F0 49 ∧ F 56 = F0 56 ∧ F 19 = F0 19) ∧ ∀ q, 34 ≤ q → q ≤ 43 → q ≠ 41 → A q = A0 q
theorem fm_pf {γ : Type} {k : Nat} {x : Int32} {F : Nat → Int32} {A : Nat → Nat → Int32} {g : (Nat → Int32) → Option γ} {Q : γ → Prop} (h : FMh Fr Ar F A) (hk : k ≠ 49 ∧ k ≠ 56 ∧ k ≠ 19) (kk : ∀ F', FMh Fr Ar F' A → po (g F') Q) : po ((m_pf F k x).bind g) Q :=
  po_bl (fun F' e => by
    have a := (gg_pf e).2
    exact kk F' ⟨⟨(a 49 (fun e => hk.1 e.symm)).trans h.1.1, (a 56 (fun e => hk.2.1 e.symm)).trans h.1.2.1, (a 19 (fun e => hk.2.2 e.symm)).trans h.1.2.2⟩, h.2⟩)
theorem fm_st {γ : Type} {j n : Nat} {i x : Int32} {F : Nat → Int32} {A : Nat → Nat → Int32} {g : (Nat → Nat → Int32) → Option γ} {Q : γ → Prop} (h : FMh Fr Ar F A) (hj : j < 34 ∨ 43 < j ∨ j = 41) (kk : ∀ A', FMh Fr Ar F A' → po (g A') Q) : po ((m_st A j n i x).bind g) Q :=
  po_bl (fun A' e => kk A' ⟨h.1, fun q h1 h2 h3 => ((gg_st e).2.2.1 q (by omega)).trans (h.2 q h1 h2 h3)⟩)
theorem fl_e_Reader_fail_15 {P : Nat → Nat → Nat} {F : Nat → Nat → Int32} {A : Nat → Nat → Nat → Int32} {J : Nat → Nat → Nat → Int64} {x1 : Int32} {x2 : Int32}  (h : FLh d F0 A0 F A) : po (e_Reader_fail_15 P F A J x1 x2) (fun r => FLh d F0 A0 r.2.2.1 r.2.2.2.1) := by
  unfold e_Reader_fail_15
  repeat' (first
    | with_reducible exact po_some (by assumption)
    | (with_reducible refine fl_pf (by assumption) (by decide) ?_; intro _ _)
    | (with_reducible refine fl_st (by assumption) (by decide) ?_; intro _ _)
    | with_reducible refine po_cond (fun _ => ?_) (fun _ => ?_)
    | with_reducible refine po_bind_cond (fun _ => ?_) (fun _ => ?_)
    | with_reducible refine po_bl (fun _ _ => ?_))
theorem fl_e_Reader_fail {P : Nat → Nat → Nat} {F : Nat → Nat → Int32} {A : Nat → Nat → Nat → Int32} {J : Nat → Nat → Nat → Int64} {x1 : Int32} {x2 : Int32}  (h : FLh d F0 A0 F A) : po (e_Reader_fail P F A J x1 x2) (fun r => FLh d F0 A0 r.2.2.1 r.2.2.2.1) := by
  unfold e_Reader_fail
  repeat' (first
    | with_reducible exact po_some (by assumption)
    | (with_reducible refine fl_pf (by assumption) (by decide) ?_; intro _ _)
    | (with_reducible refine fl_st (by assumption) (by decide) ?_; intro _ _)
    | with_reducible exact fl_e_Reader_fail_15 (by assumption)
    | (with_reducible refine po_call (fl_e_Reader_fail_15 (by assumption)) ?_; rintro ⟨_, _, _, _, _⟩ _; try dsimp only)
    | with_reducible refine po_cond (fun _ => ?_) (fun _ => ?_)
    | with_reducible refine po_bind_cond (fun _ => ?_) (fun _ => ?_)
    | with_reducible refine po_bl (fun _ _ => ?_))
theorem fl_e_Reader_take {P : Nat → Nat → Nat} {F : Nat → Nat → Int32} {A : Nat → Nat → Nat → Int32} {J : Nat → Nat → Nat → Int64} {x1 : Int32}  (h : FLh d F0 A0 F A) : po (e_Reader_take P F A J x1) (fun r => FLh d F0 A0 r.2.2.1 r.2.2.2.1) := by
  unfold e_Reader_take
  repeat' (first
    | with_reducible exact po_some (by assumption)
    | (with_reducible refine fl_pf (by assumption) (by decide) ?_; intro _ _)
    | (with_reducible refine fl_st (by assumption) (by decide) ?_; intro _ _)
    | with_reducible exact fl_e_Reader_fail (by assumption)
    | (with_reducible refine po_call (fl_e_Reader_fail (by assumption)) ?_; rintro ⟨_, _, _, _, _⟩ _; try dsimp only)
    | with_reducible refine po_cond (fun _ => ?_) (fun _ => ?_)
    | with_reducible refine po_bind_cond (fun _ => ?_) (fun _ => ?_)
    | with_reducible refine po_bl (fun _ _ => ?_))
theorem fl_e_Reader_takeFirst_22 {P : Nat → Nat → Nat} {F : Nat → Nat → Int32} {A : Nat → Nat → Nat → Int32} {J : Nat → Nat → Nat → Int64} {x1 : Int32}  (h : FLh d F0 A0 F A) : po (e_Reader_takeFirst_22 P F A J x1) (fun r => FLh d F0 A0 r.2.2.1 r.2.2.2.1) := by
  unfold e_Reader_takeFirst_22
  repeat' (first
    | with_reducible exact po_some (by assumption)
    | (with_reducible refine fl_pf (by assumption) (by decide) ?_; intro _ _)
    | (with_reducible refine fl_st (by assumption) (by decide) ?_; intro _ _)
    | with_reducible exact fl_e_Reader_take (by assumption)
    | (with_reducible refine po_call (fl_e_Reader_take (by assumption)) ?_; rintro ⟨_, _, _, _, _⟩ _; try dsimp only)
    | with_reducible refine po_cond (fun _ => ?_) (fun _ => ?_)
    | with_reducible refine po_bind_cond (fun _ => ?_) (fun _ => ?_)
    | with_reducible refine po_bl (fun _ _ => ?_))
theorem fl_e_Reader_takeFirst {P : Nat → Nat → Nat} {F : Nat → Nat → Int32} {A : Nat → Nat → Nat → Int32} {J : Nat → Nat → Nat → Int64} {x1 : Int32} {x2 : Int32} {x3 : Int32}  (h : FLh d F0 A0 F A) : po (e_Reader_takeFirst P F A J x1 x2 x3) (fun r => FLh d F0 A0 r.2.2.1 r.2.2.2.1) := by
  unfold e_Reader_takeFirst
  repeat' (first
    | with_reducible exact po_some (by assumption)
    | (with_reducible refine fl_pf (by assumption) (by decide) ?_; intro _ _)
    | (with_reducible refine fl_st (by assumption) (by decide) ?_; intro _ _)
    | with_reducible exact fl_e_Reader_takeFirst_22 (by assumption)
    | (with_reducible refine po_call (fl_e_Reader_takeFirst_22 (by assumption)) ?_; rintro ⟨_, _, _, _, _⟩ _; try dsimp only)
    | with_reducible exact fl_e_Reader_fail (by assumption)
    | (with_reducible refine po_call (fl_e_Reader_fail (by assumption)) ?_; rintro ⟨_, _, _, _, _⟩ _; try dsimp only)
    | with_reducible exact fl_e_Reader_take (by assumption)
    | (with_reducible refine po_call (fl_e_Reader_take (by assumption)) ?_; rintro ⟨_, _, _, _, _⟩ _; try dsimp only)
    | with_reducible refine po_cond (fun _ => ?_) (fun _ => ?_)
    | with_reducible refine po_bind_cond (fun _ => ?_) (fun _ => ?_)
    | with_reducible refine po_bl (fun _ _ => ?_))
theorem fl_e_Reader_failLate {P : Nat → Nat → Nat} {F : Nat → Nat → Int32} {A : Nat → Nat → Nat → Int32} {J : Nat → Nat → Nat → Int64} {x1 : Int32}  (h : FLh d F0 A0 F A) : po (e_Reader_failLate P F A J x1) (fun r => FLh d F0 A0 r.2.2.1 r.2.2.2.1) := by
  unfold e_Reader_failLate
  repeat' (first
    | with_reducible exact po_some (by assumption)
    | (with_reducible refine fl_pf (by assumption) (by decide) ?_; intro _ _)
    | (with_reducible refine fl_st (by assumption) (by decide) ?_; intro _ _)
    | with_reducible refine po_cond (fun _ => ?_) (fun _ => ?_)
    | with_reducible refine po_bind_cond (fun _ => ?_) (fun _ => ?_)
    | with_reducible refine po_bl (fun _ _ => ?_))
theorem fl_e_Reader_takeKnownName {n : Nat} {P : Nat → Nat → Nat} {F : Nat → Nat → Int32} {A : Nat → Nat → Nat → Int32} {J : Nat → Nat → Nat → Int64} {x2 : Int32}  (h : FLh d F0 A0 F A) : po (e_Reader_takeKnownName n P F A J x2) (fun r => FLh d F0 A0 r.2.2.1 r.2.2.2.1) := by
  unfold e_Reader_takeKnownName
  repeat' (first
    | with_reducible exact po_some (by assumption)
    | (with_reducible refine fl_pf (by assumption) (by decide) ?_; intro _ _)
    | (with_reducible refine fl_st (by assumption) (by decide) ?_; intro _ _)
    | with_reducible exact fl_e_Reader_take (by assumption)
    | (with_reducible refine po_call (fl_e_Reader_take (by assumption)) ?_; rintro ⟨_, _, _, _, _⟩ _; try dsimp only)
    | with_reducible exact fl_e_Reader_failLate (by assumption)
    | (with_reducible refine po_call (fl_e_Reader_failLate (by assumption)) ?_; rintro ⟨_, _, _, _, _⟩ _; try dsimp only)
    | with_reducible refine po_cond (fun _ => ?_) (fun _ => ?_)
    | with_reducible refine po_bind_cond (fun _ => ?_) (fun _ => ?_)
    | with_reducible refine po_bl (fun _ _ => ?_))
theorem fl_e_Reader_takeNumber_34 {P : Nat → Nat → Nat} {F : Nat → Nat → Int32} {A : Nat → Nat → Nat → Int32} {J : Nat → Nat → Nat → Int64} {x3 : Int32}  (h : FLh d F0 A0 F A) : po (e_Reader_takeNumber_34 P F A J x3) (fun r => FLh d F0 A0 r.2.2.1 r.2.2.2.1) := by
  unfold e_Reader_takeNumber_34
  repeat' (first
    | with_reducible exact po_some (by assumption)
    | (with_reducible refine fl_pf (by assumption) (by decide) ?_; intro _ _)
    | (with_reducible refine fl_st (by assumption) (by decide) ?_; intro _ _)
    | with_reducible exact fl_e_Reader_failLate (by assumption)
    | (with_reducible refine po_call (fl_e_Reader_failLate (by assumption)) ?_; rintro ⟨_, _, _, _, _⟩ _; try dsimp only)
    | with_reducible refine po_cond (fun _ => ?_) (fun _ => ?_)
    | with_reducible refine po_bind_cond (fun _ => ?_) (fun _ => ?_)
    | with_reducible refine po_bl (fun _ _ => ?_))
theorem fl_e_Reader_takeNumber {P : Nat → Nat → Nat} {F : Nat → Nat → Int32} {A : Nat → Nat → Nat → Int32} {J : Nat → Nat → Nat → Int64} {x1 : Int32} {x2 : Int32}  (h : FLh d F0 A0 F A) : po (e_Reader_takeNumber P F A J x1 x2) (fun r => FLh d F0 A0 r.2.2.1 r.2.2.2.1) := by
  unfold e_Reader_takeNumber
  repeat' (first
    | with_reducible exact po_some (by assumption)
    | (with_reducible refine fl_pf (by assumption) (by decide) ?_; intro _ _)
    | (with_reducible refine fl_st (by assumption) (by decide) ?_; intro _ _)
    | with_reducible exact fl_e_Reader_take (by assumption)
    | (with_reducible refine po_call (fl_e_Reader_take (by assumption)) ?_; rintro ⟨_, _, _, _, _⟩ _; try dsimp only)
    | with_reducible exact fl_e_Reader_takeNumber_34 (by assumption)
    | (with_reducible refine po_call (fl_e_Reader_takeNumber_34 (by assumption)) ?_; rintro ⟨_, _, _, _, _⟩ _; try dsimp only)
    | with_reducible refine po_cond (fun _ => ?_) (fun _ => ?_)
    | with_reducible refine po_bind_cond (fun _ => ?_) (fun _ => ?_)
    | with_reducible refine po_bl (fun _ _ => ?_))
theorem fl_e_Reader_readDoor_165 {n : Nat} {P : Nat → Nat → Nat} {F : Nat → Nat → Int32} {A : Nat → Nat → Nat → Int32} {J : Nat → Nat → Nat → Int64} {rs0 : Nat} {s1 : Int32} {s2 : Int32}  (h : FLh d F0 A0 F A) : po (e_Reader_readDoor_165 n P F A J rs0 s1 s2) (fun r => FLh d F0 A0 r.2.2.1 r.2.2.2.1) := by
  unfold e_Reader_readDoor_165
  repeat' (first
    | with_reducible exact po_some (by assumption)
    | (with_reducible refine fl_pf (by assumption) (by decide) ?_; intro _ _)
    | (with_reducible refine fl_st (by assumption) (by decide) ?_; intro _ _)
    | with_reducible refine po_cond (fun _ => ?_) (fun _ => ?_)
    | with_reducible refine po_bind_cond (fun _ => ?_) (fun _ => ?_)
    | with_reducible refine po_bl (fun _ _ => ?_))
theorem fl_e_Reader_readDoor_91 {n : Nat} {P : Nat → Nat → Nat} {F : Nat → Nat → Int32} {A : Nat → Nat → Nat → Int32} {J : Nat → Nat → Nat → Int64} {x1 : Int32} {x2 : Int32} {x3 : Int32} {s0 : Int32}  (h : FLh d F0 A0 F A) : po (e_Reader_readDoor_91 n P F A J x1 x2 x3 s0) (fun r => FLh d F0 A0 r.2.2.1 r.2.2.2.1) := by
  unfold e_Reader_readDoor_91
  repeat' (first
    | with_reducible exact po_some (by assumption)
    | (with_reducible refine fl_pf (by assumption) (by decide) ?_; intro _ _)
    | (with_reducible refine fl_st (by assumption) (by decide) ?_; intro _ _)
    | with_reducible exact fl_e_Reader_take (by assumption)
    | (with_reducible refine po_call (fl_e_Reader_take (by assumption)) ?_; rintro ⟨_, _, _, _, _⟩ _; try dsimp only)
    | with_reducible exact fl_e_Reader_readDoor_165 (by assumption)
    | (with_reducible refine po_call (fl_e_Reader_readDoor_165 (by assumption)) ?_; rintro ⟨_, _, _, _, _⟩ _; try dsimp only)
    | with_reducible refine po_cond (fun _ => ?_) (fun _ => ?_)
    | with_reducible refine po_bind_cond (fun _ => ?_) (fun _ => ?_)
    | with_reducible refine po_bl (fun _ _ => ?_))
theorem fl_e_Reader_readDoor_90 {n : Nat} {P : Nat → Nat → Nat} {F : Nat → Nat → Int32} {A : Nat → Nat → Nat → Int32} {J : Nat → Nat → Nat → Int64} {x1 : Int32} {x2 : Int32} {x3 : Int32}  (h : FLh d F0 A0 F A) : po (e_Reader_readDoor_90 n P F A J x1 x2 x3) (fun r => FLh d F0 A0 r.2.2.1 r.2.2.2.1) := by
  unfold e_Reader_readDoor_90
  repeat' (first
    | with_reducible exact po_some (by assumption)
    | (with_reducible refine fl_pf (by assumption) (by decide) ?_; intro _ _)
    | (with_reducible refine fl_st (by assumption) (by decide) ?_; intro _ _)
    | with_reducible exact fl_e_Reader_readDoor_91 (by assumption)
    | (with_reducible refine po_call (fl_e_Reader_readDoor_91 (by assumption)) ?_; rintro ⟨_, _, _, _, _⟩ _; try dsimp only)
    | with_reducible refine po_cond (fun _ => ?_) (fun _ => ?_)
    | with_reducible refine po_bind_cond (fun _ => ?_) (fun _ => ?_)
    | with_reducible refine po_bl (fun _ _ => ?_))
theorem fl_e_Reader_readDoor_60 {n : Nat} {P : Nat → Nat → Nat} {F : Nat → Nat → Int32} {A : Nat → Nat → Nat → Int32} {J : Nat → Nat → Nat → Int64} {x1 : Int32} {x2 : Int32}  (h : FLh d F0 A0 F A) : po (e_Reader_readDoor_60 n P F A J x1 x2) (fun r => FLh d F0 A0 r.2.2.1 r.2.2.2.1) := by
  unfold e_Reader_readDoor_60
  repeat' (first
    | with_reducible exact po_some (by assumption)
    | (with_reducible refine fl_pf (by assumption) (by decide) ?_; intro _ _)
    | (with_reducible refine fl_st (by assumption) (by decide) ?_; intro _ _)
    | with_reducible exact fl_e_Reader_takeNumber (by assumption)
    | (with_reducible refine po_call (fl_e_Reader_takeNumber (by assumption)) ?_; rintro ⟨_, _, _, _, _⟩ _; try dsimp only)
    | with_reducible exact fl_e_Reader_readDoor_90 (by assumption)
    | (with_reducible refine po_call (fl_e_Reader_readDoor_90 (by assumption)) ?_; rintro ⟨_, _, _, _, _⟩ _; try dsimp only)
    | with_reducible exact fl_e_Reader_take (by assumption)
    | (with_reducible refine po_call (fl_e_Reader_take (by assumption)) ?_; rintro ⟨_, _, _, _, _⟩ _; try dsimp only)
    | with_reducible exact fl_e_Reader_readDoor_91 (by assumption)
    | (with_reducible refine po_call (fl_e_Reader_readDoor_91 (by assumption)) ?_; rintro ⟨_, _, _, _, _⟩ _; try dsimp only)
    | with_reducible refine po_cond (fun _ => ?_) (fun _ => ?_)
    | with_reducible refine po_bind_cond (fun _ => ?_) (fun _ => ?_)
    | with_reducible refine po_bl (fun _ _ => ?_))
theorem fl_e_Reader_readDoor {n : Nat} {P : Nat → Nat → Nat} {F : Nat → Nat → Int32} {A : Nat → Nat → Nat → Int32} {J : Nat → Nat → Nat → Int64}  (h : FLh d F0 A0 F A) : po (e_Reader_readDoor n P F A J) (fun r => FLh d F0 A0 r.2.2.1 r.2.2.2.1) := by
  unfold e_Reader_readDoor
  repeat' (first
    | with_reducible exact po_some (by assumption)
    | (with_reducible refine fl_pf (by assumption) (by decide) ?_; intro _ _)
    | (with_reducible refine fl_st (by assumption) (by decide) ?_; intro _ _)
    | with_reducible exact fl_e_Reader_takeFirst (by assumption)
    | (with_reducible refine po_call (fl_e_Reader_takeFirst (by assumption)) ?_; rintro ⟨_, _, _, _, _⟩ _; try dsimp only)
    | with_reducible exact fl_e_Reader_takeKnownName (by assumption)
    | (with_reducible refine po_call (fl_e_Reader_takeKnownName (by assumption)) ?_; rintro ⟨_, _, _, _, _⟩ _; try dsimp only)
    | with_reducible exact fl_e_Reader_readDoor_60 (by assumption)
    | (with_reducible refine po_call (fl_e_Reader_readDoor_60 (by assumption)) ?_; rintro ⟨_, _, _, _, _⟩ _; try dsimp only)
    | with_reducible exact fl_e_Reader_failLate (by assumption)
    | (with_reducible refine po_call (fl_e_Reader_failLate (by assumption)) ?_; rintro ⟨_, _, _, _, _⟩ _; try dsimp only)
    | with_reducible exact fl_e_Reader_takeNumber (by assumption)
    | (with_reducible refine po_call (fl_e_Reader_takeNumber (by assumption)) ?_; rintro ⟨_, _, _, _, _⟩ _; try dsimp only)
    | with_reducible exact fl_e_Reader_readDoor_90 (by assumption)
    | (with_reducible refine po_call (fl_e_Reader_readDoor_90 (by assumption)) ?_; rintro ⟨_, _, _, _, _⟩ _; try dsimp only)
    | with_reducible exact fl_e_Reader_take (by assumption)
    | (with_reducible refine po_call (fl_e_Reader_take (by assumption)) ?_; rintro ⟨_, _, _, _, _⟩ _; try dsimp only)
    | with_reducible exact fl_e_Reader_readDoor_91 (by assumption)
    | (with_reducible refine po_call (fl_e_Reader_readDoor_91 (by assumption)) ?_; rintro ⟨_, _, _, _, _⟩ _; try dsimp only)
    | with_reducible refine po_cond (fun _ => ?_) (fun _ => ?_)
    | with_reducible refine po_bind_cond (fun _ => ?_) (fun _ => ?_)
    | with_reducible refine po_bl (fun _ _ => ?_))
theorem fl_e_Reader_takeNewName_v3_101 {n : Nat} {P : Nat → Nat → Nat} {F : Nat → Nat → Int32} {A : Nat → Nat → Nat → Int32} {J : Nat → Nat → Nat → Int64} {x2 : Int32} {x3 : Int64}  (h : FLh d F0 A0 F A) : po (e_Reader_takeNewName_v3_101 n P F A J x2 x3) (fun r => FLh d F0 A0 r.2.2.1 r.2.2.2.1) := by
  unfold e_Reader_takeNewName_v3_101
  repeat' (first
    | with_reducible exact po_some (by assumption)
    | (with_reducible refine fl_pf (by assumption) (by decide) ?_; intro _ _)
    | (with_reducible refine fl_st (by assumption) (by decide) ?_; intro _ _)
    | with_reducible exact fl_e_Reader_failLate (by assumption)
    | (with_reducible refine po_call (fl_e_Reader_failLate (by assumption)) ?_; rintro ⟨_, _, _, _, _⟩ _; try dsimp only)
    | with_reducible refine po_cond (fun _ => ?_) (fun _ => ?_)
    | with_reducible refine po_bind_cond (fun _ => ?_) (fun _ => ?_)
    | with_reducible refine po_bl (fun _ _ => ?_))
theorem fl_e_Reader_takeNewName_v3_106 {n : Nat} {P : Nat → Nat → Nat} {F : Nat → Nat → Int32} {A : Nat → Nat → Nat → Int32} {J : Nat → Nat → Nat → Int64} {x2 : Int32} {x3 : Int64}  (h : FLh d F0 A0 F A) : po (e_Reader_takeNewName_v3_106 n P F A J x2 x3) (fun r => FLh d F0 A0 r.2.2.1 r.2.2.2.1) := by
  unfold e_Reader_takeNewName_v3_106
  repeat' (first
    | with_reducible exact po_some (by assumption)
    | (with_reducible refine fl_pf (by assumption) (by decide) ?_; intro _ _)
    | (with_reducible refine fl_st (by assumption) (by decide) ?_; intro _ _)
    | with_reducible refine po_cond (fun _ => ?_) (fun _ => ?_)
    | with_reducible refine po_bind_cond (fun _ => ?_) (fun _ => ?_)
    | with_reducible refine po_bl (fun _ _ => ?_))
theorem fl_e_Reader_takeNewName_v3 {n : Nat} {P : Nat → Nat → Nat} {F : Nat → Nat → Int32} {A : Nat → Nat → Nat → Int32} {J : Nat → Nat → Nat → Int64} {x2 : Int32}  (h : FLh d F0 A0 F A) : po (e_Reader_takeNewName_v3 n P F A J x2) (fun r => FLh d F0 A0 r.2.2.1 r.2.2.2.1) := by
  unfold e_Reader_takeNewName_v3
  repeat' (first
    | with_reducible exact po_some (by assumption)
    | (with_reducible refine fl_pf (by assumption) (by decide) ?_; intro _ _)
    | (with_reducible refine fl_st (by assumption) (by decide) ?_; intro _ _)
    | with_reducible exact fl_e_Reader_take (by assumption)
    | (with_reducible refine po_call (fl_e_Reader_take (by assumption)) ?_; rintro ⟨_, _, _, _, _⟩ _; try dsimp only)
    | with_reducible exact fl_e_Reader_takeNewName_v3_101 (by assumption)
    | (with_reducible refine po_call (fl_e_Reader_takeNewName_v3_101 (by assumption)) ?_; rintro ⟨_, _, _, _, _⟩ _; try dsimp only)
    | with_reducible exact fl_e_Reader_takeNewName_v3_106 (by assumption)
    | (with_reducible refine po_call (fl_e_Reader_takeNewName_v3_106 (by assumption)) ?_; rintro ⟨_, _, _, _, _⟩ _; try dsimp only)
    | with_reducible refine po_cond (fun _ => ?_) (fun _ => ?_)
    | with_reducible refine po_bind_cond (fun _ => ?_) (fun _ => ?_)
    | with_reducible refine po_bl (fun _ _ => ?_))
theorem fl_e_Reader_readMan_92 {n : Nat} {P : Nat → Nat → Nat} {F : Nat → Nat → Int32} {A : Nat → Nat → Nat → Int32} {J : Nat → Nat → Nat → Int64} {x1 : Int32} {x2 : Int32}  (h : FLh d F0 A0 F A) : po (e_Reader_readMan_92 n P F A J x1 x2) (fun r => FLh d F0 A0 r.2.2.1 r.2.2.2.1) := by
  unfold e_Reader_readMan_92
  repeat' (first
    | with_reducible exact po_some (by assumption)
    | (with_reducible refine fl_pf (by assumption) (by decide) ?_; intro _ _)
    | (with_reducible refine fl_st (by assumption) (by decide) ?_; intro _ _)
    | with_reducible exact fl_e_Reader_take (by assumption)
    | (with_reducible refine po_call (fl_e_Reader_take (by assumption)) ?_; rintro ⟨_, _, _, _, _⟩ _; try dsimp only)
    | with_reducible refine po_cond (fun _ => ?_) (fun _ => ?_)
    | with_reducible refine po_bind_cond (fun _ => ?_) (fun _ => ?_)
    | with_reducible refine po_bl (fun _ _ => ?_))
theorem fl_e_Reader_takeKnownName_v1 {n : Nat} {P : Nat → Nat → Nat} {F : Nat → Nat → Int32} {A : Nat → Nat → Nat → Int32} {J : Nat → Nat → Nat → Int64} {x2 : Int32}  (h : FLh d F0 A0 F A) : po (e_Reader_takeKnownName_v1 n P F A J x2) (fun r => FLh d F0 A0 r.2.2.1 r.2.2.2.1) := by
  unfold e_Reader_takeKnownName_v1
  repeat' (first
    | with_reducible exact po_some (by assumption)
    | (with_reducible refine fl_pf (by assumption) (by decide) ?_; intro _ _)
    | (with_reducible refine fl_st (by assumption) (by decide) ?_; intro _ _)
    | with_reducible exact fl_e_Reader_take (by assumption)
    | (with_reducible refine po_call (fl_e_Reader_take (by assumption)) ?_; rintro ⟨_, _, _, _, _⟩ _; try dsimp only)
    | with_reducible exact fl_e_Reader_failLate (by assumption)
    | (with_reducible refine po_call (fl_e_Reader_failLate (by assumption)) ?_; rintro ⟨_, _, _, _, _⟩ _; try dsimp only)
    | with_reducible refine po_cond (fun _ => ?_) (fun _ => ?_)
    | with_reducible refine po_bind_cond (fun _ => ?_) (fun _ => ?_)
    | with_reducible refine po_bl (fun _ _ => ?_))
theorem fl_e_Reader_takeStepNumber_23 {P : Nat → Nat → Nat} {F : Nat → Nat → Int32} {A : Nat → Nat → Nat → Int32} {J : Nat → Nat → Nat → Int64} {s1 : Int32} {s2 : Int32}  (h : FLh d F0 A0 F A) : po (e_Reader_takeStepNumber_23 P F A J s1 s2) (fun r => FLh d F0 A0 r.2.2.1 r.2.2.2.1) := by
  unfold e_Reader_takeStepNumber_23
  repeat' (first
    | with_reducible exact po_some (by assumption)
    | (with_reducible refine fl_pf (by assumption) (by decide) ?_; intro _ _)
    | (with_reducible refine fl_st (by assumption) (by decide) ?_; intro _ _)
    | with_reducible exact fl_e_Reader_takeNumber (by assumption)
    | (with_reducible refine po_call (fl_e_Reader_takeNumber (by assumption)) ?_; rintro ⟨_, _, _, _, _⟩ _; try dsimp only)
    | with_reducible refine po_cond (fun _ => ?_) (fun _ => ?_)
    | with_reducible refine po_bind_cond (fun _ => ?_) (fun _ => ?_)
    | with_reducible refine po_bl (fun _ _ => ?_))
theorem fl_e_Reader_takeStepNumber {P : Nat → Nat → Nat} {F : Nat → Nat → Int32} {A : Nat → Nat → Nat → Int32} {J : Nat → Nat → Nat → Int64} {x1 : Int32}  (h : FLh d F0 A0 F A) : po (e_Reader_takeStepNumber P F A J x1) (fun r => FLh d F0 A0 r.2.2.1 r.2.2.2.1) := by
  unfold e_Reader_takeStepNumber
  repeat' (first
    | with_reducible exact po_some (by assumption)
    | (with_reducible refine fl_pf (by assumption) (by decide) ?_; intro _ _)
    | (with_reducible refine fl_st (by assumption) (by decide) ?_; intro _ _)
    | with_reducible exact fl_e_Reader_takeStepNumber_23 (by assumption)
    | (with_reducible refine po_call (fl_e_Reader_takeStepNumber_23 (by assumption)) ?_; rintro ⟨_, _, _, _, _⟩ _; try dsimp only)
    | with_reducible refine po_cond (fun _ => ?_) (fun _ => ?_)
    | with_reducible refine po_bind_cond (fun _ => ?_) (fun _ => ?_)
    | with_reducible refine po_bl (fun _ _ => ?_))
theorem fl_e_Reader_readMan {n : Nat} {P : Nat → Nat → Nat} {F : Nat → Nat → Int32} {A : Nat → Nat → Nat → Int32} {J : Nat → Nat → Nat → Int64}  (h : FLh d F0 A0 F A) : po (e_Reader_readMan n P F A J) (fun r => FLh d F0 A0 r.2.2.1 r.2.2.2.1) := by
  unfold e_Reader_readMan
  repeat' (first
    | with_reducible exact po_some (by assumption)
    | (with_reducible refine fl_pf (by assumption) (by decide) ?_; intro _ _)
    | (with_reducible refine fl_st (by assumption) (by decide) ?_; intro _ _)
    | with_reducible exact fl_e_Reader_takeFirst (by assumption)
    | (with_reducible refine po_call (fl_e_Reader_takeFirst (by assumption)) ?_; rintro ⟨_, _, _, _, _⟩ _; try dsimp only)
    | with_reducible exact fl_e_Reader_takeNewName_v3 (by assumption)
    | (with_reducible refine po_call (fl_e_Reader_takeNewName_v3 (by assumption)) ?_; rintro ⟨_, _, _, _, _⟩ _; try dsimp only)
    | with_reducible exact fl_e_Reader_takeKnownName (by assumption)
    | (with_reducible refine po_call (fl_e_Reader_takeKnownName (by assumption)) ?_; rintro ⟨_, _, _, _, _⟩ _; try dsimp only)
    | with_reducible exact fl_e_Reader_readMan_92 (by assumption)
    | (with_reducible refine po_call (fl_e_Reader_readMan_92 (by assumption)) ?_; rintro ⟨_, _, _, _, _⟩ _; try dsimp only)
    | with_reducible exact fl_e_Reader_take (by assumption)
    | (with_reducible refine po_call (fl_e_Reader_take (by assumption)) ?_; rintro ⟨_, _, _, _, _⟩ _; try dsimp only)
    | with_reducible exact fl_e_Reader_takeKnownName_v1 (by assumption)
    | (with_reducible refine po_call (fl_e_Reader_takeKnownName_v1 (by assumption)) ?_; rintro ⟨_, _, _, _, _⟩ _; try dsimp only)
    | with_reducible exact fl_e_Reader_takeStepNumber (by assumption)
    | (with_reducible refine po_call (fl_e_Reader_takeStepNumber (by assumption)) ?_; rintro ⟨_, _, _, _, _⟩ _; try dsimp only)
    | with_reducible refine po_cond (fun _ => ?_) (fun _ => ?_)
    | with_reducible refine po_bind_cond (fun _ => ?_) (fun _ => ?_)
    | with_reducible refine po_bl (fun _ _ => ?_))
theorem fl_e_Reader_readNight {P : Nat → Nat → Nat} {F : Nat → Nat → Int32} {A : Nat → Nat → Nat → Int32} {J : Nat → Nat → Nat → Int64}  (h : FLh d F0 A0 F A) : po (e_Reader_readNight P F A J) (fun r => FLh d F0 A0 r.2.2.1 r.2.2.2.1) := by
  unfold e_Reader_readNight
  repeat' (first
    | with_reducible exact po_some (by assumption)
    | (with_reducible refine fl_pf (by assumption) (by decide) ?_; intro _ _)
    | (with_reducible refine fl_st (by assumption) (by decide) ?_; intro _ _)
    | with_reducible exact fl_e_Reader_take (by assumption)
    | (with_reducible refine po_call (fl_e_Reader_take (by assumption)) ?_; rintro ⟨_, _, _, _, _⟩ _; try dsimp only)
    | with_reducible exact fl_e_Reader_takeNumber (by assumption)
    | (with_reducible refine po_call (fl_e_Reader_takeNumber (by assumption)) ?_; rintro ⟨_, _, _, _, _⟩ _; try dsimp only)
    | with_reducible refine po_cond (fun _ => ?_) (fun _ => ?_)
    | with_reducible refine po_bind_cond (fun _ => ?_) (fun _ => ?_)
    | with_reducible refine po_bl (fun _ _ => ?_))
theorem fl_e_Reader_takeNewName_101 {n : Nat} {P : Nat → Nat → Nat} {F : Nat → Nat → Int32} {A : Nat → Nat → Nat → Int32} {J : Nat → Nat → Nat → Int64} {x2 : Int32} {x3 : Int64}  (h : FLh d F0 A0 F A) : po (e_Reader_takeNewName_101 n P F A J x2 x3) (fun r => FLh d F0 A0 r.2.2.1 r.2.2.2.1) := by
  unfold e_Reader_takeNewName_101
  repeat' (first
    | with_reducible exact po_some (by assumption)
    | (with_reducible refine fl_pf (by assumption) (by decide) ?_; intro _ _)
    | (with_reducible refine fl_st (by assumption) (by decide) ?_; intro _ _)
    | with_reducible exact fl_e_Reader_failLate (by assumption)
    | (with_reducible refine po_call (fl_e_Reader_failLate (by assumption)) ?_; rintro ⟨_, _, _, _, _⟩ _; try dsimp only)
    | with_reducible refine po_cond (fun _ => ?_) (fun _ => ?_)
    | with_reducible refine po_bind_cond (fun _ => ?_) (fun _ => ?_)
    | with_reducible refine po_bl (fun _ _ => ?_))
theorem fl_e_Reader_takeNewName_106 {n : Nat} {P : Nat → Nat → Nat} {F : Nat → Nat → Int32} {A : Nat → Nat → Nat → Int32} {J : Nat → Nat → Nat → Int64} {x2 : Int32} {x3 : Int64}  (h : FLh d F0 A0 F A) : po (e_Reader_takeNewName_106 n P F A J x2 x3) (fun r => FLh d F0 A0 r.2.2.1 r.2.2.2.1) := by
  unfold e_Reader_takeNewName_106
  repeat' (first
    | with_reducible exact po_some (by assumption)
    | (with_reducible refine fl_pf (by assumption) (by decide) ?_; intro _ _)
    | (with_reducible refine fl_st (by assumption) (by decide) ?_; intro _ _)
    | with_reducible refine po_cond (fun _ => ?_) (fun _ => ?_)
    | with_reducible refine po_bind_cond (fun _ => ?_) (fun _ => ?_)
    | with_reducible refine po_bl (fun _ _ => ?_))
theorem fl_e_Reader_takeNewName {n : Nat} {P : Nat → Nat → Nat} {F : Nat → Nat → Int32} {A : Nat → Nat → Nat → Int32} {J : Nat → Nat → Nat → Int64} {x2 : Int32}  (h : FLh d F0 A0 F A) : po (e_Reader_takeNewName n P F A J x2) (fun r => FLh d F0 A0 r.2.2.1 r.2.2.2.1) := by
  unfold e_Reader_takeNewName
  repeat' (first
    | with_reducible exact po_some (by assumption)
    | (with_reducible refine fl_pf (by assumption) (by decide) ?_; intro _ _)
    | (with_reducible refine fl_st (by assumption) (by decide) ?_; intro _ _)
    | with_reducible exact fl_e_Reader_take (by assumption)
    | (with_reducible refine po_call (fl_e_Reader_take (by assumption)) ?_; rintro ⟨_, _, _, _, _⟩ _; try dsimp only)
    | with_reducible exact fl_e_Reader_takeNewName_101 (by assumption)
    | (with_reducible refine po_call (fl_e_Reader_takeNewName_101 (by assumption)) ?_; rintro ⟨_, _, _, _, _⟩ _; try dsimp only)
    | with_reducible exact fl_e_Reader_takeNewName_106 (by assumption)
    | (with_reducible refine po_call (fl_e_Reader_takeNewName_106 (by assumption)) ?_; rintro ⟨_, _, _, _, _⟩ _; try dsimp only)
    | with_reducible refine po_cond (fun _ => ?_) (fun _ => ?_)
    | with_reducible refine po_bind_cond (fun _ => ?_) (fun _ => ?_)
    | with_reducible refine po_bl (fun _ _ => ?_))
theorem fl_e_Reader_readRoom {n : Nat} {P : Nat → Nat → Nat} {F : Nat → Nat → Int32} {A : Nat → Nat → Nat → Int32} {J : Nat → Nat → Nat → Int64}  (h : FLh d F0 A0 F A) : po (e_Reader_readRoom n P F A J) (fun r => FLh d F0 A0 r.2.2.1 r.2.2.2.1) := by
  unfold e_Reader_readRoom
  repeat' (first
    | with_reducible exact po_some (by assumption)
    | (with_reducible refine fl_pf (by assumption) (by decide) ?_; intro _ _)
    | (with_reducible refine fl_st (by assumption) (by decide) ?_; intro _ _)
    | with_reducible exact fl_e_Reader_takeFirst (by assumption)
    | (with_reducible refine po_call (fl_e_Reader_takeFirst (by assumption)) ?_; rintro ⟨_, _, _, _, _⟩ _; try dsimp only)
    | with_reducible exact fl_e_Reader_takeNewName (by assumption)
    | (with_reducible refine po_call (fl_e_Reader_takeNewName (by assumption)) ?_; rintro ⟨_, _, _, _, _⟩ _; try dsimp only)
    | with_reducible exact fl_e_Reader_take (by assumption)
    | (with_reducible refine po_call (fl_e_Reader_take (by assumption)) ?_; rintro ⟨_, _, _, _, _⟩ _; try dsimp only)
    | with_reducible refine po_cond (fun _ => ?_) (fun _ => ?_)
    | with_reducible refine po_bind_cond (fun _ => ?_) (fun _ => ?_)
    | with_reducible refine po_bl (fun _ _ => ?_))
theorem fl_e_Reader_takeTaskOfStep_57 {n : Nat} {P : Nat → Nat → Nat} {F : Nat → Nat → Int32} {A : Nat → Nat → Nat → Int32} {J : Nat → Nat → Nat → Int64} {x1 : Int32} {x2 : Int32}  (h : FLh d F0 A0 F A) : po (e_Reader_takeTaskOfStep_57 n P F A J x1 x2) (fun r => FLh d F0 A0 r.2.2.1 r.2.2.2.1) := by
  unfold e_Reader_takeTaskOfStep_57
  repeat' (first
    | with_reducible exact po_some (by assumption)
    | (with_reducible refine fl_pf (by assumption) (by decide) ?_; intro _ _)
    | (with_reducible refine fl_st (by assumption) (by decide) ?_; intro _ _)
    | with_reducible exact fl_e_Reader_takeKnownName_v1 (by assumption)
    | (with_reducible refine po_call (fl_e_Reader_takeKnownName_v1 (by assumption)) ?_; rintro ⟨_, _, _, _, _⟩ _; try dsimp only)
    | with_reducible exact fl_e_Reader_fail (by assumption)
    | (with_reducible refine po_call (fl_e_Reader_fail (by assumption)) ?_; rintro ⟨_, _, _, _, _⟩ _; try dsimp only)
    | with_reducible refine po_cond (fun _ => ?_) (fun _ => ?_)
    | with_reducible refine po_bind_cond (fun _ => ?_) (fun _ => ?_)
    | with_reducible refine po_bl (fun _ _ => ?_))
theorem fl_e_Reader_takeTaskOfStep {n : Nat} {P : Nat → Nat → Nat} {F : Nat → Nat → Int32} {A : Nat → Nat → Nat → Int32} {J : Nat → Nat → Nat → Int64}  (h : FLh d F0 A0 F A) : po (e_Reader_takeTaskOfStep n P F A J) (fun r => FLh d F0 A0 r.2.2.1 r.2.2.2.1) := by
  unfold e_Reader_takeTaskOfStep
  repeat' (first
    | with_reducible exact po_some (by assumption)
    | (with_reducible refine fl_pf (by assumption) (by decide) ?_; intro _ _)
    | (with_reducible refine fl_st (by assumption) (by decide) ?_; intro _ _)
    | with_reducible exact fl_e_Reader_take (by assumption)
    | (with_reducible refine po_call (fl_e_Reader_take (by assumption)) ?_; rintro ⟨_, _, _, _, _⟩ _; try dsimp only)
    | with_reducible exact fl_e_Reader_takeTaskOfStep_57 (by assumption)
    | (with_reducible refine po_call (fl_e_Reader_takeTaskOfStep_57 (by assumption)) ?_; rintro ⟨_, _, _, _, _⟩ _; try dsimp only)
    | with_reducible refine po_cond (fun _ => ?_) (fun _ => ?_)
    | with_reducible refine po_bind_cond (fun _ => ?_) (fun _ => ?_)
    | with_reducible refine po_bl (fun _ _ => ?_))
theorem fl_e_Reader_readStep_107 {n : Nat} {P : Nat → Nat → Nat} {F : Nat → Nat → Int32} {A : Nat → Nat → Nat → Int32} {J : Nat → Nat → Nat → Int64} {x1 : Int32} {x2 : Int32} {x3 : Int32} {x4 : Int32} {x5 : Int32} {x6 : Int32} {x7 : Int32}  (h : FLh d F0 A0 F A) : po (e_Reader_readStep_107 n P F A J x1 x2 x3 x4 x5 x6 x7) (fun r => FLh d F0 A0 r.2.2.1 r.2.2.2.1) := by
  unfold e_Reader_readStep_107
  repeat' (first
    | with_reducible exact po_some (by assumption)
    | (with_reducible refine fl_pf (by assumption) (by decide) ?_; intro _ _)
    | (with_reducible refine fl_st (by assumption) (by decide) ?_; intro _ _)
    | with_reducible exact fl_e_Reader_take (by assumption)
    | (with_reducible refine po_call (fl_e_Reader_take (by assumption)) ?_; rintro ⟨_, _, _, _, _⟩ _; try dsimp only)
    | with_reducible refine po_cond (fun _ => ?_) (fun _ => ?_)
    | with_reducible refine po_bind_cond (fun _ => ?_) (fun _ => ?_)
    | with_reducible refine po_bl (fun _ _ => ?_))
theorem fl_e_Reader_readStep_78 {n : Nat} {P : Nat → Nat → Nat} {F : Nat → Nat → Int32} {A : Nat → Nat → Nat → Int32} {J : Nat → Nat → Nat → Int64} {x1 : Int32} {x2 : Int32} {x3 : Int32} {x4 : Int32} {x5 : Int32} {x6 : Int32}  (h : FLh d F0 A0 F A) : po (e_Reader_readStep_78 n P F A J x1 x2 x3 x4 x5 x6) (fun r => FLh d F0 A0 r.2.2.1 r.2.2.2.1) := by
  unfold e_Reader_readStep_78
  repeat' (first
    | with_reducible exact po_some (by assumption)
    | (with_reducible refine fl_pf (by assumption) (by decide) ?_; intro _ _)
    | (with_reducible refine fl_st (by assumption) (by decide) ?_; intro _ _)
    | with_reducible exact fl_e_Reader_readStep_107 (by assumption)
    | (with_reducible refine po_call (fl_e_Reader_readStep_107 (by assumption)) ?_; rintro ⟨_, _, _, _, _⟩ _; try dsimp only)
    | with_reducible exact fl_e_Reader_take (by assumption)
    | (with_reducible refine po_call (fl_e_Reader_take (by assumption)) ?_; rintro ⟨_, _, _, _, _⟩ _; try dsimp only)
    | with_reducible exact fl_e_Reader_takeStepNumber (by assumption)
    | (with_reducible refine po_call (fl_e_Reader_takeStepNumber (by assumption)) ?_; rintro ⟨_, _, _, _, _⟩ _; try dsimp only)
    | with_reducible refine po_cond (fun _ => ?_) (fun _ => ?_)
    | with_reducible refine po_bind_cond (fun _ => ?_) (fun _ => ?_)
    | with_reducible refine po_bl (fun _ _ => ?_))
theorem fl_e_Reader_takeKnownName_v2 {n : Nat} {P : Nat → Nat → Nat} {F : Nat → Nat → Int32} {A : Nat → Nat → Nat → Int32} {J : Nat → Nat → Nat → Int64} {x2 : Int32}  (h : FLh d F0 A0 F A) : po (e_Reader_takeKnownName_v2 n P F A J x2) (fun r => FLh d F0 A0 r.2.2.1 r.2.2.2.1) := by
  unfold e_Reader_takeKnownName_v2
  repeat' (first
    | with_reducible exact po_some (by assumption)
    | (with_reducible refine fl_pf (by assumption) (by decide) ?_; intro _ _)
    | (with_reducible refine fl_st (by assumption) (by decide) ?_; intro _ _)
    | with_reducible exact fl_e_Reader_take (by assumption)
    | (with_reducible refine po_call (fl_e_Reader_take (by assumption)) ?_; rintro ⟨_, _, _, _, _⟩ _; try dsimp only)
    | with_reducible exact fl_e_Reader_failLate (by assumption)
    | (with_reducible refine po_call (fl_e_Reader_failLate (by assumption)) ?_; rintro ⟨_, _, _, _, _⟩ _; try dsimp only)
    | with_reducible refine po_cond (fun _ => ?_) (fun _ => ?_)
    | with_reducible refine po_bind_cond (fun _ => ?_) (fun _ => ?_)
    | with_reducible refine po_bl (fun _ _ => ?_))
theorem fl_e_Reader_readStep {n : Nat} {P : Nat → Nat → Nat} {F : Nat → Nat → Int32} {A : Nat → Nat → Nat → Int32} {J : Nat → Nat → Nat → Int64}  (h : FLh d F0 A0 F A) : po (e_Reader_readStep n P F A J) (fun r => FLh d F0 A0 r.2.2.1 r.2.2.2.1) := by
  unfold e_Reader_readStep
  repeat' (first
    | with_reducible exact po_some (by assumption)
    | (with_reducible refine fl_pf (by assumption) (by decide) ?_; intro _ _)
    | (with_reducible refine fl_st (by assumption) (by decide) ?_; intro _ _)
    | with_reducible exact fl_e_Reader_takeTaskOfStep (by assumption)
    | (with_reducible refine po_call (fl_e_Reader_takeTaskOfStep (by assumption)) ?_; rintro ⟨_, _, _, _, _⟩ _; try dsimp only)
    | with_reducible exact fl_e_Reader_takeNumber (by assumption)
    | (with_reducible refine po_call (fl_e_Reader_takeNumber (by assumption)) ?_; rintro ⟨_, _, _, _, _⟩ _; try dsimp only)
    | with_reducible exact fl_e_Reader_readStep_78 (by assumption)
    | (with_reducible refine po_call (fl_e_Reader_readStep_78 (by assumption)) ?_; rintro ⟨_, _, _, _, _⟩ _; try dsimp only)
    | with_reducible exact fl_e_Reader_take (by assumption)
    | (with_reducible refine po_call (fl_e_Reader_take (by assumption)) ?_; rintro ⟨_, _, _, _, _⟩ _; try dsimp only)
    | with_reducible exact fl_e_Reader_takeKnownName_v2 (by assumption)
    | (with_reducible refine po_call (fl_e_Reader_takeKnownName_v2 (by assumption)) ?_; rintro ⟨_, _, _, _, _⟩ _; try dsimp only)
    | with_reducible refine po_cond (fun _ => ?_) (fun _ => ?_)
    | with_reducible refine po_bind_cond (fun _ => ?_) (fun _ => ?_)
    | with_reducible refine po_bl (fun _ _ => ?_))
theorem fl_e_Reader_takeNewName_v2_101 {n : Nat} {P : Nat → Nat → Nat} {F : Nat → Nat → Int32} {A : Nat → Nat → Nat → Int32} {J : Nat → Nat → Nat → Int64} {x2 : Int32} {x3 : Int64}  (h : FLh d F0 A0 F A) : po (e_Reader_takeNewName_v2_101 n P F A J x2 x3) (fun r => FLh d F0 A0 r.2.2.1 r.2.2.2.1) := by
  unfold e_Reader_takeNewName_v2_101
  repeat' (first
    | with_reducible exact po_some (by assumption)
    | (with_reducible refine fl_pf (by assumption) (by decide) ?_; intro _ _)
    | (with_reducible refine fl_st (by assumption) (by decide) ?_; intro _ _)
    | with_reducible exact fl_e_Reader_failLate (by assumption)
    | (with_reducible refine po_call (fl_e_Reader_failLate (by assumption)) ?_; rintro ⟨_, _, _, _, _⟩ _; try dsimp only)
    | with_reducible refine po_cond (fun _ => ?_) (fun _ => ?_)
    | with_reducible refine po_bind_cond (fun _ => ?_) (fun _ => ?_)
    | with_reducible refine po_bl (fun _ _ => ?_))
theorem fl_e_Reader_takeNewName_v2_106 {n : Nat} {P : Nat → Nat → Nat} {F : Nat → Nat → Int32} {A : Nat → Nat → Nat → Int32} {J : Nat → Nat → Nat → Int64} {x2 : Int32} {x3 : Int64}  (h : FLh d F0 A0 F A) : po (e_Reader_takeNewName_v2_106 n P F A J x2 x3) (fun r => FLh d F0 A0 r.2.2.1 r.2.2.2.1) := by
  unfold e_Reader_takeNewName_v2_106
  repeat' (first
    | with_reducible exact po_some (by assumption)
    | (with_reducible refine fl_pf (by assumption) (by decide) ?_; intro _ _)
    | (with_reducible refine fl_st (by assumption) (by decide) ?_; intro _ _)
    | with_reducible refine po_cond (fun _ => ?_) (fun _ => ?_)
    | with_reducible refine po_bind_cond (fun _ => ?_) (fun _ => ?_)
    | with_reducible refine po_bl (fun _ _ => ?_))
theorem fl_e_Reader_takeNewName_v2 {n : Nat} {P : Nat → Nat → Nat} {F : Nat → Nat → Int32} {A : Nat → Nat → Nat → Int32} {J : Nat → Nat → Nat → Int64} {x2 : Int32}  (h : FLh d F0 A0 F A) : po (e_Reader_takeNewName_v2 n P F A J x2) (fun r => FLh d F0 A0 r.2.2.1 r.2.2.2.1) := by
  unfold e_Reader_takeNewName_v2
  repeat' (first
    | with_reducible exact po_some (by assumption)
    | (with_reducible refine fl_pf (by assumption) (by decide) ?_; intro _ _)
    | (with_reducible refine fl_st (by assumption) (by decide) ?_; intro _ _)
    | with_reducible exact fl_e_Reader_take (by assumption)
    | (with_reducible refine po_call (fl_e_Reader_take (by assumption)) ?_; rintro ⟨_, _, _, _, _⟩ _; try dsimp only)
    | with_reducible exact fl_e_Reader_takeNewName_v2_101 (by assumption)
    | (with_reducible refine po_call (fl_e_Reader_takeNewName_v2_101 (by assumption)) ?_; rintro ⟨_, _, _, _, _⟩ _; try dsimp only)
    | with_reducible exact fl_e_Reader_takeNewName_v2_106 (by assumption)
    | (with_reducible refine po_call (fl_e_Reader_takeNewName_v2_106 (by assumption)) ?_; rintro ⟨_, _, _, _, _⟩ _; try dsimp only)
    | with_reducible refine po_cond (fun _ => ?_) (fun _ => ?_)
    | with_reducible refine po_bind_cond (fun _ => ?_) (fun _ => ?_)
    | with_reducible refine po_bl (fun _ _ => ?_))
theorem fl_e_Reader_readTask {n : Nat} {P : Nat → Nat → Nat} {F : Nat → Nat → Int32} {A : Nat → Nat → Nat → Int32} {J : Nat → Nat → Nat → Int64}  (h : FLh d F0 A0 F A) : po (e_Reader_readTask n P F A J) (fun r => FLh d F0 A0 r.2.2.1 r.2.2.2.1) := by
  unfold e_Reader_readTask
  repeat' (first
    | with_reducible exact po_some (by assumption)
    | (with_reducible refine fl_pf (by assumption) (by decide) ?_; intro _ _)
    | (with_reducible refine fl_st (by assumption) (by decide) ?_; intro _ _)
    | with_reducible exact fl_e_Reader_takeFirst (by assumption)
    | (with_reducible refine po_call (fl_e_Reader_takeFirst (by assumption)) ?_; rintro ⟨_, _, _, _, _⟩ _; try dsimp only)
    | with_reducible exact fl_e_Reader_takeNewName_v2 (by assumption)
    | (with_reducible refine po_call (fl_e_Reader_takeNewName_v2 (by assumption)) ?_; rintro ⟨_, _, _, _, _⟩ _; try dsimp only)
    | with_reducible exact fl_e_Reader_takeKnownName (by assumption)
    | (with_reducible refine po_call (fl_e_Reader_takeKnownName (by assumption)) ?_; rintro ⟨_, _, _, _, _⟩ _; try dsimp only)
    | with_reducible exact fl_e_Reader_takeNumber (by assumption)
    | (with_reducible refine po_call (fl_e_Reader_takeNumber (by assumption)) ?_; rintro ⟨_, _, _, _, _⟩ _; try dsimp only)
    | with_reducible exact fl_e_Reader_take (by assumption)
    | (with_reducible refine po_call (fl_e_Reader_take (by assumption)) ?_; rintro ⟨_, _, _, _, _⟩ _; try dsimp only)
    | with_reducible refine po_cond (fun _ => ?_) (fun _ => ?_)
    | with_reducible refine po_bind_cond (fun _ => ?_) (fun _ => ?_)
    | with_reducible refine po_bl (fun _ _ => ?_))
theorem fl_e_Reader_takeNewName_v1_101 {n : Nat} {P : Nat → Nat → Nat} {F : Nat → Nat → Int32} {A : Nat → Nat → Nat → Int32} {J : Nat → Nat → Nat → Int64} {x2 : Int32} {x3 : Int64}  (h : FLh d F0 A0 F A) : po (e_Reader_takeNewName_v1_101 n P F A J x2 x3) (fun r => FLh d F0 A0 r.2.2.1 r.2.2.2.1) := by
  unfold e_Reader_takeNewName_v1_101
  repeat' (first
    | with_reducible exact po_some (by assumption)
    | (with_reducible refine fl_pf (by assumption) (by decide) ?_; intro _ _)
    | (with_reducible refine fl_st (by assumption) (by decide) ?_; intro _ _)
    | with_reducible exact fl_e_Reader_failLate (by assumption)
    | (with_reducible refine po_call (fl_e_Reader_failLate (by assumption)) ?_; rintro ⟨_, _, _, _, _⟩ _; try dsimp only)
    | with_reducible refine po_cond (fun _ => ?_) (fun _ => ?_)
    | with_reducible refine po_bind_cond (fun _ => ?_) (fun _ => ?_)
    | with_reducible refine po_bl (fun _ _ => ?_))
theorem fl_e_Reader_takeNewName_v1_106 {n : Nat} {P : Nat → Nat → Nat} {F : Nat → Nat → Int32} {A : Nat → Nat → Nat → Int32} {J : Nat → Nat → Nat → Int64} {x2 : Int32} {x3 : Int64}  (h : FLh d F0 A0 F A) : po (e_Reader_takeNewName_v1_106 n P F A J x2 x3) (fun r => FLh d F0 A0 r.2.2.1 r.2.2.2.1) := by
  unfold e_Reader_takeNewName_v1_106
  repeat' (first
    | with_reducible exact po_some (by assumption)
    | (with_reducible refine fl_pf (by assumption) (by decide) ?_; intro _ _)
    | (with_reducible refine fl_st (by assumption) (by decide) ?_; intro _ _)
    | with_reducible refine po_cond (fun _ => ?_) (fun _ => ?_)
    | with_reducible refine po_bind_cond (fun _ => ?_) (fun _ => ?_)
    | with_reducible refine po_bl (fun _ _ => ?_))
theorem fl_e_Reader_takeNewName_v1 {n : Nat} {P : Nat → Nat → Nat} {F : Nat → Nat → Int32} {A : Nat → Nat → Nat → Int32} {J : Nat → Nat → Nat → Int64} {x2 : Int32}  (h : FLh d F0 A0 F A) : po (e_Reader_takeNewName_v1 n P F A J x2) (fun r => FLh d F0 A0 r.2.2.1 r.2.2.2.1) := by
  unfold e_Reader_takeNewName_v1
  repeat' (first
    | with_reducible exact po_some (by assumption)
    | (with_reducible refine fl_pf (by assumption) (by decide) ?_; intro _ _)
    | (with_reducible refine fl_st (by assumption) (by decide) ?_; intro _ _)
    | with_reducible exact fl_e_Reader_take (by assumption)
    | (with_reducible refine po_call (fl_e_Reader_take (by assumption)) ?_; rintro ⟨_, _, _, _, _⟩ _; try dsimp only)
    | with_reducible exact fl_e_Reader_takeNewName_v1_101 (by assumption)
    | (with_reducible refine po_call (fl_e_Reader_takeNewName_v1_101 (by assumption)) ?_; rintro ⟨_, _, _, _, _⟩ _; try dsimp only)
    | with_reducible exact fl_e_Reader_takeNewName_v1_106 (by assumption)
    | (with_reducible refine po_call (fl_e_Reader_takeNewName_v1_106 (by assumption)) ?_; rintro ⟨_, _, _, _, _⟩ _; try dsimp only)
    | with_reducible refine po_cond (fun _ => ?_) (fun _ => ?_)
    | with_reducible refine po_bind_cond (fun _ => ?_) (fun _ => ?_)
    | with_reducible refine po_bl (fun _ _ => ?_))
theorem fl_e_Reader_readTool {n : Nat} {P : Nat → Nat → Nat} {F : Nat → Nat → Int32} {A : Nat → Nat → Nat → Int32} {J : Nat → Nat → Nat → Int64}  (h : FLh d F0 A0 F A) : po (e_Reader_readTool n P F A J) (fun r => FLh d F0 A0 r.2.2.1 r.2.2.2.1) := by
  unfold e_Reader_readTool
  repeat' (first
    | with_reducible exact po_some (by assumption)
    | (with_reducible refine fl_pf (by assumption) (by decide) ?_; intro _ _)
    | (with_reducible refine fl_st (by assumption) (by decide) ?_; intro _ _)
    | with_reducible exact fl_e_Reader_takeFirst (by assumption)
    | (with_reducible refine po_call (fl_e_Reader_takeFirst (by assumption)) ?_; rintro ⟨_, _, _, _, _⟩ _; try dsimp only)
    | with_reducible exact fl_e_Reader_takeNewName_v1 (by assumption)
    | (with_reducible refine po_call (fl_e_Reader_takeNewName_v1 (by assumption)) ?_; rintro ⟨_, _, _, _, _⟩ _; try dsimp only)
    | with_reducible exact fl_e_Reader_takeKnownName (by assumption)
    | (with_reducible refine po_call (fl_e_Reader_takeKnownName (by assumption)) ?_; rintro ⟨_, _, _, _, _⟩ _; try dsimp only)
    | with_reducible exact fl_e_Reader_take (by assumption)
    | (with_reducible refine po_call (fl_e_Reader_take (by assumption)) ?_; rintro ⟨_, _, _, _, _⟩ _; try dsimp only)
    | with_reducible refine po_cond (fun _ => ?_) (fun _ => ?_)
    | with_reducible refine po_bind_cond (fun _ => ?_) (fun _ => ?_)
    | with_reducible refine po_bl (fun _ _ => ?_))
theorem fm_d_fail {F : Nat → Int32} {A : Nat → Nat → Int32} {J : Nat → Nat → Int64} {x1 : Int32}  (h : FMh Fr Ar F A) : po (d_fail F A J x1) (fun r => FMh Fr Ar r.2.1 r.2.2.1) := by
  unfold d_fail
  repeat' (first
    | with_reducible exact po_some (by assumption)
    | (with_reducible refine fm_pf (by assumption) (by decide) ?_; intro _ _)
    | (with_reducible refine fm_st (by assumption) (by decide) ?_; intro _ _)
    | with_reducible refine po_cond (fun _ => ?_) (fun _ => ?_)
    | with_reducible refine po_bind_cond (fun _ => ?_) (fun _ => ?_)
    | with_reducible refine po_bl (fun _ _ => ?_))
theorem fm_d_goesOn {F : Nat → Int32} {A : Nat → Nat → Int32} {J : Nat → Nat → Int64}  (h : FMh Fr Ar F A) : po (d_goesOn F A J) (fun r => FMh Fr Ar r.2.1 r.2.2.1) := by
  unfold d_goesOn
  repeat' (first
    | with_reducible exact po_some (by assumption)
    | (with_reducible refine fm_pf (by assumption) (by decide) ?_; intro _ _)
    | (with_reducible refine fm_st (by assumption) (by decide) ?_; intro _ _)
    | with_reducible exact fm_d_fail (by assumption)
    | (with_reducible refine po_call (fm_d_fail (by assumption)) ?_; rintro ⟨_, _, _, _⟩ _; try dsimp only)
    | with_reducible refine po_cond (fun _ => ?_) (fun _ => ?_)
    | with_reducible refine po_bind_cond (fun _ => ?_) (fun _ => ?_)
    | with_reducible refine po_bl (fun _ _ => ?_))
theorem fm_d_must {F : Nat → Int32} {A : Nat → Nat → Int32} {J : Nat → Nat → Int64} {x1 : Int32}  (h : FMh Fr Ar F A) : po (d_must F A J x1) (fun r => FMh Fr Ar r.2.1 r.2.2.1) := by
  unfold d_must
  repeat' (first
    | with_reducible exact po_some (by assumption)
    | (with_reducible refine fm_pf (by assumption) (by decide) ?_; intro _ _)
    | (with_reducible refine fm_st (by assumption) (by decide) ?_; intro _ _)
    | with_reducible exact fm_d_fail (by assumption)
    | (with_reducible refine po_call (fm_d_fail (by assumption)) ?_; rintro ⟨_, _, _, _⟩ _; try dsimp only)
    | with_reducible exact fm_d_goesOn (by assumption)
    | (with_reducible refine po_call (fm_d_goesOn (by assumption)) ?_; rintro ⟨_, _, _, _⟩ _; try dsimp only)
    | with_reducible refine po_cond (fun _ => ?_) (fun _ => ?_)
    | with_reducible refine po_bind_cond (fun _ => ?_) (fun _ => ?_)
    | with_reducible refine po_bl (fun _ _ => ?_))
theorem fm_d_named_49 {K12 : (Nat → Int32) → (Nat → Nat → Int32) → (Nat → Nat → Int64) → Int32 → Int32 → Option (Int32 × (Nat → Int32) × (Nat → Nat → Int32) × (Nat → Nat → Int64))} {n : Nat} {F : Nat → Int32} {A : Nat → Nat → Int32} {J : Nat → Nat → Int64} {x1 : Int32} {x2 : Int32} (hK12 : ∀ (a0 : Nat → Int32) (a1 : Nat → Nat → Int32) (a2 : Nat → Nat → Int64) (a3 : Int32) (a4 : Int32), FMh Fr Ar a0 a1 → po (K12 a0 a1 a2 a3 a4) (fun r => FMh Fr Ar r.2.1 r.2.2.1)) (h : FMh Fr Ar F A) : po (d_named_49 K12 n F A J x1 x2) (fun r => FMh Fr Ar r.2.1 r.2.2.1) := by
  unfold d_named_49
  repeat' (first
    | with_reducible exact po_some (by assumption)
    | (with_reducible refine fm_pf (by assumption) (by decide) ?_; intro _ _)
    | (with_reducible refine fm_st (by assumption) (by decide) ?_; intro _ _)
    | with_reducible exact hK12 _ _ _ _ _ (by assumption)
    | (intros; with_reducible exact hK12 _ _ _ _ _ (by assumption))
    | with_reducible refine po_cond (fun _ => ?_) (fun _ => ?_)
    | with_reducible refine po_bind_cond (fun _ => ?_) (fun _ => ?_)
    | with_reducible refine po_bl (fun _ _ => ?_))
theorem fm_d_wrong_46 {F : Nat → Int32} {A : Nat → Nat → Int32} {J : Nat → Nat → Int64} {x1 : Int32} {x3 : Int32}  (h : FMh Fr Ar F A) : po (d_wrong_46 F A J x1 x3) (fun r => FMh Fr Ar r.2.1 r.2.2.1) := by
  unfold d_wrong_46
  repeat' (first
    | with_reducible exact po_some (by assumption)
    | (with_reducible refine fm_pf (by assumption) (by decide) ?_; intro _ _)
    | (with_reducible refine fm_st (by assumption) (by decide) ?_; intro _ _)
    | with_reducible refine po_cond (fun _ => ?_) (fun _ => ?_)
    | with_reducible refine po_bind_cond (fun _ => ?_) (fun _ => ?_)
    | with_reducible refine po_bl (fun _ _ => ?_))
theorem fm_d_wrong {F : Nat → Int32} {A : Nat → Nat → Int32} {J : Nat → Nat → Int64} {x1 : Int32} {x2 : Int32}  (h : FMh Fr Ar F A) : po (d_wrong F A J x1 x2) (fun r => FMh Fr Ar r.2.1 r.2.2.1) := by
  unfold d_wrong
  repeat' (first
    | with_reducible exact po_some (by assumption)
    | (with_reducible refine fm_pf (by assumption) (by decide) ?_; intro _ _)
    | (with_reducible refine fm_st (by assumption) (by decide) ?_; intro _ _)
    | with_reducible exact fm_d_wrong_46 (by assumption)
    | (with_reducible refine po_call (fm_d_wrong_46 (by assumption)) ?_; rintro ⟨_, _, _, _⟩ _; try dsimp only)
    | with_reducible refine po_cond (fun _ => ?_) (fun _ => ?_)
    | with_reducible refine po_bind_cond (fun _ => ?_) (fun _ => ?_)
    | with_reducible refine po_bl (fun _ _ => ?_))
theorem fm_d_named_12   : ∀ {n : Nat} {F : Nat → Int32} {A : Nat → Nat → Int32} {J : Nat → Nat → Int64} {x1 : Int32} {x2 : Int32}, FMh Fr Ar F A → po (d_named_12  n F A J x1 x2) (fun r => FMh Fr Ar r.2.1 r.2.2.1) := by
  intro n
  induction n with
  | zero => intro F A J x1 x2 _ r hr; cases hr
  | succ n ih =>
    intro F A J x1 x2 h
    unfold d_named_12
    repeat' (first
      | with_reducible exact po_some (by assumption)
      | (with_reducible refine fm_pf (by assumption) (by decide) ?_; intro _ _)
      | (with_reducible refine fm_st (by assumption) (by decide) ?_; intro _ _)
      | with_reducible refine fm_d_named_49 ?_ (by assumption)
      | (with_reducible refine po_call (fm_d_named_49 ?_ (by assumption)) ?_)
      | with_reducible exact fm_d_wrong (by assumption)
      | (with_reducible refine po_call (fm_d_wrong (by assumption)) ?_; rintro ⟨_, _, _, _⟩ _; try dsimp only)
      | with_reducible exact ih (by assumption)
      | (with_reducible refine po_call (ih (by assumption)) ?_; rintro ⟨_, _, _, _⟩ _; try dsimp only)
      | (intros; with_reducible exact ih (by assumption))
      | with_reducible refine po_cond (fun _ => ?_) (fun _ => ?_)
      | with_reducible refine po_bind_cond (fun _ => ?_) (fun _ => ?_)
      | with_reducible refine po_bl (fun _ _ => ?_))
theorem fm_d_named {n : Nat} {F : Nat → Int32} {A : Nat → Nat → Int32} {J : Nat → Nat → Int64}  (h : FMh Fr Ar F A) : po (d_named n F A J) (fun r => FMh Fr Ar r.2.1 r.2.2.1) := by
  unfold d_named
  repeat' (first
    | with_reducible exact po_some (by assumption)
    | (with_reducible refine fm_pf (by assumption) (by decide) ?_; intro _ _)
    | (with_reducible refine fm_st (by assumption) (by decide) ?_; intro _ _)
    | with_reducible exact fm_d_must (by assumption)
    | (with_reducible refine po_call (fm_d_must (by assumption)) ?_; rintro ⟨_, _, _, _⟩ _; try dsimp only)
    | with_reducible exact fm_d_named_12 (by assumption)
    | (with_reducible refine po_call (fm_d_named_12 (by assumption)) ?_; rintro ⟨_, _, _, _⟩ _; try dsimp only)
    | with_reducible refine po_cond (fun _ => ?_) (fun _ => ?_)
    | with_reducible refine po_bind_cond (fun _ => ?_) (fun _ => ?_)
    | with_reducible refine po_bl (fun _ _ => ?_))
theorem fm_d_notes {F : Nat → Int32} {A : Nat → Nat → Int32} {J : Nat → Nat → Int64} {x1 : Int32} {x2 : Int32} {x3 : Int32}  (h : FMh Fr Ar F A) : po (d_notes F A J x1 x2 x3) (fun r => FMh Fr Ar r.2.1 r.2.2.1) := by
  unfold d_notes
  repeat' (first
    | with_reducible exact po_some (by assumption)
    | (with_reducible refine fm_pf (by assumption) (by decide) ?_; intro _ _)
    | (with_reducible refine fm_st (by assumption) (by decide) ?_; intro _ _)
    | with_reducible refine po_cond (fun _ => ?_) (fun _ => ?_)
    | with_reducible refine po_bind_cond (fun _ => ?_) (fun _ => ?_)
    | with_reducible refine po_bl (fun _ _ => ?_))
theorem fm_d_tellRoom {n : Nat} {F : Nat → Int32} {A : Nat → Nat → Int32} {J : Nat → Nat → Int64}  (h : FMh Fr Ar F A) : po (d_tellRoom n F A J) (fun r => FMh Fr Ar r.2.1 r.2.2.1) := by
  unfold d_tellRoom
  repeat' (first
    | with_reducible exact po_some (by assumption)
    | (with_reducible refine fm_pf (by assumption) (by decide) ?_; intro _ _)
    | (with_reducible refine fm_st (by assumption) (by decide) ?_; intro _ _)
    | with_reducible exact fm_d_named (by assumption)
    | (with_reducible refine po_call (fm_d_named (by assumption)) ?_; rintro ⟨_, _, _, _⟩ _; try dsimp only)
    | with_reducible exact fm_d_must (by assumption)
    | (with_reducible refine po_call (fm_d_must (by assumption)) ?_; rintro ⟨_, _, _, _⟩ _; try dsimp only)
    | with_reducible exact fm_d_notes (by assumption)
    | (with_reducible refine po_call (fm_d_notes (by assumption)) ?_; rintro ⟨_, _, _, _⟩ _; try dsimp only)
    | with_reducible refine po_cond (fun _ => ?_) (fun _ => ?_)
    | with_reducible refine po_bind_cond (fun _ => ?_) (fun _ => ?_)
    | with_reducible refine po_bl (fun _ _ => ?_))
theorem fm_d_known_62 {K21 : (Nat → Int32) → (Nat → Nat → Int32) → (Nat → Nat → Int64) → Int32 → Int32 → Int32 → Option (Int32 × (Nat → Int32) × (Nat → Nat → Int32) × (Nat → Nat → Int64))} {n : Nat} {F : Nat → Int32} {A : Nat → Nat → Int32} {J : Nat → Nat → Int64} {x1 : Int32} {x2 : Int32} {x3 : Int32} (hK21 : ∀ (a0 : Nat → Int32) (a1 : Nat → Nat → Int32) (a2 : Nat → Nat → Int64) (a3 : Int32) (a4 : Int32) (a5 : Int32), FMh Fr Ar a0 a1 → po (K21 a0 a1 a2 a3 a4 a5) (fun r => FMh Fr Ar r.2.1 r.2.2.1)) (h : FMh Fr Ar F A) : po (d_known_62 K21 n F A J x1 x2 x3) (fun r => FMh Fr Ar r.2.1 r.2.2.1) := by
  unfold d_known_62
  repeat' (first
    | with_reducible exact po_some (by assumption)
    | (with_reducible refine fm_pf (by assumption) (by decide) ?_; intro _ _)
    | (with_reducible refine fm_st (by assumption) (by decide) ?_; intro _ _)
    | with_reducible exact hK21 _ _ _ _ _ _ (by assumption)
    | (intros; with_reducible exact hK21 _ _ _ _ _ _ (by assumption))
    | with_reducible refine po_cond (fun _ => ?_) (fun _ => ?_)
    | with_reducible refine po_bind_cond (fun _ => ?_) (fun _ => ?_)
    | with_reducible refine po_bl (fun _ _ => ?_))
theorem fm_d_known_21   : ∀ {n : Nat} {F : Nat → Int32} {A : Nat → Nat → Int32} {J : Nat → Nat → Int64} {x1 : Int32} {x2 : Int32} {x3 : Int32}, FMh Fr Ar F A → po (d_known_21  n F A J x1 x2 x3) (fun r => FMh Fr Ar r.2.1 r.2.2.1) := by
  intro n
  induction n with
  | zero => intro F A J x1 x2 x3 _ r hr; cases hr
  | succ n ih =>
    intro F A J x1 x2 x3 h
    unfold d_known_21
    repeat' (first
      | with_reducible exact po_some (by assumption)
      | (with_reducible refine fm_pf (by assumption) (by decide) ?_; intro _ _)
      | (with_reducible refine fm_st (by assumption) (by decide) ?_; intro _ _)
      | with_reducible exact fm_d_wrong (by assumption)
      | (with_reducible refine po_call (fm_d_wrong (by assumption)) ?_; rintro ⟨_, _, _, _⟩ _; try dsimp only)
      | with_reducible refine fm_d_known_62 ?_ (by assumption)
      | (with_reducible refine po_call (fm_d_known_62 ?_ (by assumption)) ?_)
      | with_reducible exact ih (by assumption)
      | (with_reducible refine po_call (ih (by assumption)) ?_; rintro ⟨_, _, _, _⟩ _; try dsimp only)
      | (intros; with_reducible exact ih (by assumption))
      | with_reducible refine po_cond (fun _ => ?_) (fun _ => ?_)
      | with_reducible refine po_bind_cond (fun _ => ?_) (fun _ => ?_)
      | with_reducible refine po_bl (fun _ _ => ?_))
theorem fm_d_known {n : Nat} {F : Nat → Int32} {A : Nat → Nat → Int32} {J : Nat → Nat → Int64} {x1 : Int32}  (h : FMh Fr Ar F A) : po (d_known n F A J x1) (fun r => FMh Fr Ar r.2.1 r.2.2.1) := by
  unfold d_known
  repeat' (first
    | with_reducible exact po_some (by assumption)
    | (with_reducible refine fm_pf (by assumption) (by decide) ?_; intro _ _)
    | (with_reducible refine fm_st (by assumption) (by decide) ?_; intro _ _)
    | with_reducible exact fm_d_must (by assumption)
    | (with_reducible refine po_call (fm_d_must (by assumption)) ?_; rintro ⟨_, _, _, _⟩ _; try dsimp only)
    | with_reducible exact fm_d_known_21 (by assumption)
    | (with_reducible refine po_call (fm_d_known_21 (by assumption)) ?_; rintro ⟨_, _, _, _⟩ _; try dsimp only)
    | with_reducible refine po_cond (fun _ => ?_) (fun _ => ?_)
    | with_reducible refine po_bind_cond (fun _ => ?_) (fun _ => ?_)
    | with_reducible refine po_bl (fun _ _ => ?_))
theorem fm_d_bounded_15 {F : Nat → Int32} {A : Nat → Nat → Int32} {J : Nat → Nat → Int64} {x1 : Int32}  (h : FMh Fr Ar F A) : po (d_bounded_15 F A J x1) (fun r => FMh Fr Ar r.2.1 r.2.2.1) := by
  unfold d_bounded_15
  repeat' (first
    | with_reducible exact po_some (by assumption)
    | (with_reducible refine fm_pf (by assumption) (by decide) ?_; intro _ _)
    | (with_reducible refine fm_st (by assumption) (by decide) ?_; intro _ _)
    | with_reducible exact fm_d_fail (by assumption)
    | (with_reducible refine po_call (fm_d_fail (by assumption)) ?_; rintro ⟨_, _, _, _⟩ _; try dsimp only)
    | with_reducible refine po_cond (fun _ => ?_) (fun _ => ?_)
    | with_reducible refine po_bind_cond (fun _ => ?_) (fun _ => ?_)
    | with_reducible refine po_bl (fun _ _ => ?_))
theorem fm_d_bounded_42 {F : Nat → Int32} {A : Nat → Nat → Int32} {J : Nat → Nat → Int64} {x3 : Int32}  (h : FMh Fr Ar F A) : po (d_bounded_42 F A J x3) (fun r => FMh Fr Ar r.2.1 r.2.2.1) := by
  unfold d_bounded_42
  repeat' (first
    | with_reducible exact po_some (by assumption)
    | (with_reducible refine fm_pf (by assumption) (by decide) ?_; intro _ _)
    | (with_reducible refine fm_st (by assumption) (by decide) ?_; intro _ _)
    | with_reducible exact fm_d_wrong (by assumption)
    | (with_reducible refine po_call (fm_d_wrong (by assumption)) ?_; rintro ⟨_, _, _, _⟩ _; try dsimp only)
    | with_reducible exact fm_d_goesOn (by assumption)
    | (with_reducible refine po_call (fm_d_goesOn (by assumption)) ?_; rintro ⟨_, _, _, _⟩ _; try dsimp only)
    | with_reducible refine po_cond (fun _ => ?_) (fun _ => ?_)
    | with_reducible refine po_bind_cond (fun _ => ?_) (fun _ => ?_)
    | with_reducible refine po_bl (fun _ _ => ?_))
theorem fm_d_bounded_51 {F : Nat → Int32} {A : Nat → Nat → Int32} {J : Nat → Nat → Int64} {x3 : Int32}  (h : FMh Fr Ar F A) : po (d_bounded_51 F A J x3) (fun r => FMh Fr Ar r.2.1 r.2.2.1) := by
  unfold d_bounded_51
  repeat' (first
    | with_reducible exact po_some (by assumption)
    | (with_reducible refine fm_pf (by assumption) (by decide) ?_; intro _ _)
    | (with_reducible refine fm_st (by assumption) (by decide) ?_; intro _ _)
    | with_reducible exact fm_d_goesOn (by assumption)
    | (with_reducible refine po_call (fm_d_goesOn (by assumption)) ?_; rintro ⟨_, _, _, _⟩ _; try dsimp only)
    | with_reducible refine po_cond (fun _ => ?_) (fun _ => ?_)
    | with_reducible refine po_bind_cond (fun _ => ?_) (fun _ => ?_)
    | with_reducible refine po_bl (fun _ _ => ?_))
theorem fm_d_bounded {F : Nat → Int32} {A : Nat → Nat → Int32} {J : Nat → Nat → Int64} {x1 : Int32} {x2 : Int32}  (h : FMh Fr Ar F A) : po (d_bounded F A J x1 x2) (fun r => FMh Fr Ar r.2.1 r.2.2.1) := by
  unfold d_bounded
  repeat' (first
    | with_reducible exact po_some (by assumption)
    | (with_reducible refine fm_pf (by assumption) (by decide) ?_; intro _ _)
    | (with_reducible refine fm_st (by assumption) (by decide) ?_; intro _ _)
    | with_reducible exact fm_d_bounded_15 (by assumption)
    | (with_reducible refine po_call (fm_d_bounded_15 (by assumption)) ?_; rintro ⟨_, _, _, _⟩ _; try dsimp only)
    | with_reducible exact fm_d_bounded_42 (by assumption)
    | (with_reducible refine po_call (fm_d_bounded_42 (by assumption)) ?_; rintro ⟨_, _, _, _⟩ _; try dsimp only)
    | with_reducible exact fm_d_bounded_51 (by assumption)
    | (with_reducible refine po_call (fm_d_bounded_51 (by assumption)) ?_; rintro ⟨_, _, _, _⟩ _; try dsimp only)
    | with_reducible refine po_cond (fun _ => ?_) (fun _ => ?_)
    | with_reducible refine po_bind_cond (fun _ => ?_) (fun _ => ?_)
    | with_reducible refine po_bl (fun _ _ => ?_))
theorem fm_d_tellDoor_135 {n : Nat} {F : Nat → Int32} {A : Nat → Nat → Int32} {J : Nat → Nat → Int64}  (h : FMh Fr Ar F A) : po (d_tellDoor_135 n F A J) (fun r => FMh Fr Ar r.2.1 r.2.2.1) := by
  unfold d_tellDoor_135
  repeat' (first
    | with_reducible exact po_some (by assumption)
    | (with_reducible refine fm_pf (by assumption) (by decide) ?_; intro _ _)
    | (with_reducible refine fm_st (by assumption) (by decide) ?_; intro _ _)
    | with_reducible exact fm_d_must (by assumption)
    | (with_reducible refine po_call (fm_d_must (by assumption)) ?_; rintro ⟨_, _, _, _⟩ _; try dsimp only)
    | with_reducible refine po_cond (fun _ => ?_) (fun _ => ?_)
    | with_reducible refine po_bind_cond (fun _ => ?_) (fun _ => ?_)
    | with_reducible refine po_bl (fun _ _ => ?_))
theorem fm_d_tellDoor_121 {n : Nat} {F : Nat → Int32} {A : Nat → Nat → Int32} {J : Nat → Nat → Int64} {x1 : Int32} {s1 : Int32} {s2 : Int32}  (h : FMh Fr Ar F A) : po (d_tellDoor_121 n F A J x1 s1 s2) (fun r => FMh Fr Ar r.2.1 r.2.2.1) := by
  unfold d_tellDoor_121
  repeat' (first
    | with_reducible exact po_some (by assumption)
    | (with_reducible refine fm_pf (by assumption) (by decide) ?_; intro _ _)
    | (with_reducible refine fm_st (by assumption) (by decide) ?_; intro _ _)
    | with_reducible exact fm_d_tellDoor_135 (by assumption)
    | (with_reducible refine po_call (fm_d_tellDoor_135 (by assumption)) ?_; rintro ⟨_, _, _, _⟩ _; try dsimp only)
    | with_reducible exact fm_d_goesOn (by assumption)
    | (with_reducible refine po_call (fm_d_goesOn (by assumption)) ?_; rintro ⟨_, _, _, _⟩ _; try dsimp only)
    | with_reducible exact fm_d_must (by assumption)
    | (with_reducible refine po_call (fm_d_must (by assumption)) ?_; rintro ⟨_, _, _, _⟩ _; try dsimp only)
    | with_reducible refine po_cond (fun _ => ?_) (fun _ => ?_)
    | with_reducible refine po_bind_cond (fun _ => ?_) (fun _ => ?_)
    | with_reducible refine po_bl (fun _ _ => ?_))
theorem fm_d_tellDoor_120 {n : Nat} {F : Nat → Int32} {A : Nat → Nat → Int32} {J : Nat → Nat → Int64} {x1 : Int32} {s1 : Int32}  (h : FMh Fr Ar F A) : po (d_tellDoor_120 n F A J x1 s1) (fun r => FMh Fr Ar r.2.1 r.2.2.1) := by
  unfold d_tellDoor_120
  repeat' (first
    | with_reducible exact po_some (by assumption)
    | (with_reducible refine fm_pf (by assumption) (by decide) ?_; intro _ _)
    | (with_reducible refine fm_st (by assumption) (by decide) ?_; intro _ _)
    | with_reducible exact fm_d_tellDoor_121 (by assumption)
    | (with_reducible refine po_call (fm_d_tellDoor_121 (by assumption)) ?_; rintro ⟨_, _, _, _⟩ _; try dsimp only)
    | with_reducible refine po_cond (fun _ => ?_) (fun _ => ?_)
    | with_reducible refine po_bind_cond (fun _ => ?_) (fun _ => ?_)
    | with_reducible refine po_bl (fun _ _ => ?_))
theorem fm_d_tellDoor_82 {n : Nat} {F : Nat → Int32} {A : Nat → Nat → Int32} {J : Nat → Nat → Int64} {x1 : Int32}  (h : FMh Fr Ar F A) : po (d_tellDoor_82 n F A J x1) (fun r => FMh Fr Ar r.2.1 r.2.2.1) := by
  unfold d_tellDoor_82
  repeat' (first
    | with_reducible exact po_some (by assumption)
    | (with_reducible refine fm_pf (by assumption) (by decide) ?_; intro _ _)
    | (with_reducible refine fm_st (by assumption) (by decide) ?_; intro _ _)
    | with_reducible exact fm_d_bounded (by assumption)
    | (with_reducible refine po_call (fm_d_bounded (by assumption)) ?_; rintro ⟨_, _, _, _⟩ _; try dsimp only)
    | with_reducible exact fm_d_tellDoor_120 (by assumption)
    | (with_reducible refine po_call (fm_d_tellDoor_120 (by assumption)) ?_; rintro ⟨_, _, _, _⟩ _; try dsimp only)
    | with_reducible exact fm_d_tellDoor_121 (by assumption)
    | (with_reducible refine po_call (fm_d_tellDoor_121 (by assumption)) ?_; rintro ⟨_, _, _, _⟩ _; try dsimp only)
    | with_reducible refine po_cond (fun _ => ?_) (fun _ => ?_)
    | with_reducible refine po_bind_cond (fun _ => ?_) (fun _ => ?_)
    | with_reducible refine po_bl (fun _ _ => ?_))
theorem fm_d_tellDoor {n : Nat} {F : Nat → Int32} {A : Nat → Nat → Int32} {J : Nat → Nat → Int64}  (h : FMh Fr Ar F A) : po (d_tellDoor n F A J) (fun r => FMh Fr Ar r.2.1 r.2.2.1) := by
  unfold d_tellDoor
  repeat' (first
    | with_reducible exact po_some (by assumption)
    | (with_reducible refine fm_pf (by assumption) (by decide) ?_; intro _ _)
    | (with_reducible refine fm_st (by assumption) (by decide) ?_; intro _ _)
    | with_reducible exact fm_d_known (by assumption)
    | (with_reducible refine po_call (fm_d_known (by assumption)) ?_; rintro ⟨_, _, _, _⟩ _; try dsimp only)
    | with_reducible exact fm_d_tellDoor_82 (by assumption)
    | (with_reducible refine po_call (fm_d_tellDoor_82 (by assumption)) ?_; rintro ⟨_, _, _, _⟩ _; try dsimp only)
    | with_reducible exact fm_d_wrong (by assumption)
    | (with_reducible refine po_call (fm_d_wrong (by assumption)) ?_; rintro ⟨_, _, _, _⟩ _; try dsimp only)
    | with_reducible exact fm_d_bounded (by assumption)
    | (with_reducible refine po_call (fm_d_bounded (by assumption)) ?_; rintro ⟨_, _, _, _⟩ _; try dsimp only)
    | with_reducible exact fm_d_tellDoor_120 (by assumption)
    | (with_reducible refine po_call (fm_d_tellDoor_120 (by assumption)) ?_; rintro ⟨_, _, _, _⟩ _; try dsimp only)
    | with_reducible exact fm_d_tellDoor_121 (by assumption)
    | (with_reducible refine po_call (fm_d_tellDoor_121 (by assumption)) ?_; rintro ⟨_, _, _, _⟩ _; try dsimp only)
    | with_reducible refine po_cond (fun _ => ?_) (fun _ => ?_)
    | with_reducible refine po_bind_cond (fun _ => ?_) (fun _ => ?_)
    | with_reducible refine po_bl (fun _ _ => ?_))
theorem fm_d_tellTool {n : Nat} {F : Nat → Int32} {A : Nat → Nat → Int32} {J : Nat → Nat → Int64}  (h : FMh Fr Ar F A) : po (d_tellTool n F A J) (fun r => FMh Fr Ar r.2.1 r.2.2.1) := by
  unfold d_tellTool
  repeat' (first
    | with_reducible exact po_some (by assumption)
    | (with_reducible refine fm_pf (by assumption) (by decide) ?_; intro _ _)
    | (with_reducible refine fm_st (by assumption) (by decide) ?_; intro _ _)
    | with_reducible exact fm_d_named (by assumption)
    | (with_reducible refine po_call (fm_d_named (by assumption)) ?_; rintro ⟨_, _, _, _⟩ _; try dsimp only)
    | with_reducible exact fm_d_known (by assumption)
    | (with_reducible refine po_call (fm_d_known (by assumption)) ?_; rintro ⟨_, _, _, _⟩ _; try dsimp only)
    | with_reducible exact fm_d_must (by assumption)
    | (with_reducible refine po_call (fm_d_must (by assumption)) ?_; rintro ⟨_, _, _, _⟩ _; try dsimp only)
    | with_reducible exact fm_d_notes (by assumption)
    | (with_reducible refine po_call (fm_d_notes (by assumption)) ?_; rintro ⟨_, _, _, _⟩ _; try dsimp only)
    | with_reducible refine po_cond (fun _ => ?_) (fun _ => ?_)
    | with_reducible refine po_bind_cond (fun _ => ?_) (fun _ => ?_)
    | with_reducible refine po_bl (fun _ _ => ?_))
theorem fm_d_tellTask {n : Nat} {F : Nat → Int32} {A : Nat → Nat → Int32} {J : Nat → Nat → Int64}  (h : FMh Fr Ar F A) : po (d_tellTask n F A J) (fun r => FMh Fr Ar r.2.1 r.2.2.1) := by
  unfold d_tellTask
  repeat' (first
    | with_reducible exact po_some (by assumption)
    | (with_reducible refine fm_pf (by assumption) (by decide) ?_; intro _ _)
    | (with_reducible refine fm_st (by assumption) (by decide) ?_; intro _ _)
    | with_reducible exact fm_d_named (by assumption)
    | (with_reducible refine po_call (fm_d_named (by assumption)) ?_; rintro ⟨_, _, _, _⟩ _; try dsimp only)
    | with_reducible exact fm_d_known (by assumption)
    | (with_reducible refine po_call (fm_d_known (by assumption)) ?_; rintro ⟨_, _, _, _⟩ _; try dsimp only)
    | with_reducible exact fm_d_bounded (by assumption)
    | (with_reducible refine po_call (fm_d_bounded (by assumption)) ?_; rintro ⟨_, _, _, _⟩ _; try dsimp only)
    | with_reducible exact fm_d_must (by assumption)
    | (with_reducible refine po_call (fm_d_must (by assumption)) ?_; rintro ⟨_, _, _, _⟩ _; try dsimp only)
    | with_reducible exact fm_d_notes (by assumption)
    | (with_reducible refine po_call (fm_d_notes (by assumption)) ?_; rintro ⟨_, _, _, _⟩ _; try dsimp only)
    | with_reducible refine po_cond (fun _ => ?_) (fun _ => ?_)
    | with_reducible refine po_bind_cond (fun _ => ?_) (fun _ => ?_)
    | with_reducible refine po_bl (fun _ _ => ?_))
theorem fm_d_tellStep_174 {n : Nat} {F : Nat → Int32} {A : Nat → Nat → Int32} {J : Nat → Nat → Int64} {x2 : Int32} {x4 : Int32} {x5 : Int32} {x6 : Int32} {x7 : Int32} {x8 : Int32} {x9 : Int32} {x10 : Int32}  (h : FMh Fr Ar F A) : po (d_tellStep_174 n F A J x2 x4 x5 x6 x7 x8 x9 x10) (fun r => FMh Fr Ar r.2.1 r.2.2.1) := by
  unfold d_tellStep_174
  repeat' (first
    | with_reducible exact po_some (by assumption)
    | (with_reducible refine fm_pf (by assumption) (by decide) ?_; intro _ _)
    | (with_reducible refine fm_st (by assumption) (by decide) ?_; intro _ _)
    | with_reducible exact fm_d_must (by assumption)
    | (with_reducible refine po_call (fm_d_must (by assumption)) ?_; rintro ⟨_, _, _, _⟩ _; try dsimp only)
    | with_reducible refine po_cond (fun _ => ?_) (fun _ => ?_)
    | with_reducible refine po_bind_cond (fun _ => ?_) (fun _ => ?_)
    | with_reducible refine po_bl (fun _ _ => ?_))
theorem fm_d_tellStep_169 {n : Nat} {F : Nat → Int32} {A : Nat → Nat → Int32} {J : Nat → Nat → Int64} {x2 : Int32} {x4 : Int32} {x5 : Int32} {x6 : Int32} {x7 : Int32} {x8 : Int32} {x9 : Int32} {s1 : Int32} {s2 : Int32}  (h : FMh Fr Ar F A) : po (d_tellStep_169 n F A J x2 x4 x5 x6 x7 x8 x9 s1 s2) (fun r => FMh Fr Ar r.2.1 r.2.2.1) := by
  unfold d_tellStep_169
  repeat' (first
    | with_reducible exact po_some (by assumption)
    | (with_reducible refine fm_pf (by assumption) (by decide) ?_; intro _ _)
    | (with_reducible refine fm_st (by assumption) (by decide) ?_; intro _ _)
    | with_reducible exact fm_d_bounded (by assumption)
    | (with_reducible refine po_call (fm_d_bounded (by assumption)) ?_; rintro ⟨_, _, _, _⟩ _; try dsimp only)
    | with_reducible exact fm_d_tellStep_174 (by assumption)
    | (with_reducible refine po_call (fm_d_tellStep_174 (by assumption)) ?_; rintro ⟨_, _, _, _⟩ _; try dsimp only)
    | with_reducible refine po_cond (fun _ => ?_) (fun _ => ?_)
    | with_reducible refine po_bind_cond (fun _ => ?_) (fun _ => ?_)
    | with_reducible refine po_bl (fun _ _ => ?_))
theorem fm_d_tellStep_134 {n : Nat} {F : Nat → Int32} {A : Nat → Nat → Int32} {J : Nat → Nat → Int64} {x2 : Int32} {x3 : Int32} {x4 : Int32} {x5 : Int32} {x6 : Int32} {x7 : Int32} {x8 : Int32} {x9 : Int32} {x10 : Int32}  (h : FMh Fr Ar F A) : po (d_tellStep_134 n F A J x2 x3 x4 x5 x6 x7 x8 x9 x10) (fun r => FMh Fr Ar r.2.1 r.2.2.1) := by
  unfold d_tellStep_134
  repeat' (first
    | with_reducible exact po_some (by assumption)
    | (with_reducible refine fm_pf (by assumption) (by decide) ?_; intro _ _)
    | (with_reducible refine fm_st (by assumption) (by decide) ?_; intro _ _)
    | with_reducible exact fm_d_tellStep_174 (by assumption)
    | (with_reducible refine po_call (fm_d_tellStep_174 (by assumption)) ?_; rintro ⟨_, _, _, _⟩ _; try dsimp only)
    | with_reducible exact fm_d_goesOn (by assumption)
    | (with_reducible refine po_call (fm_d_goesOn (by assumption)) ?_; rintro ⟨_, _, _, _⟩ _; try dsimp only)
    | with_reducible exact fm_d_tellStep_169 (by assumption)
    | (with_reducible refine po_call (fm_d_tellStep_169 (by assumption)) ?_; rintro ⟨_, _, _, _⟩ _; try dsimp only)
    | with_reducible refine po_cond (fun _ => ?_) (fun _ => ?_)
    | with_reducible refine po_bind_cond (fun _ => ?_) (fun _ => ?_)
    | with_reducible refine po_bl (fun _ _ => ?_))
theorem fm_d_tellStep_59 {n : Nat} {F : Nat → Int32} {A : Nat → Nat → Int32} {J : Nat → Nat → Int64} {x2 : Int32} {x3 : Int32} {s0 : Int32} {s1 : Int32} {s2 : Int32}  (h : FMh Fr Ar F A) : po (d_tellStep_59 n F A J x2 x3 s0 s1 s2) (fun r => FMh Fr Ar r.2.1 r.2.2.1) := by
  unfold d_tellStep_59
  repeat' (first
    | with_reducible exact po_some (by assumption)
    | (with_reducible refine fm_pf (by assumption) (by decide) ?_; intro _ _)
    | (with_reducible refine fm_st (by assumption) (by decide) ?_; intro _ _)
    | with_reducible exact fm_d_bounded (by assumption)
    | (with_reducible refine po_call (fm_d_bounded (by assumption)) ?_; rintro ⟨_, _, _, _⟩ _; try dsimp only)
    | with_reducible exact fm_d_tellStep_134 (by assumption)
    | (with_reducible refine po_call (fm_d_tellStep_134 (by assumption)) ?_; rintro ⟨_, _, _, _⟩ _; try dsimp only)
    | with_reducible exact fm_d_goesOn (by assumption)
    | (with_reducible refine po_call (fm_d_goesOn (by assumption)) ?_; rintro ⟨_, _, _, _⟩ _; try dsimp only)
    | with_reducible exact fm_d_known (by assumption)
    | (with_reducible refine po_call (fm_d_known (by assumption)) ?_; rintro ⟨_, _, _, _⟩ _; try dsimp only)
    | with_reducible refine po_cond (fun _ => ?_) (fun _ => ?_)
    | with_reducible refine po_bind_cond (fun _ => ?_) (fun _ => ?_)
    | with_reducible refine po_bl (fun _ _ => ?_))
theorem fm_d_tellStep_41 {n : Nat} {F : Nat → Int32} {A : Nat → Nat → Int32} {J : Nat → Nat → Int64} {x2 : Int32} {x3 : Int32}  (h : FMh Fr Ar F A) : po (d_tellStep_41 n F A J x2 x3) (fun r => FMh Fr Ar r.2.1 r.2.2.1) := by
  unfold d_tellStep_41
  repeat' (first
    | with_reducible exact po_some (by assumption)
    | (with_reducible refine fm_pf (by assumption) (by decide) ?_; intro _ _)
    | (with_reducible refine fm_st (by assumption) (by decide) ?_; intro _ _)
    | with_reducible exact fm_d_tellStep_59 (by assumption)
    | (with_reducible refine po_call (fm_d_tellStep_59 (by assumption)) ?_; rintro ⟨_, _, _, _⟩ _; try dsimp only)
    | with_reducible refine po_cond (fun _ => ?_) (fun _ => ?_)
    | with_reducible refine po_bind_cond (fun _ => ?_) (fun _ => ?_)
    | with_reducible refine po_bl (fun _ _ => ?_))
theorem fm_d_failAt {F : Nat → Int32} {A : Nat → Nat → Int32} {J : Nat → Nat → Int64} {x1 : Int32} {x2 : Int32}  (h : FMh Fr Ar F A) : po (d_failAt F A J x1 x2) (fun r => FMh Fr Ar r.2.1 r.2.2.1) := by
  unfold d_failAt
  repeat' (first
    | with_reducible exact po_some (by assumption)
    | (with_reducible refine fm_pf (by assumption) (by decide) ?_; intro _ _)
    | (with_reducible refine fm_st (by assumption) (by decide) ?_; intro _ _)
    | with_reducible refine po_cond (fun _ => ?_) (fun _ => ?_)
    | with_reducible refine po_bind_cond (fun _ => ?_) (fun _ => ?_)
    | with_reducible refine po_bl (fun _ _ => ?_))
theorem fm_d_tellStep_28 {n : Nat} {F : Nat → Int32} {A : Nat → Nat → Int32} {J : Nat → Nat → Int64} {x1 : Int32} {x2 : Int32} {s0 : Int32}  (h : FMh Fr Ar F A) : po (d_tellStep_28 n F A J x1 x2 s0) (fun r => FMh Fr Ar r.2.1 r.2.2.1) := by
  unfold d_tellStep_28
  repeat' (first
    | with_reducible exact po_some (by assumption)
    | (with_reducible refine fm_pf (by assumption) (by decide) ?_; intro _ _)
    | (with_reducible refine fm_st (by assumption) (by decide) ?_; intro _ _)
    | with_reducible exact fm_d_tellStep_41 (by assumption)
    | (with_reducible refine po_call (fm_d_tellStep_41 (by assumption)) ?_; rintro ⟨_, _, _, _⟩ _; try dsimp only)
    | with_reducible exact fm_d_failAt (by assumption)
    | (with_reducible refine po_call (fm_d_failAt (by assumption)) ?_; rintro ⟨_, _, _, _⟩ _; try dsimp only)
    | with_reducible exact fm_d_tellStep_59 (by assumption)
    | (with_reducible refine po_call (fm_d_tellStep_59 (by assumption)) ?_; rintro ⟨_, _, _, _⟩ _; try dsimp only)
    | with_reducible refine po_cond (fun _ => ?_) (fun _ => ?_)
    | with_reducible refine po_bind_cond (fun _ => ?_) (fun _ => ?_)
    | with_reducible refine po_bl (fun _ _ => ?_))
theorem fm_d_tellStep {n : Nat} {F : Nat → Int32} {A : Nat → Nat → Int32} {J : Nat → Nat → Int64} {x1 : Int32}  (h : FMh Fr Ar F A) : po (d_tellStep n F A J x1) (fun r => FMh Fr Ar r.2.1 r.2.2.1) := by
  unfold d_tellStep
  repeat' (first
    | with_reducible exact po_some (by assumption)
    | (with_reducible refine fm_pf (by assumption) (by decide) ?_; intro _ _)
    | (with_reducible refine fm_st (by assumption) (by decide) ?_; intro _ _)
    | with_reducible exact fm_d_known (by assumption)
    | (with_reducible refine po_call (fm_d_known (by assumption)) ?_; rintro ⟨_, _, _, _⟩ _; try dsimp only)
    | with_reducible exact fm_d_tellStep_41 (by assumption)
    | (with_reducible refine po_call (fm_d_tellStep_41 (by assumption)) ?_; rintro ⟨_, _, _, _⟩ _; try dsimp only)
    | with_reducible exact fm_d_failAt (by assumption)
    | (with_reducible refine po_call (fm_d_failAt (by assumption)) ?_; rintro ⟨_, _, _, _⟩ _; try dsimp only)
    | with_reducible exact fm_d_tellStep_59 (by assumption)
    | (with_reducible refine po_call (fm_d_tellStep_59 (by assumption)) ?_; rintro ⟨_, _, _, _⟩ _; try dsimp only)
    | with_reducible exact fm_d_tellStep_28 (by assumption)
    | (with_reducible refine po_call (fm_d_tellStep_28 (by assumption)) ?_; rintro ⟨_, _, _, _⟩ _; try dsimp only)
    | with_reducible refine po_cond (fun _ => ?_) (fun _ => ?_)
    | with_reducible refine po_bind_cond (fun _ => ?_) (fun _ => ?_)
    | with_reducible refine po_bl (fun _ _ => ?_))
theorem fm_d_tellMan_118 {n : Nat} {F : Nat → Int32} {A : Nat → Nat → Int32} {J : Nat → Nat → Int64} {x2 : Int32}  (h : FMh Fr Ar F A) : po (d_tellMan_118 n F A J x2) (fun r => FMh Fr Ar r.2.1 r.2.2.1) := by
  unfold d_tellMan_118
  repeat' (first
    | with_reducible exact po_some (by assumption)
    | (with_reducible refine fm_pf (by assumption) (by decide) ?_; intro _ _)
    | (with_reducible refine fm_st (by assumption) (by decide) ?_; intro _ _)
    | with_reducible exact fm_d_must (by assumption)
    | (with_reducible refine po_call (fm_d_must (by assumption)) ?_; rintro ⟨_, _, _, _⟩ _; try dsimp only)
    | with_reducible exact fm_d_notes (by assumption)
    | (with_reducible refine po_call (fm_d_notes (by assumption)) ?_; rintro ⟨_, _, _, _⟩ _; try dsimp only)
    | with_reducible refine po_cond (fun _ => ?_) (fun _ => ?_)
    | with_reducible refine po_bind_cond (fun _ => ?_) (fun _ => ?_)
    | with_reducible refine po_bl (fun _ _ => ?_))
theorem fm_d_tellMan_114 {n : Nat} {F : Nat → Int32} {A : Nat → Nat → Int32} {J : Nat → Nat → Int64} {x2 : Int32} {s1 : Int32} {s3 : Int32} {s4 : Int32}  (h : FMh Fr Ar F A) : po (d_tellMan_114 n F A J x2 s1 s3 s4) (fun r => FMh Fr Ar r.2.1 r.2.2.1) := by
  unfold d_tellMan_114
  repeat' (first
    | with_reducible exact po_some (by assumption)
    | (with_reducible refine fm_pf (by assumption) (by decide) ?_; intro _ _)
    | (with_reducible refine fm_st (by assumption) (by decide) ?_; intro _ _)
    | with_reducible exact fm_d_bounded (by assumption)
    | (with_reducible refine po_call (fm_d_bounded (by assumption)) ?_; rintro ⟨_, _, _, _⟩ _; try dsimp only)
    | with_reducible exact fm_d_must (by assumption)
    | (with_reducible refine po_call (fm_d_must (by assumption)) ?_; rintro ⟨_, _, _, _⟩ _; try dsimp only)
    | with_reducible exact fm_d_notes (by assumption)
    | (with_reducible refine po_call (fm_d_notes (by assumption)) ?_; rintro ⟨_, _, _, _⟩ _; try dsimp only)
    | with_reducible refine po_cond (fun _ => ?_) (fun _ => ?_)
    | with_reducible refine po_bind_cond (fun _ => ?_) (fun _ => ?_)
    | with_reducible refine po_bl (fun _ _ => ?_))
theorem fm_d_tellMan {n : Nat} {F : Nat → Int32} {A : Nat → Nat → Int32} {J : Nat → Nat → Int64}  (h : FMh Fr Ar F A) : po (d_tellMan n F A J) (fun r => FMh Fr Ar r.2.1 r.2.2.1) := by
  unfold d_tellMan
  repeat' (first
    | with_reducible exact po_some (by assumption)
    | (with_reducible refine fm_pf (by assumption) (by decide) ?_; intro _ _)
    | (with_reducible refine fm_st (by assumption) (by decide) ?_; intro _ _)
    | with_reducible exact fm_d_named (by assumption)
    | (with_reducible refine po_call (fm_d_named (by assumption)) ?_; rintro ⟨_, _, _, _⟩ _; try dsimp only)
    | with_reducible exact fm_d_known (by assumption)
    | (with_reducible refine po_call (fm_d_known (by assumption)) ?_; rintro ⟨_, _, _, _⟩ _; try dsimp only)
    | with_reducible exact fm_d_tellMan_118 (by assumption)
    | (with_reducible refine po_call (fm_d_tellMan_118 (by assumption)) ?_; rintro ⟨_, _, _, _⟩ _; try dsimp only)
    | with_reducible exact fm_d_goesOn (by assumption)
    | (with_reducible refine po_call (fm_d_goesOn (by assumption)) ?_; rintro ⟨_, _, _, _⟩ _; try dsimp only)
    | with_reducible exact fm_d_tellMan_114 (by assumption)
    | (with_reducible refine po_call (fm_d_tellMan_114 (by assumption)) ?_; rintro ⟨_, _, _, _⟩ _; try dsimp only)
    | with_reducible refine po_cond (fun _ => ?_) (fun _ => ?_)
    | with_reducible refine po_bind_cond (fun _ => ?_) (fun _ => ?_)
    | with_reducible refine po_bl (fun _ _ => ?_))
theorem fm_d_roomFor_10 {F : Nat → Int32} {A : Nat → Nat → Int32} {J : Nat → Nat → Int64}  (h : FMh Fr Ar F A) : po (d_roomFor_10 F A J) (fun r => FMh Fr Ar r.2.1 r.2.2.1) := by
  unfold d_roomFor_10
  repeat' (first
    | with_reducible exact po_some (by assumption)
    | (with_reducible refine fm_pf (by assumption) (by decide) ?_; intro _ _)
    | (with_reducible refine fm_st (by assumption) (by decide) ?_; intro _ _)
    | with_reducible exact fm_d_goesOn (by assumption)
    | (with_reducible refine po_call (fm_d_goesOn (by assumption)) ?_; rintro ⟨_, _, _, _⟩ _; try dsimp only)
    | with_reducible refine po_cond (fun _ => ?_) (fun _ => ?_)
    | with_reducible refine po_bind_cond (fun _ => ?_) (fun _ => ?_)
    | with_reducible refine po_bl (fun _ _ => ?_))
theorem fm_d_roomFor {F : Nat → Int32} {A : Nat → Nat → Int32} {J : Nat → Nat → Int64} {x1 : Int32} {x2 : Int32}  (h : FMh Fr Ar F A) : po (d_roomFor F A J x1 x2) (fun r => FMh Fr Ar r.2.1 r.2.2.1) := by
  unfold d_roomFor
  repeat' (first
    | with_reducible exact po_some (by assumption)
    | (with_reducible refine fm_pf (by assumption) (by decide) ?_; intro _ _)
    | (with_reducible refine fm_st (by assumption) (by decide) ?_; intro _ _)
    | with_reducible exact fm_d_roomFor_10 (by assumption)
    | (with_reducible refine po_call (fm_d_roomFor_10 (by assumption)) ?_; rintro ⟨_, _, _, _⟩ _; try dsimp only)
    | with_reducible exact fm_d_fail (by assumption)
    | (with_reducible refine po_call (fm_d_fail (by assumption)) ?_; rintro ⟨_, _, _, _⟩ _; try dsimp only)
    | with_reducible exact fm_d_goesOn (by assumption)
    | (with_reducible refine po_call (fm_d_goesOn (by assumption)) ?_; rintro ⟨_, _, _, _⟩ _; try dsimp only)
    | with_reducible refine po_cond (fun _ => ?_) (fun _ => ?_)
    | with_reducible refine po_bind_cond (fun _ => ?_) (fun _ => ?_)
    | with_reducible refine po_bl (fun _ _ => ?_))
theorem fm_s_Room {n : Nat} {x most : Int32} {F : Nat → Int32} {A : Nat → Nat → Int32} {J : Nat → Nat → Int64} (h : FMh Fr Ar F A) : po ((d_roomFor F A J x most).bind fun (_, F5, A6, J7) => cond (g_cnd .ne (F5 13) 0) (some ((), F5, A6, J7)) ((d_tellRoom n F5 A6 J7).bind fun (_, F10, A11, J12) => some ((), F10, A11, J12))) (fun r => FMh Fr Ar r.2.1 r.2.2.1) := by
  repeat' (first
    | exact po_some (by assumption)
    | (refine po_call (fm_d_roomFor (by assumption)) ?_; rintro ⟨_, _, _, _⟩ _; try dsimp only)
    | (refine po_call (fm_d_tellRoom (by assumption)) ?_; rintro ⟨_, _, _, _⟩ _; try dsimp only)
    | (refine fm_st (by assumption) (by decide) ?_; intro _ _)
    | refine po_cond (fun _ => ?_) (fun _ => ?_)
    | refine po_bl (fun _ _ => ?_))
theorem fm_s_Door {n : Nat} {x most : Int32} {F : Nat → Int32} {A : Nat → Nat → Int32} {J : Nat → Nat → Int64} (h : FMh Fr Ar F A) : po ((d_roomFor F A J x most).bind fun (_, F5, A6, J7) => cond (g_cnd .ne (F5 13) 0) (some ((), F5, A6, J7)) ((d_tellDoor n F5 A6 J7).bind fun (_, F10, A11, J12) => some ((), F10, A11, J12))) (fun r => FMh Fr Ar r.2.1 r.2.2.1) := by
  repeat' (first
    | exact po_some (by assumption)
    | (refine po_call (fm_d_roomFor (by assumption)) ?_; rintro ⟨_, _, _, _⟩ _; try dsimp only)
    | (refine po_call (fm_d_tellDoor (by assumption)) ?_; rintro ⟨_, _, _, _⟩ _; try dsimp only)
    | (refine fm_st (by assumption) (by decide) ?_; intro _ _)
    | refine po_cond (fun _ => ?_) (fun _ => ?_)
    | refine po_bl (fun _ _ => ?_))
theorem fm_s_Tool {n : Nat} {x most : Int32} {F : Nat → Int32} {A : Nat → Nat → Int32} {J : Nat → Nat → Int64} (h : FMh Fr Ar F A) : po ((d_roomFor F A J x most).bind fun (_, F5, A6, J7) => cond (g_cnd .ne (F5 13) 0) (some ((), F5, A6, J7)) ((d_tellTool n F5 A6 J7).bind fun (_, F10, A11, J12) => some ((), F10, A11, J12))) (fun r => FMh Fr Ar r.2.1 r.2.2.1) := by
  repeat' (first
    | exact po_some (by assumption)
    | (refine po_call (fm_d_roomFor (by assumption)) ?_; rintro ⟨_, _, _, _⟩ _; try dsimp only)
    | (refine po_call (fm_d_tellTool (by assumption)) ?_; rintro ⟨_, _, _, _⟩ _; try dsimp only)
    | (refine fm_st (by assumption) (by decide) ?_; intro _ _)
    | refine po_cond (fun _ => ?_) (fun _ => ?_)
    | refine po_bl (fun _ _ => ?_))
theorem fm_s_Task {n : Nat} {x most : Int32} {F : Nat → Int32} {A : Nat → Nat → Int32} {J : Nat → Nat → Int64} (h : FMh Fr Ar F A) : po ((d_roomFor F A J x most).bind fun (_, F5, A6, J7) => cond (g_cnd .ne (F5 13) 0) (some ((), F5, A6, J7)) ((d_tellTask n F5 A6 J7).bind fun (_, F10, A11, J12) => some ((), F10, A11, J12))) (fun r => FMh Fr Ar r.2.1 r.2.2.1) := by
  repeat' (first
    | exact po_some (by assumption)
    | (refine po_call (fm_d_roomFor (by assumption)) ?_; rintro ⟨_, _, _, _⟩ _; try dsimp only)
    | (refine po_call (fm_d_tellTask (by assumption)) ?_; rintro ⟨_, _, _, _⟩ _; try dsimp only)
    | (refine fm_st (by assumption) (by decide) ?_; intro _ _)
    | refine po_cond (fun _ => ?_) (fun _ => ?_)
    | refine po_bl (fun _ _ => ?_))
theorem fm_s_Man {n : Nat} {x most : Int32} {F : Nat → Int32} {A : Nat → Nat → Int32} {J : Nat → Nat → Int64} (h : FMh Fr Ar F A) : po ((d_roomFor F A J x most).bind fun (_, F5, A6, J7) => cond (g_cnd .ne (F5 13) 0) (some ((), F5, A6, J7)) ((d_tellMan n F5 A6 J7).bind fun (_, F10, A11, J12) => some ((), F10, A11, J12))) (fun r => FMh Fr Ar r.2.1 r.2.2.1) := by
  repeat' (first
    | exact po_some (by assumption)
    | (refine po_call (fm_d_roomFor (by assumption)) ?_; rintro ⟨_, _, _, _⟩ _; try dsimp only)
    | (refine po_call (fm_d_tellMan (by assumption)) ?_; rintro ⟨_, _, _, _⟩ _; try dsimp only)
    | (refine fm_st (by assumption) (by decide) ?_; intro _ _)
    | refine po_cond (fun _ => ?_) (fun _ => ?_)
    | refine po_bl (fun _ _ => ?_))
theorem fm_s_Step {n : Nat} {F : Nat → Int32} {A : Nat → Nat → Int32} {J : Nat → Nat → Int64} (h : FMh Fr Ar F A) : po ((d_goesOn F A J).bind fun (_, F48, A49, J50) => (d_tellStep n F48 A49 J50 ((F48 11) - 1)).bind fun (_, F52, A53, J54) => some ((), F52, A53, J54)) (fun r => FMh Fr Ar r.2.1 r.2.2.1) := by
  repeat' (first
    | exact po_some (by assumption)
    | (refine po_call (fm_d_goesOn (by assumption)) ?_; rintro ⟨_, _, _, _⟩ _; try dsimp only)
    | (refine po_call (fm_d_tellStep (by assumption)) ?_; rintro ⟨_, _, _, _⟩ _; try dsimp only)
    | (refine fm_st (by assumption) (by decide) ?_; intro _ _)
    | refine po_cond (fun _ => ?_) (fun _ => ?_)
    | refine po_bl (fun _ _ => ?_))
theorem fm_s_Night {F : Nat → Int32} {A : Nat → Nat → Int32} {J : Nat → Nat → Int64} (h : FMh Fr Ar F A) : po ((d_goesOn F A J).bind fun (_, F100, A101, J102) => (d_bounded F100 A101 J102 1 600).bind fun (v103, F104, A105, J106) => (m_st A105 41 2 (F100 19) v103).bind fun A107 => (d_must F104 A107 J106 4).bind fun (_, F109, A110, J111) => some ((), F109, A110, J111)) (fun r => FMh Fr Ar r.2.1 r.2.2.1) := by
  repeat' (first
    | exact po_some (by assumption)
    | (refine po_call (fm_d_goesOn (by assumption)) ?_; rintro ⟨_, _, _, _⟩ _; try dsimp only)
    | (refine po_call (fm_d_bounded (by assumption)) ?_; rintro ⟨_, _, _, _⟩ _; try dsimp only)
    | (refine po_call (fm_d_must (by assumption)) ?_; rintro ⟨_, _, _, _⟩ _; try dsimp only)
    | (refine fm_st (by assumption) (by decide) ?_; intro _ _)
    | refine po_cond (fun _ => ?_) (fun _ => ?_)
    | refine po_bl (fun _ _ => ?_))
/-- laws stay over a sentence without laws -/
theorem rs_l {T : TS} {P : Nat → Nat → Nat} {F : Nat → Nat → Int32} {A : Nat → Nat → Nat → Int32} {Fm : Nat → Int32} {Am : Nat → Nat → Int32} {x : Option (cR Unit)} {z : Option (mR Unit)} (L : RL (Fm 19).toInt d F A Fm Am) (hq : P2 x z (RS T d P)) (hc : po x (fun r => FLh d F A r.2.2.1 r.2.2.2.1)) (hm : po z (fun r => FMh Fm Am r.2.1 r.2.2.1)) : P2 x z (RSL T d) := by
  intro a b ha hb
  have c := hc a ha
  have m := hm b hb
  rcases hq a b ha hb with e | ⟨r, x, h, w⟩
  · exact .inl e
  · refine .inr ⟨r, x, h, w, ?_⟩
    rw [m.1.2.2]
    exact L.eq c.1 c.2.1 c.2.2.1 c.2.2.2 m.1.2.1 m.1.1 m.2
theorem FLh.rfl' {F : Nat → Nat → Int32} {A : Nat → Nat → Nat → Int32} : FLh d F A F A := ⟨rfl, rfl, rfl, rfl⟩
theorem FMh.rfl' {F : Nat → Int32} {A : Nat → Nat → Int32} : FMh F A F A := ⟨⟨rfl, rfl, rfl⟩, fun _ _ _ _ => rfl⟩
end B7y
end Qz113
section Qz114
/-! the first evening of the reference, by values -/
section B7z
variable {s : Int} {F : Nat → Int32} {A A' A1 : Nat → Nat → Int32} {J : Nat → Nat → Int64} {x1 : Int32}
/-- the first evening out of what was told -/
def BGv (s : Int) (A A' : Nat → Nat → Int32) : Prop := (∀ k : Int, 0 ≤ k → k < 36 → ai A' 47 (6 + k) = 0) ∧ (∀ k : Int, 0 ≤ k → k < 6 → (k < ai A 19 s → ai A' 47 k = ai A 21 (6 * s + k)) ∧ (ai A 19 s ≤ k → ai A' 47 k = 0)) ∧ (∀ k : Int, 0 ≤ k → k < 6 → (k < ai A 17 s → ai A' 47 (72 + k) = ai A 18 (6 * s + k)) ∧ (ai A 17 s ≤ k → ai A' 47 (72 + k) = 0)) ∧ (∀ m : Int, 0 ≤ m → m < ai A 29 s → ai A' 47 (42 + m) = ai A 31 (6 * s + m) ∧ ai A' 47 (48 + m) = ai A 32 (6 * s + m) ∧ ai A' 47 (66 + m) = -2) ∧ (ai A' 47 78 = (shv (fun k => ai A 16 (12 * s + k)) (ai A 12 s).toNat).toInt) ∧ ((∀ m : Int, 0 ≤ m → m < 6 → ai A' 47 (54 + m) = 0 ∧ ai A' 47 (60 + m) = 0) ∧ ai A' 47 79 = 0)
theorem BGv.fr (h : BGv s A A1) (e : A' 47 = A1 47) : BGv s A A' := by
  unfold BGv
  rw [ai_fr e]
  exact h
theorem ok_and {α : Type} {o : Option α} {Q R : α → Prop} (h : ok o Q) (k : po o R) : ok o (fun a => Q a ∧ R a) := by
  obtain ⟨a, e, q⟩ := h
  exact ⟨a, e, q, k a e⟩
abbrev bR : Type := Unit × (Nat → Int32) × (Nat → Nat → Int32) × (Nat → Nat → Int64)
/-- only row 47 changes, and there only where p says -/
def B47 (F : Nat → Int32) (A : Nat → Nat → Int32) (p : Int → Prop) (r : bR) : Prop := r.2.1 = F ∧ (∀ q, q ≠ 47 → r.2.2.1 q = A q) ∧ ∀ i, 0 ≤ i → ¬ p i → ai r.2.2.1 47 i = ai A 47 i
theorem B47.st {p : Int → Prop} {x : Int} {r : bR} (h : B47 F A1 p r) (o : ∀ q, q ≠ 47 → A1 q = A q) (n : ∀ i, 0 ≤ i → i ≠ x → ai A1 47 i = ai A 47 i) (hp : p x) : B47 F A p r :=
  ⟨h.1, fun q hq => (h.2.1 q hq).trans (o q hq), fun i i0 hi => (h.2.2 i i0 hi).trans (n i i0 (fun e => hi (e ▸ hp)))⟩
theorem B47.mono {p p' : Int → Prop} {r : bR} (h : B47 F A p r) (k : ∀ i, p i → p' i) : B47 F A p' r := ⟨h.1, h.2.1, fun i i0 hi => h.2.2 i i0 (fun e => hi (k i e))⟩
theorem v_begins_176 (hF : IFm F) : ∀ {n : Nat} {A : Nat → Nat → Int32} {J : Nat → Nat → Int64} {x1 : Int32}, IAm A → 0 ≤ x1.toInt → x1.toInt ≤ ai A 12 (F 18).toInt → ai A 47 78 = (shv (fun k => ai A 16 (12 * (F 18).toInt + k)) x1.toInt.toNat).toInt → po (d_begins_176 n F A J x1) (fun r => B47 F A (fun i => i = 78) r ∧ ai r.2.2.1 47 78 = (shv (fun k => ai A 16 (12 * (F 18).toInt + k)) (ai A 12 (F 18).toInt).toNat).toInt) := by
  have l78 : (78 : Int32).toInt = 78 := by decide
  intro n
  induction n with
  | zero => intro A J x1 _ _ _ _ r hr; cases hr
  | succ n ih =>
    intro A J x1 hA h0 h1 hv
    have r18 : 0 ≤ (F 18).toInt ∧ (F 18).toInt ≤ 1 := hF 18
    have a12 : 0 ≤ ai A 12 (F 18).toInt ∧ ai A 12 (F 18).toInt ≤ 12 := hA 12 (F 18).toInt r18.1
    unfold d_begins_176
    refine po_bl (fun v18 e18 => ?_)
    have v18e : v18.toInt = ai A 12 (F 18).toInt := by rw [(gg_ld e18).2.2]; rfl
    refine po_cond (fun c => ?_) (fun c => ?_)
    · rw [i_ge, v18e] at c
      have e : x1.toInt = ai A 12 (F 18).toInt := by omega
      rw [e] at hv
      exact po_some ⟨⟨rfl, fun _ _ => rfl, fun _ _ _ => rfl⟩, hv⟩
    · rw [i_nge, v18e] at c
      have em := i_mulL (c := 12) (k := 12) (x := F 18) (by decide) (by omega) (by omega)
      have ei := i_add (x := 12 * F 18) (y := x1) (by omega) (by omega)
      have e1 := i_add (x := x1) (y := 1) (by rw [i_1]; omega) (by rw [i_1]; omega)
      rw [i_1] at e1
      have en : (x1 + 1).toInt.toNat = x1.toInt.toNat + 1 := by omega
      have ec : ((x1.toInt.toNat : Nat) : Int) = x1.toInt := by omega
      refine po_bl (fun v20 e20 => ?_)
      have v20e : v20.toInt = ai A 16 (12 * (F 18).toInt + x1.toInt) := by rw [(gg_ld e20).2.2, ei, em]; rfl
      refine po_cond (fun c2 => ?_) (fun c2 => ?_)
      · rw [i_eq, v20e, i_0] at c2
        unfold d_begins_219
        refine ih hA (by omega) (by omega) ?_
        rw [en, shv_s, ec, if_pos c2]
        exact hv
      · rw [i_neq, v20e, i_0] at c2
        refine po_bl (fun v22 e22 => ?_)
        have v22e : v22 = shv (fun k => ai A 16 (12 * (F 18).toInt + k)) x1.toInt.toNat := i_ext (by rw [(gg_ld e22).2.2, ← hv, l78]; rfl)
        refine po_bl (fun A23 e23 => ?_)
        have a23 := gg_st e23
        rw [l78] at a23
        have hA' : IAm A23 := by
          intro j i hi
          by_cases ej : j = 47
          · subst ej; trivial
          · rw [ai_fr (a23.2.2.1 j ej)]; exact hA j i hi
        have o12 := ai_fr (a23.2.2.1 12 (by decide))
        have o16 := ai_fr (a23.2.2.1 16 (by decide))
        have g := ih (J := J) (x1 := x1 + 1) hA' (by omega) (by rw [o12]; omega) (by
          rw [o16, en, shv_s, ec, if_neg c2, a23.2.2.2.1, v22e]
          have ex : Int32.ofNat x1.toInt.toNat = x1 := i_ext (by rw [Int32.toInt_ofNat_of_lt (by omega)]; omega)
          rw [ex])
        rw [o12, o16] at g
        exact po_mono g (fun r hr => ⟨hr.1.st a23.2.2.1 a23.2.2.2.2 rfl, hr.2⟩)
theorem v_begins_132 (hF : IFm F) : ∀ {n : Nat} {A : Nat → Nat → Int32} {J : Nat → Nat → Int64} {x1 : Int32}, IAm A → 0 ≤ x1.toInt → x1.toInt ≤ ai A 17 (F 18).toInt → ai A 47 78 = 0 → (∀ k : Int, 0 ≤ k → k < x1.toInt → ai A 47 (72 + k) = ai A 18 (6 * (F 18).toInt + k)) → po (d_begins_132 n F A J x1) (fun r => B47 F A (fun i => i = 78 ∨ (72 ≤ i ∧ i < 72 + ai A 17 (F 18).toInt)) r ∧ ai r.2.2.1 47 78 = (shv (fun k => ai A 16 (12 * (F 18).toInt + k)) (ai A 12 (F 18).toInt).toNat).toInt ∧ ∀ k : Int, 0 ≤ k → k < ai A 17 (F 18).toInt → ai r.2.2.1 47 (72 + k) = ai A 18 (6 * (F 18).toInt + k)) := by
  intro n
  induction n with
  | zero => intro A J x1 _ _ _ _ _ r hr; cases hr
  | succ n ih =>
    intro A J x1 hA h0 h1 hz hv
    have l72 : (72 : Int32).toInt = 72 := by decide
    have r18 : 0 ≤ (F 18).toInt ∧ (F 18).toInt ≤ 1 := hF 18
    have a17 : 0 ≤ ai A 17 (F 18).toInt ∧ ai A 17 (F 18).toInt ≤ 6 := hA 17 (F 18).toInt r18.1
    have a12 : 0 ≤ ai A 12 (F 18).toInt ∧ ai A 12 (F 18).toInt ≤ 12 := hA 12 (F 18).toInt r18.1
    unfold d_begins_132
    refine po_bl (fun v14 e14 => ?_)
    have v14e : v14.toInt = ai A 17 (F 18).toInt := by rw [(gg_ld e14).2.2]; rfl
    refine po_cond (fun c => ?_) (fun c => ?_)
    · rw [i_ge, v14e] at c
      refine po_mono (v_begins_176 hF hA (by decide) (by rw [i_0]; omega) (by rw [i_0]; exact hz)) (fun r hr => ⟨hr.1.mono (fun i h => .inl h), hr.2, fun k k0 k1 => ?_⟩)
      rw [hr.1.2.2 (72 + k) (by omega) (by omega)]
      exact hv k k0 (by omega)
    · rw [i_nge, v14e] at c
      have em := i_mulL (c := 6) (k := 6) (x := F 18) (by decide) (by omega) (by omega)
      have ei := i_add (x := 6 * F 18) (y := x1) (by omega) (by omega)
      have e1 := i_add (x := x1) (y := 1) (by rw [i_1]; omega) (by rw [i_1]; omega)
      have e7 := i_add (x := 72) (y := x1) (by rw [l72]; omega) (by rw [l72]; omega)
      rw [i_1] at e1
      rw [l72] at e7
      refine po_bl (fun v16 e16 => ?_)
      have v16e : v16.toInt = ai A 18 (6 * (F 18).toInt + x1.toInt) := by rw [(gg_ld e16).2.2, ei, em]; rfl
      refine po_bl (fun A17 eA => ?_)
      have aA := gg_st eA
      rw [e7] at aA
      have hA' : IAm A17 := by
        intro j i hi
        by_cases ej : j = 47
        · subst ej; trivial
        · rw [ai_fr (aA.2.2.1 j ej)]; exact hA j i hi
      have o17 := ai_fr (aA.2.2.1 17 (by decide))
      have o18 := ai_fr (aA.2.2.1 18 (by decide))
      have o16 := ai_fr (aA.2.2.1 16 (by decide))
      have o12 := ai_fr (aA.2.2.1 12 (by decide))
      have g := ih (J := J) (x1 := x1 + 1) hA' (by omega) (by rw [o17]; omega) (by rw [aA.2.2.2.2 78 (by decide) (by omega)]; exact hz) (fun k k0 k1 => by
        rw [o18]
        by_cases e : k = x1.toInt
        · rw [e, aA.2.2.2.1, v16e]
        · rw [aA.2.2.2.2 (72 + k) (by omega) (by omega)]; exact hv k k0 (by omega))
      rw [o17, o18, o16, o12] at g
      exact po_mono g (fun r hr => ⟨hr.1.st aA.2.2.1 aA.2.2.2.2 (.inr ⟨by omega, by omega⟩), hr.2⟩)
theorem v_begins_59 (hF : IFm F) : ∀ {n : Nat} {A : Nat → Nat → Int32} {J : Nat → Nat → Int64} {x1 : Int32}, IAm A → 0 ≤ x1.toInt → x1.toInt ≤ ai A 29 (F 18).toInt → ai A 47 78 = 0 → (∀ m : Int, 0 ≤ m → m < x1.toInt → ai A 47 (42 + m) = ai A 31 (6 * (F 18).toInt + m) ∧ ai A 47 (48 + m) = ai A 32 (6 * (F 18).toInt + m) ∧ ai A 47 (66 + m) = -2) → po (d_begins_59 n F A J x1) (fun r => B47 F A (fun i => i = 78 ∨ (72 ≤ i ∧ i < 72 + ai A 17 (F 18).toInt) ∨ (42 ≤ i ∧ i < 54) ∨ (66 ≤ i ∧ i < 72)) r ∧ ai r.2.2.1 47 78 = (shv (fun k => ai A 16 (12 * (F 18).toInt + k)) (ai A 12 (F 18).toInt).toNat).toInt ∧ (∀ k : Int, 0 ≤ k → k < ai A 17 (F 18).toInt → ai r.2.2.1 47 (72 + k) = ai A 18 (6 * (F 18).toInt + k)) ∧ ∀ m : Int, 0 ≤ m → m < ai A 29 (F 18).toInt → ai r.2.2.1 47 (42 + m) = ai A 31 (6 * (F 18).toInt + m) ∧ ai r.2.2.1 47 (48 + m) = ai A 32 (6 * (F 18).toInt + m) ∧ ai r.2.2.1 47 (66 + m) = -2) := by
  intro n
  induction n with
  | zero => intro A J x1 _ _ _ _ _ r hr; cases hr
  | succ n ih =>
    intro A J x1 hA h0 h1 hz hv
    have l42 : (42 : Int32).toInt = 42 := by decide
    have l48 : (48 : Int32).toInt = 48 := by decide
    have l66 : (66 : Int32).toInt = 66 := by decide
    have lm2 : ((-2 : Int32)).toInt = -2 := by decide
    have r18 : 0 ≤ (F 18).toInt ∧ (F 18).toInt ≤ 1 := hF 18
    have a29 : 0 ≤ ai A 29 (F 18).toInt ∧ ai A 29 (F 18).toInt ≤ 6 := hA 29 (F 18).toInt r18.1
    have a17 : 0 ≤ ai A 17 (F 18).toInt ∧ ai A 17 (F 18).toInt ≤ 6 := hA 17 (F 18).toInt r18.1
    unfold d_begins_59 d_menNow
    refine po_call (R := fun v => v.toInt = ai A 29 (F 18).toInt) (po_bl (fun v e => po_some (by rw [(gg_ld e).2.2]; rfl))) ?_
    intro v7 v7e
    refine po_cond (fun c => ?_) (fun c => ?_)
    · rw [i_ge, v7e] at c
      refine po_mono (v_begins_132 hF hA (by decide) (by rw [i_0]; omega) hz (fun k k0 k1 => absurd k1 (by rw [i_0]; omega))) (fun r hr => ⟨hr.1.mono (fun i h => by omega), hr.2.1, hr.2.2, fun m m0 m1 => ?_⟩)
      have f := hr.1.2.2
      rw [f (42 + m) (by omega) (by omega), f (48 + m) (by omega) (by omega), f (66 + m) (by omega) (by omega)]
      exact hv m m0 (by omega)
    · rw [i_nge, v7e] at c
      have em := i_mulL (c := 6) (k := 6) (x := F 18) (by decide) (by omega) (by omega)
      have ei := i_add (x := 6 * F 18) (y := x1) (by omega) (by omega)
      have e1 := i_add (x := x1) (y := 1) (by rw [i_1]; omega) (by rw [i_1]; omega)
      have e42 := i_add (x := 42) (y := x1) (by rw [l42]; omega) (by rw [l42]; omega)
      have e48 := i_add (x := 48) (y := x1) (by rw [l48]; omega) (by rw [l48]; omega)
      have e66 := i_add (x := 66) (y := x1) (by rw [l66]; omega) (by rw [l66]; omega)
      rw [i_1] at e1
      rw [l42] at e42
      rw [l48] at e48
      rw [l66] at e66
      refine po_bl (fun v9 e9 => ?_)
      have v9e : v9.toInt = ai A 31 (6 * (F 18).toInt + x1.toInt) := by rw [(gg_ld e9).2.2, ei, em]; rfl
      refine po_bl (fun A10 eA => ?_)
      have aA := gg_st eA
      rw [e42] at aA
      refine po_bl (fun v11 e11 => ?_)
      have v11e : v11.toInt = ai A 32 (6 * (F 18).toInt + x1.toInt) := by rw [(gg_ld e11).2.2, aA.2.2.1 32 (by decide), ei, em]; rfl
      refine po_bl (fun A12 eB => ?_)
      have aB := gg_st eB
      rw [e48] at aB
      refine po_bl (fun A13 eC => ?_)
      have aC := gg_st eC
      rw [e66, lm2] at aC
      have oth : ∀ q, q ≠ 47 → A13 q = A q := fun q hq => by rw [aC.2.2.1 q hq, aB.2.2.1 q hq, aA.2.2.1 q hq]
      have s47 : ∀ i, 0 ≤ i → i ≠ 42 + x1.toInt → i ≠ 48 + x1.toInt → i ≠ 66 + x1.toInt → ai A13 47 i = ai A 47 i := fun i i0 h1 h2 h3 => by rw [aC.2.2.2.2 i i0 h3, aB.2.2.2.2 i i0 h2, aA.2.2.2.2 i i0 h1]
      have hA' : IAm A13 := by
        intro j i hi
        by_cases ej : j = 47
        · subst ej; trivial
        · rw [ai_fr (oth j ej)]; exact hA j i hi
      have o17 := ai_fr (oth 17 (by decide))
      have o18 := ai_fr (oth 18 (by decide))
      have o16 := ai_fr (oth 16 (by decide))
      have o12 := ai_fr (oth 12 (by decide))
      have o29 := ai_fr (oth 29 (by decide))
      have o31 := ai_fr (oth 31 (by decide))
      have o32 := ai_fr (oth 32 (by decide))
      have g := ih (J := J) (x1 := x1 + 1) hA' (by omega) (by rw [o29]; omega) (by rw [s47 78 (by decide) (by omega) (by omega) (by omega)]; exact hz) (fun m m0 m1 => by
        rw [o31, o32]
        by_cases e : m = x1.toInt
        · rw [e]
          refine ⟨?_, ?_, aC.2.2.2.1⟩
          · rw [aC.2.2.2.2 _ (by omega) (by omega), aB.2.2.2.2 _ (by omega) (by omega), aA.2.2.2.1, v9e]
          · rw [aC.2.2.2.2 _ (by omega) (by omega), aB.2.2.2.1, v11e]
        · rw [s47 (42 + m) (by omega) (by omega) (by omega) (by omega), s47 (48 + m) (by omega) (by omega) (by omega) (by omega), s47 (66 + m) (by omega) (by omega) (by omega) (by omega)]
          exact hv m m0 (by omega))
      rw [o17, o18, o16, o12, o29, o31, o32] at g
      refine po_mono g (fun r hr => ⟨⟨hr.1.1, fun q hq => (hr.1.2.1 q hq).trans (oth q hq), fun i i0 hi => (hr.1.2.2 i i0 hi).trans (s47 i i0 (by omega) (by omega) (by omega))⟩, hr.2⟩)
theorem v_begins_23 (hF : IFm F) : ∀ {n : Nat} {A : Nat → Nat → Int32} {J : Nat → Nat → Int64} {x1 : Int32}, IAm A → 0 ≤ x1.toInt → x1.toInt ≤ ai A 19 (F 18).toInt → (∀ k : Int, 0 ≤ k → k < x1.toInt → ai A 47 k = ai A 21 (6 * (F 18).toInt + k)) → (∀ i, x1.toInt ≤ i → i < 100 → ai A 47 i = 0) → po (d_begins_23 n F A J x1) (fun r => BGv (F 18).toInt A r.2.2.1) := by
  intro n
  induction n with
  | zero => intro A J x1 _ _ _ _ _ r hr; cases hr
  | succ n ih =>
    intro A J x1 hA h0 h1 hv hz
    have r18 : 0 ≤ (F 18).toInt ∧ (F 18).toInt ≤ 1 := hF 18
    have a19 : 0 ≤ ai A 19 (F 18).toInt ∧ ai A 19 (F 18).toInt ≤ 6 := hA 19 (F 18).toInt r18.1
    have a17 : 0 ≤ ai A 17 (F 18).toInt ∧ ai A 17 (F 18).toInt ≤ 6 := hA 17 (F 18).toInt r18.1
    have a29 : 0 ≤ ai A 29 (F 18).toInt ∧ ai A 29 (F 18).toInt ≤ 6 := hA 29 (F 18).toInt r18.1
    unfold d_begins_23 d_tasksNow
    refine po_call (R := fun v => v.toInt = ai A 19 (F 18).toInt) (po_bl (fun v e => po_some (by rw [(gg_ld e).2.2]; rfl))) ?_
    intro v3 v3e
    refine po_cond (fun c => ?_) (fun c => ?_)
    · rw [i_ge, v3e] at c
      refine po_mono (v_begins_59 hF hA (by decide) (by rw [i_0]; omega) (hz 78 (by omega) (by decide)) (fun k k0 k1 => absurd k1 (by rw [i_0]; omega))) (fun r hr => ?_)
      obtain ⟨⟨-, -, f⟩, b78, bt, bm⟩ := hr
      refine ⟨fun k k0 k1 => ?_, fun k k0 k1 => ⟨fun k2 => ?_, fun k2 => ?_⟩, fun k k0 k1 => ⟨fun k2 => bt k k0 k2, fun k2 => ?_⟩, bm, b78, fun m m0 m1 => ⟨?_, ?_⟩, ?_⟩
      · rw [f (6 + k) (by omega) (by omega)]; exact hz _ (by omega) (by omega)
      · rw [f k (by omega) (by omega)]; exact hv k k0 (by omega)
      · rw [f k (by omega) (by omega)]; exact hz _ (by omega) (by omega)
      · rw [f (72 + k) (by omega) (by omega)]; exact hz _ (by omega) (by omega)
      · rw [f (54 + m) (by omega) (by omega)]; exact hz _ (by omega) (by omega)
      · rw [f (60 + m) (by omega) (by omega)]; exact hz _ (by omega) (by omega)
      · rw [f 79 (by decide) (by omega)]; exact hz _ (by omega) (by decide)
    · rw [i_nge, v3e] at c
      have em := i_mulL (c := 6) (k := 6) (x := F 18) (by decide) (by omega) (by omega)
      have ei := i_add (x := 6 * F 18) (y := x1) (by omega) (by omega)
      have e1 := i_add (x := x1) (y := 1) (by rw [i_1]; omega) (by rw [i_1]; omega)
      rw [i_1] at e1
      refine po_bl (fun v5 e5 => ?_)
      have v5e : v5.toInt = ai A 21 (6 * (F 18).toInt + x1.toInt) := by rw [(gg_ld e5).2.2, ei, em]; rfl
      refine po_bl (fun A6 eA => ?_)
      have aA := gg_st eA
      have hA' : IAm A6 := by
        intro j i hi
        by_cases ej : j = 47
        · subst ej; trivial
        · rw [ai_fr (aA.2.2.1 j ej)]; exact hA j i hi
      have o : ∀ q, q ≠ 47 → ai A6 q = ai A q := fun q hq => ai_fr (aA.2.2.1 q hq)
      have g := ih (J := J) (x1 := x1 + 1) hA' (by omega) (by rw [o 19 (by decide)]; omega) (fun k k0 k1 => by
        rw [o 21 (by decide)]
        by_cases e : k = x1.toInt
        · rw [e, aA.2.2.2.1, v5e]
        · rw [aA.2.2.2.2 k k0 e]; exact hv k k0 (by omega)) (fun i i0 i1 => by rw [aA.2.2.2.2 i (by omega) (by omega)]; exact hz i (by omega) i1)
      refine po_mono g (fun r hr => ?_)
      unfold BGv at hr ⊢
      rw [o 19 (by decide), o 21 (by decide), o 17 (by decide), o 18 (by decide), o 29 (by decide), o 31 (by decide), o 32 (by decide), o 16 (by decide), o 12 (by decide)] at hr
      exact hr
theorem v_begins_2 (hF : IFm F) : ∀ {n : Nat} {A : Nat → Nat → Int32} {J : Nat → Nat → Int64} {x1 : Int32}, IAm A → 0 ≤ x1.toInt → x1.toInt ≤ 100 → (∀ i, 0 ≤ i → i < x1.toInt → ai A 47 i = 0) → po (d_begins_2 n F A J x1) (fun r => BGv (F 18).toInt A r.2.2.1) := by
  have l100 : (100 : Int32).toInt = 100 := by decide
  intro n
  induction n with
  | zero => intro A J x1 _ _ _ _ r hr; cases hr
  | succ n ih =>
    intro A J x1 hA h0 h1 hz
    have r18 : 0 ≤ (F 18).toInt ∧ (F 18).toInt ≤ 1 := hF 18
    have a19 : 0 ≤ ai A 19 (F 18).toInt ∧ ai A 19 (F 18).toInt ≤ 6 := hA 19 (F 18).toInt r18.1
    unfold d_begins_2
    refine po_cond (fun c => ?_) (fun c => ?_)
    · rw [i_ge, l100] at c
      exact v_begins_23 hF hA (by decide) (by rw [i_0]; omega) (fun k k0 k1 => absurd k1 (by rw [i_0]; omega)) (fun i i0 i1 => hz i (by rw [i_0] at i0; exact i0) (by omega))
    · rw [i_nge, l100] at c
      have e1 := i_add (x := x1) (y := 1) (by rw [i_1]; omega) (by rw [i_1]; omega)
      rw [i_1] at e1
      refine po_bl (fun A2 eA => ?_)
      have aA := gg_st eA
      have hA' : IAm A2 := by
        intro j i hi
        by_cases ej : j = 47
        · subst ej; trivial
        · rw [ai_fr (aA.2.2.1 j ej)]; exact hA j i hi
      have o : ∀ q, q ≠ 47 → ai A2 q = ai A q := fun q hq => ai_fr (aA.2.2.1 q hq)
      have g := ih (J := J) (x1 := x1 + 1) hA' (by omega) (by omega) (fun i i0 i1 => by
        by_cases e : i = x1.toInt
        · rw [e, aA.2.2.2.1, i_0]
        · rw [aA.2.2.2.2 i i0 e]; exact hz i i0 (by omega))
      refine po_mono g (fun r hr => ?_)
      unfold BGv at hr ⊢
      rw [o 19 (by decide), o 21 (by decide), o 17 (by decide), o 18 (by decide), o 29 (by decide), o 31 (by decide), o 32 (by decide), o 16 (by decide), o 12 (by decide)] at hr
      exact hr
theorem v_begins {n : Nat} (hF : IFm F) (hA : IAm A) : po (d_begins n F A J) (fun r => BGv (F 18).toInt A r.2.2.1) := by
  unfold d_begins
  exact v_begins_2 hF hA (by decide) (by decide) (fun i i0 i1 => absurd i1 (by rw [i_0]; omega))
end B7z
end Qz114
section Qz115
/-! a whole text, side by side -/
/-- the house in use, on both sides -/
def HC (h : Nat) (F : Nat → Nat → Int32) (A : Nat → Nat → Nat → Int32) (Fm : Nat → Int32) (Am : Nat → Nat → Int32) : Prop := (∀ q, q < 4 → F h (cq q) = Am (rq q) (Fm 18).toInt.toNat) ∧ (F h 14 = Am 12 (Fm 18).toInt.toNat) ∧ (∀ k : Int, 0 ≤ k → k < (F h 16).toInt → ci A h 5 k = ai Am 22 (6 * (Fm 18).toInt + k))
theorem HC.cn {h : Nat} {F : Nat → Nat → Int32} {A : Nat → Nat → Nat → Int32} {Fm : Nat → Int32} {Am : Nat → Nat → Int32} (h_ : HC h F A Fm Am) : ∀ q, q < 4 → F h (cq q) = Am (rq q) (Fm 18).toInt.toNat := h_.1
theorem HC.dr {h : Nat} {F : Nat → Nat → Int32} {A : Nat → Nat → Nat → Int32} {Fm : Nat → Int32} {Am : Nat → Nat → Int32} (h_ : HC h F A Fm Am) : F h 14 = Am 12 (Fm 18).toInt.toNat := h_.2.1
theorem HC.sc {h : Nat} {F : Nat → Nat → Int32} {A : Nat → Nat → Nat → Int32} {Fm : Nat → Int32} {Am : Nat → Nat → Int32} (h_ : HC h F A Fm Am) : ∀ k : Int, 0 ≤ k → k < (F h 16).toInt → ci A h 5 k = ai Am 22 (6 * (Fm 18).toInt + k) := h_.2.2
/-- the house in use, row by row -/
def HWx (h : Nat) (F : Nat → Nat → Int32) (A : Nat → Nat → Nat → Int32) (Fm : Nat → Int32) (Am : Nat → Nat → Int32) : Prop := (∀ k : Int, 0 ≤ k → k < (F h 14).toInt → ci A h 1 k = ai Am 13 (12 * (Fm 18).toInt + k) ∧ ci A h 2 k = ai Am 14 (12 * (Fm 18).toInt + k) ∧ ci A h 3 k = ai Am 15 (12 * (Fm 18).toInt + k)) ∧ (∀ k : Int, 0 ≤ k → k < (F h 16).toInt → ci A h 4 k = ai Am 20 (6 * (Fm 18).toInt + k)) ∧ RWs (F h 16).toInt (Fm 18).toInt h A Am ∧ (∀ k : Int, 0 ≤ k → k < (F h 17).toInt → ci A h 12 k = ai Am 30 (6 * (Fm 18).toInt + k)) ∧ RWn (Fm 18).toInt h F Am
/-- the laws of the house in use -/
def LHx (h : Nat) (F : Nat → Nat → Int32) (A : Nat → Nat → Nat → Int32) (Fm : Nat → Int32) (Am : Nat → Nat → Int32) : Prop := ∀ m : Int, 0 ≤ m → m < (F h 17).toInt → (ci A h 14 m = -1 ∧ ai Am 34 (6 * (Fm 18).toInt + m) = ai Am 35 (6 * (Fm 18).toInt + m)) ∨ ∃ C B e, LWx C B h A Am (ci A h 14 m) (ai Am 34 (6 * (Fm 18).toInt + m)) (ai Am 35 (6 * (Fm 18).toInt + m)) e ∧ e ≤ (F h 1304).toInt
/-- an evening: the class's region r, the reference's row j from b on; nm men -/
def SVx (nm : Int) (r : Nat) (F : Nat → Nat → Int32) (A : Nat → Nat → Nat → Int32) (Am : Nat → Nat → Int32) (j : Nat) (b : Int) : Prop := (∀ k : Int, 0 ≤ k → k < 36 → ci A r 1 k = ai Am j (b + (6 + k))) ∧ (∀ k : Int, 0 ≤ k → k < 6 → ci A r 2 k = ai Am j (b + k)) ∧ (∀ k : Int, 0 ≤ k → k < 6 → ci A r 4 k = ai Am j (b + (72 + k))) ∧ (∀ m : Int, 0 ≤ m → m < nm → LFx (A r 3 m.toNat) (Am j (b + (42 + m)).toNat) (Am j (b + (48 + m)).toNat) ∧ ci A r 5 m = ai Am j (b + (54 + m)) ∧ ci A r 6 m = ai Am j (b + (60 + m)) ∧ ci A r 7 m = ai Am j (b + (66 + m))) ∧ (F r 7).toInt = ai Am j (b + 78) ∧ (F r 8).toInt = ai Am j (b + 79)
section B8
variable {T : TS} {d n m : Nat} {l s : Int} {P : Nat → Nat → Nat} {F F' F0 : Nat → Nat → Int32} {A A' A0 : Nat → Nat → Nat → Int32} {J J' : Nat → Nat → Nat → Int64} {Fm Fm' Fm0 : Nat → Int32} {Am Am' Am0 : Nat → Nat → Int32} {Jm Jm' : Nat → Nat → Int64} {s1 x4 : Int32}
/-- what the reference's read comes to, by its faults -/
def R2m (F : Nat → Int32) (A : Nat → Nat → Int32) (r : mR Int32) : Prop := (∀ q, q ≤ 44 → r.2.2.1 q = A q) ∧ (((F 13).toInt ≠ 0 ∧ r.1 = F 13 ∧ (∀ q, q ≠ 17 → r.2.1 q = F q) ∧ r.2.2.1 = A) ∨ ((F 13).toInt = 0 ∧ (F 15).toInt ≠ 0 ∧ r.1 = F 15 ∧ (∀ q, q ≠ 17 → r.2.1 q = F q) ∧ r.2.2.1 = A) ∨ ((F 13).toInt = 0 ∧ (F 15).toInt = 0 ∧ r.1 = 0 ∧ r.2.1 18 = F 19 ∧ BGv (F 19).toInt A r.2.2.1 ∧ (r.2.1 74).toInt = 0 ∧ (r.2.1 77).toInt = 0 ∧ (∀ i, 0 ≤ i → i < 3 → ai r.2.2.1 61 i = 0)))
theorem r271 (R : RDm l s Fm0 Fm Am0 Am) (hn : 400 ≤ n) : ok (d_read_271 n Fm Am Jm s1) (R2m Fm Am) := by
  obtain ⟨a1, a2, a3, a4, a5, a6, a7, a8, a9, a10, a11, a12⟩ := R
  have r13 : 0 ≤ (Fm 13).toInt ∧ (Fm 13).toInt ≤ 5 := a1 13
  have r15 : 0 ≤ (Fm 15).toInt ∧ (Fm 15).toInt ≤ 5 := a1 15
  have l0 : (0 : Int32).toInt = 0 := by decide
  unfold d_read_271
  refine ok_pf a1 trivial ?_
  intro F3 hF3 k3 o3
  have g13 : F3 13 = Fm 13 := o3 13 (by decide)
  have g15 : F3 15 = Fm 15 := o3 15 (by decide)
  refine ok_cond (fun c1 => ?_) (fun c1 => ?_)
  · rw [i_le, g13] at c1
    refine ok_cond (fun c2 => ?_) (fun c2 => ?_)
    · rw [i_le, g15] at c2
      have g19 : F3 19 = Fm 19 := o3 19 (by decide)
      refine ok_pf hF3 (show 0 ≤ (F3 19).toInt ∧ (F3 19).toInt ≤ 1 from hF3 19) ?_
      intro F4 hF4 k4 o4
      have e18 : (F4 18).toInt = s := by rw [k4, g19]; exact a4
      have X := (a10.resolve_left (by omega)).resolve_left (by omega)
      refine ok_call (ok_and (s_d_begins (k := ai Am 29 (F4 18).toInt) hF4 a2 rfl (by rw [e18]; exact X.2.2.2) (by omega)) (v_begins hF4 a2)) ?_
      rintro ⟨u, F5, A5, J5⟩ ⟨⟨q1, q2, q3, q4⟩, q5⟩
      dsimp only at q1 q2 q3 q4 q5 ⊢
      subst q1
      refine ok_pf hF4 (show 0 ≤ (0 : Int32).toInt ∧ (0 : Int32).toInt ≤ 20 by decide) ?_
      intro F6 hF6 k6 o6
      refine ok_pf hF6 (show 0 ≤ (0 : Int32).toInt ∧ (0 : Int32).toInt ≤ 30 by decide) ?_
      intro F7 hF7 k7 o7
      refine s_d_read_322 q2 (fun i h0 h1 => absurd h1 (by omega)) (by decide) (by omega) ?_
      intro A8 J8 w1 w2 w3
      refine ⟨fun q hq => (w2 q (by omega)).trans (q3 q (by omega)), .inr (.inr ⟨by omega, by omega, rfl, ?_, ?_, ?_, ?_, w3⟩)⟩
      · show F7 18 = Fm 19
        rw [o7 18 (by decide), o6 18 (by decide), k4, g19]
      · have q5' : BGv (F5 18).toInt Am A5 := q5
        rw [k4, g19] at q5'
        exact q5'.fr (w2 47 (by decide))
      · show (F7 74).toInt = 0
        rw [o7 74 (by decide), k6]; decide
      · show (F7 77).toInt = 0
        rw [k7]; decide
    · rw [i_nle, g15] at c2
      exact ok_some ⟨fun _ _ => rfl, .inr (.inl ⟨by omega, by omega, g15, o3, rfl⟩)⟩
  · rw [i_nle, g13] at c1
    exact ok_some ⟨fun _ _ => rfl, .inl ⟨by omega, g13, o3, rfl⟩⟩
theorem r241 (R : RDm l s Fm0 Fm Am0 Am) (hn : 400 ≤ n) : po (d_read_241 n Fm Am Jm) (R2m Fm Am) := by
  unfold d_read_241
  exact po_cond (fun _ => po_cond (fun _ => (r271 R hn).po) (fun _ => (r271 R hn).po)) (fun _ => (r271 R hn).po)
/-- what both leave of a text -/
def RQ (d : Nat) (l : Int) (Fm0 : Nat → Int32) (Am0 : Nat → Nat → Int32) (a : cR Int32) (b : mR Int32) : Prop := a.1 = b.1 ∧ (a.1.toInt = 0 → HC d a.2.2.1 a.2.2.2.1 b.2.1 b.2.2.1 ∧ (HWx d a.2.2.1 a.2.2.2.1 b.2.1 b.2.2.1 ∧ LHx d a.2.2.1 a.2.2.2.1 b.2.1 b.2.2.1 ∧ SVx (a.2.2.1 d 17).toInt 3 a.2.2.1 a.2.2.2.1 b.2.2.1 47 0) ∧ (b.2.1 74).toInt = 0 ∧ (b.2.1 77).toInt = 0 ∧ (∀ i, 0 ≤ i → i < 3 → ai b.2.2.1 61 i = 0)) ∧ (a.1.toInt ≠ 0 → (∀ q, q ∉ ([11, 12, 13, 14, 15, 16, 17, 20, 49, 56, 60] : List Nat) → b.2.1 q = Fm0 q) ∧ LSm l Am0 b.2.2.1 ∧ (∀ q, 45 ≤ q → b.2.2.1 q = Am0 q))
theorem RDm.ff (R : RDm l s Fm0 Fm Am0 Am) {r : mR Int32} (h1 : ∀ q, q ≠ 17 → r.2.1 q = Fm q) (h2 : r.2.2.1 = Am) : (∀ q, q ∉ ([11, 12, 13, 14, 15, 16, 17, 20, 49, 56, 60] : List Nat) → r.2.1 q = Fm0 q) ∧ LSm l Am0 r.2.2.1 ∧ (∀ q, 45 ≤ q → r.2.2.1 q = Am0 q) := by
  obtain ⟨a1, a2, a3, a4, a5, a6, a7, a8, a9, a10, a11, a12⟩ := R
  rw [h2]
  refine ⟨fun q hq => ?_, a6, a12⟩
  rw [h1 q (fun e => hq (by rw [e]; decide))]
  exact a11 q (fun e => hq ((by decide : ∀ x, x ∈ ([11, 12, 13, 14, 15, 16, 20, 49, 56, 60] : List Nat) → x ∈ ([11, 12, 13, 14, 15, 16, 17, 20, 49, 56, 60] : List Nat)) q e))
/-- the end, without a fault of form -/
theorem q_end (R : RT T F Fm) (H : RH d F A J Fm Am Jm) (W : RW d F A Fm Am) (L : RL (Fm 19).toInt d F A Fm Am) (hd : d ≠ 37) (D : RDm l s Fm0 Fm Am0 Am) (hn : 400 ≤ m) : P2 (e_Reader_readText_171 n P F A J) (d_read_241 m Fm Am Jm) (RQ d l Fm0 Am0) := by
  unfold e_Reader_readText_171
  rw [i_nne.mpr (by rw [R.f0]; rfl), cond_false]
  refine p2_bl (fun F1 e1 => ?_)
  have U1 := gg_cpf e1
  refine p2_bl (fun F2 e2 => ?_)
  have U2 := gg_cpf e2
  refine p2_of (R := fun a => a = (F2 37 10, P, F2, A, J)) (po_some rfl) (r241 D hn) ?_
  rintro _ b rfl hb
  have e10 : F2 37 10 = Fm 15 := by rw [U2.2 37 10 (by decide), U1.1, R.lt]
  have fd : ∀ k, F2 d k = F d k := fun k => by rw [U2.2 d k (fun e => hd e.1), U1.2 d k (fun e => hd e.1)]
  obtain ⟨hA, hb⟩ := hb
  rcases hb with ⟨h, -⟩ | ⟨-, h15, h1, h2, h3⟩ | ⟨-, h15, h1, h18, hbg, h74, h77, h61⟩
  · exact absurd R.g0 h
  · refine ⟨by show F2 37 10 = b.1; rw [e10, h1], fun h => ?_, fun _ => D.ff h2 h3⟩
    have h : (F2 37 10).toInt = 0 := h
    rw [e10] at h
    exact absurd h h15
  · refine ⟨by show F2 37 10 = b.1; rw [e10, h1]; exact i_ext h15, fun _ => ⟨⟨fun q hq => ?_, ?_, fun k k0 k1 => ?_⟩, ?_, h74, h77, h61⟩, fun h => ?_⟩
    · show F2 d (cq q) = b.2.2.1 (rq q) (b.2.1 18).toInt.toNat
      rw [fd, hA (rq q) (by have := rq_in q; omega), h18]
      exact H.cn q hq
    · show F2 d 14 = b.2.2.1 12 (b.2.1 18).toInt.toNat
      rw [fd, hA 12 (by decide), h18]
      exact H.dr
    · show ci A d 5 k = ai b.2.2.1 22 (6 * (b.2.1 18).toInt + k)
      have k1 : k < (F2 d 16).toInt := k1
      rw [fd] at k1
      rw [ai_fr (hA 22 (by decide)), h18]
      exact H.sc k k0 k1
    · have f3 : ∀ k, F2 3 k = F 3 k := fun k => by rw [U2.2 3 k (by omega), U1.2 3 k (by omega)]
      have s0 := H.s0
      have cn1 : F d 15 = Am 17 (Fm 19).toInt.toNat := H.cn 1 (by decide)
      have cn2 : F d 16 = Am 19 (Fm 19).toInt.toNat := H.cn 2 (by decide)
      have cn3 : F d 17 = Am 29 (Fm 19).toInt.toNat := H.cn 3 (by decide)
      have cdr := H.dr
      have bd2 := H.nr.bd 2 (by decide)
      have bd1 := H.nr.bd 1 (by decide)
      have bd3 := H.nr.bd 3 (by decide)
      have bd2 : 0 ≤ (F d 16).toInt ∧ (F d 16).toInt ≤ 6 := bd2
      have bd1 : 0 ≤ (F d 15).toInt ∧ (F d 15).toInt ≤ 6 := bd1
      have bd3 : 0 ≤ (F d 17).toInt ∧ (F d 17).toInt ≤ 6 := bd3
      obtain ⟨w1, w2, w3, w4, w5, w6, w7⟩ := W
      show HWx d F2 A b.2.1 b.2.2.1 ∧ LHx d F2 A b.2.1 b.2.2.1 ∧ SVx (F2 d 17).toInt 3 F2 A b.2.2.1 47 0
      have m : ∀ q, q ≤ 44 → ai b.2.2.1 q = ai Am q := fun q hq => ai_fr (hA q hq)
      refine ⟨⟨?_, ?_, ?_, ?_, ?_⟩, ?_, ?_⟩
      · rw [fd, h18, m 13 (by decide), m 14 (by decide), m 15 (by decide)]; exact w1.1
      · rw [fd, h18, m 20 (by decide)]; exact fun k k0 k1 => (w3.1 k k0 k1).1
      · rw [fd, h18]
        unfold RWs
        rw [m 23 (by decide), m 24 (by decide), m 25 (by decide), m 26 (by decide), m 27 (by decide), m 28 (by decide)]
        exact w4
      · rw [fd, h18, m 30 (by decide)]; exact fun k k0 k1 => (w5.1 k k0 k1).1
      · show F2 d 18 = b.2.2.1 41 (b.2.1 18).toInt.toNat
        rw [fd, h18, hA 41 (by decide)]; exact w7
      · intro k k0 k1
        rw [fd] at k1
        rw [fd, h18, m 34 (by decide), m 35 (by decide)]
        rcases L.2 k k0 (by omega) with h | ⟨e, h, he⟩
        · exact .inl h
        · exact .inr ⟨_, _, e, h.fr (L := (F d 1304).toInt) ⟨fun _ _ _ => ⟨rfl, rfl⟩, fun i _ _ => by rw [m 42 (by decide), m 43 (by decide)]; exact ⟨rfl, rfl⟩, fun q h1 h2 i _ _ => by rw [m q (by omega)]⟩ he (Int.le_refl _) (Int.le_refl _), he⟩
      · rw [fd]
        obtain ⟨g1, g2, g3, g4, g5, g6⟩ := hbg
        unfold ai at g2 g3 g4 g5
        rw [← cn2] at g2
        rw [← cn3] at g4
        rw [← cn1] at g3
        rw [← cdr] at g5
        refine ⟨fun k k0 k1 => ?_, fun k k0 k1 => ?_, fun k k0 k1 => ?_, fun k k0 k1 => ⟨?_, ?_, ?_, ?_⟩, ?_, ?_⟩
        · rw [w6.1 k k0 k1, show (0 : Int) + (6 + k) = 6 + k by omega]; exact (g1 k k0 k1).symm
        · rw [show (0 : Int) + k = k by omega]
          by_cases c : k < (F d 16).toInt
          · rw [(w3.1 k k0 c).2]; exact ((g2 k k0 k1).1 c).symm
          · rw [w3.2 k (by omega) k1]; exact ((g2 k k0 k1).2 (by omega)).symm
        · rw [show (0 : Int) + (72 + k) = 72 + k by omega]
          by_cases c : k < (F d 15).toInt
          · rw [w2.1 k k0 c]; exact ((g3 k k0 k1).1 c).symm
          · rw [w2.2 k (by omega) k1]; exact ((g3 k k0 k1).2 (by omega)).symm
        · obtain ⟨p1, p2, -⟩ := g4 k k0 k1
          rw [show (0 : Int) + (42 + k) = 42 + k by omega, show (0 : Int) + (48 + k) = 48 + k by omega, i_ext p1, i_ext p2]
          exact (w5.1 k k0 k1).2
        · rw [show (0 : Int) + (54 + k) = 54 + k by omega, (w6.2.1 k k0 (by omega)).1]; exact (g6.1 k k0 (by omega)).1.symm
        · rw [show (0 : Int) + (60 + k) = 60 + k by omega, (w6.2.1 k k0 (by omega)).2.1]; exact (g6.1 k k0 (by omega)).2.symm
        · rw [show (0 : Int) + (66 + k) = 66 + k by omega, (w6.2.1 k k0 (by omega)).2.2]; exact (g4 k k0 k1).2.2.symm
        · rw [f3, w1.2]; exact g5.symm
        · rw [f3, w6.2.2]; exact g6.2.symm
    · have h : (F2 37 10).toInt ≠ 0 := h
      rw [e10] at h
      exact absurd h15 h
/-- the class's sentence -/
def gsent (n : Nat) (P : Nat → Nat → Nat) (F : Nat → Nat → Int32) (A : Nat → Nat → Nat → Int32) (J : Nat → Nat → Nat → Int64) : Option (cR Unit) :=
    (m_ld (A 37 2) 401 (F 37 7)).bind fun v10 =>
    cond (decide (v10 = 0)) (e_Reader_readRoom n P F A J)
    (cond (decide (v10 = 1)) (e_Reader_readDoor n P F A J)
    (cond (decide (v10 = 2)) (e_Reader_readTool n P F A J)
    (cond (decide (v10 = 3)) (e_Reader_readTask n P F A J)
    (cond (decide (v10 = 4)) (e_Reader_readStep n P F A J)
    (cond (decide (v10 = 5)) (e_Reader_readMan n P F A J)
    (cond (decide (v10 = 6)) (e_Reader_readLaw n P F A J)
    (cond (decide (v10 = 7)) (e_Reader_readNight P F A J)
    ((m_ld (A 37 3) 401 (F 37 7)).bind fun v52 => e_Reader_fail P F A J 1 v52))))))))
theorem cond_bind {α β : Type} {c : Bool} {x y : Option α} {f : α → Option β} : (cond c x y).bind f = cond c (x.bind f) (y.bind f) := by cases c <;> rfl
theorem text_g : e_Reader_readText_10 (n + 1) P F A J x4 = cond (g_cnd .gt x4 400) (e_Reader_readText_171 n P F A J) (cond (g_cnd .ne (F 37 10) 0) (e_Reader_readText_171 n P F A J) ((e_Reader_isNext P F A J 102).bind fun v8 => cond (g_cnd .ne v8 0) (e_Reader_readText_171 n P F A J) ((gsent n P F A J).bind fun (_, P54, F55, A56, J57) => e_Reader_readText_10 n P54 F55 A56 J57 (x4 + 1)))) := by
  conv => lhs; unfold e_Reader_readText_10
  unfold gsent e_Reader_readText_165
  simp only [cond_bind, Option.bind_assoc]
/-- one sentence, on both sides -/
theorem q_sent (K : TKs T) (R : RT T F Fm) (X : RX T A J Am Jm) (H : RH d F A J Fm Am Jm) (W : RW d F A Fm Am) (L : RL (Fm 19).toInt d F A Fm Am) (l56 : 0 ≤ (Fm 56).toInt ∧ 0 ≤ (Fm 49).toInt) (h5 : P 37 5 = d) (h6 : P 37 6 = 3) (hk : c_kind d = 6) (V : RVc d F0 F A0 A) (hn : 600 ≤ n) : P2 (gsent n P F A J) (d_tell0 m Fm Am Jm) (fun a b => RSL T d a b ∧ RXc P d F0 A0 a) := by
  have t0 := R.t0
  have t1 := R.t1
  have tk := R.tk
  have s0 := H.s0
  have s1 := H.s1
  have c7 : 0 ≤ (F 37 7).toInt ∧ (F 37 7).toInt ≤ 400 := by rw [tk]; exact ⟨t0, t1⟩
  have kr : KR (A 37 2 (F 37 7).toInt.toNat).toInt (Am 3 (Fm 11).toInt.toNat).toInt := by
    rw [X.a2, X.m3, tk]
    exact K.kd _ (by omega) (fun j hj => R.lv j (by omega))
  have Rr : Rc F A := V.1
  have hh := Rr.h hk
  have lt : (F d 1304).toInt ≤ (Fm 11).toInt := by
    have a := V.2.2.2.1.resolve_left (fun h => h R.f0)
    rw [← tk]
    exact a
  have b9 : 0 ≤ (F 37 9).toInt ∧ (F 37 9).toInt ≤ 8 := Rr.1 37 9
  unfold gsent d_tell0
  rw [m_ld_in c7.1 (by omega), Option.bind_some, m_ld_in t0 (by omega), Option.bind_some]
  generalize hc : A 37 2 (F 37 7).toInt.toNat = c at kr
  generalize hm : Am 3 (Fm 11).toInt.toNat = z at kr
  have dz : ∀ {a b : Int32} {p q : Int}, a.toInt = p → b.toInt = q → p = q → decide (a = b) = true := fun h1 h2 h3 => i_dec.mpr (by rw [h1, h2, h3])
  have dn : ∀ {a b : Int32} {p q : Int}, a.toInt = p → b.toInt = q → p ≠ q → decide (a = b) = false := fun h1 h2 h3 => i_ndec.mpr (by rw [h1, h2]; exact h3)
  have g11 : m_ld (Am 11) 2 (Fm 19) = some (Am 11 (Fm 19).toInt.toNat) := m_ld_in s0 (by omega)
  have g12 : m_ld (Am 12) 2 (Fm 19) = some (Am 12 (Fm 19).toInt.toNat) := m_ld_in s0 (by omega)
  have g17 : m_ld (Am 17) 2 (Fm 19) = some (Am 17 (Fm 19).toInt.toNat) := m_ld_in s0 (by omega)
  have g19 : m_ld (Am 19) 2 (Fm 19) = some (Am 19 (Fm 19).toInt.toNat) := m_ld_in s0 (by omega)
  have g29 : m_ld (Am 29) 2 (Fm 19) = some (Am 29 (Fm 19).toInt.toNat) := m_ld_in s0 (by omega)
  have g33 : m_ld (Am 33) 2 (Fm 19) = some (Am 33 (Fm 19).toInt.toNat) := m_ld_in s0 (by omega)
  rw [g11, g12, g17, g19, g29, g33]
  simp only [Option.bind_some]
  obtain ⟨pc, hpc⟩ : ∃ p, c.toInt = p := ⟨_, rfl⟩
  obtain ⟨pz, hpz⟩ : ∃ p, z.toInt = p := ⟨_, rfl⟩
  rw [hpc, hpz] at kr
  have w : ∀ k : Nat, k ≤ 40 → (Int32.ofNat k).toInt = (k : Int) := by decide
  have e0 : (0 : Int32).toInt = 0 := by decide
  have e1 : (1 : Int32).toInt = 1 := by decide
  have e2 : (2 : Int32).toInt = 2 := by decide
  have e3 : (3 : Int32).toInt = 3 := by decide
  have e4 : (4 : Int32).toInt = 4 := by decide
  have e5 : (5 : Int32).toInt = 5 := by decide
  have e6 : (6 : Int32).toInt = 6 := by decide
  have e7 : (7 : Int32).toInt = 7 := by decide
  have e20 : (20 : Int32).toInt = 20 := by decide
  have e21 : (21 : Int32).toInt = 21 := by decide
  have e22 : (22 : Int32).toInt = 22 := by decide
  have e23 : (23 : Int32).toInt = 23 := by decide
  have e24 : (24 : Int32).toInt = 24 := by decide
  have e25 : (25 : Int32).toInt = 25 := by decide
  have e26 : (26 : Int32).toInt = 26 := by decide
  have e27 : (27 : Int32).toInt = 27 := by decide
  have e28 : (28 : Int32).toInt = 28 := by decide
  have e29 : (29 : Int32).toInt = 29 := by decide
  have e30 : (30 : Int32).toInt = 30 := by decide
  have e31 : (31 : Int32).toInt = 31 := by decide
  have e32 : (32 : Int32).toInt = 32 := by decide
  have e33 : (33 : Int32).toInt = 33 := by decide
  have e34 : (34 : Int32).toInt = 34 := by decide
  have bad : (¬ (pc = 0 ∨ pc = 1 ∨ pc = 2 ∨ pc = 3 ∨ pc = 4 ∨ pc = 5 ∨ pc = 6 ∨ pc = 7)) → P2 ((m_ld (A 37 3) 401 (F 37 7)).bind fun v52 => e_Reader_fail P F A J 1 v52) ((d_fail Fm Am Jm 1).bind fun (_, F24, A25, J26) => some ((), F24, A25, J26)) (fun a b => RSL T d a b ∧ RXc P d F0 A0 a) := by
    intro _
    rw [m_ld_in c7.1 (by omega), Option.bind_some]
    refine p2_okl (ok_mono (s_fail Rr (by decide)) (fun r hr => ⟨hr.1.1, V.q (kd37 hk) hr.1⟩)) ?_
    obtain ⟨F1, f1, h1, -⟩ := e_fail_0 (P := P) (F := F) (A := A) (J := J) (k := 1) (v := A 37 3 (F 37 7).toInt.toNat) R.f0
    obtain ⟨Fm1, m1, h1', -, -⟩ := d_fail_0 (F := Fm) (A := Am) (J := Jm) (k := 1) R.g0 t0 t1
    rw [f1, m1, Option.bind_some]
    exact p2_some (.inl (FE.mk' h1 h1' (by decide)))
  rcases (by decide : ∀ p ∈ kt, (p = (0, 20) ∨ p = (1, 21) ∨ p = (2, 23) ∨ p = (3, 24) ∨ p = (4, 25) ∨ p = (5, 28) ∨ p = (6, 30) ∨ p = (7, 34)) ∨ (¬ (p.1 = 0 ∨ p.1 = 1 ∨ p.1 = 2 ∨ p.1 = 3 ∨ p.1 = 4 ∨ p.1 = 5 ∨ p.1 = 6 ∨ p.1 = 7) ∧ ¬ (p.2 = 20 ∨ p.2 = 21 ∨ p.2 = 23 ∨ p.2 = 24 ∨ p.2 = 25 ∨ p.2 = 28 ∨ p.2 = 30 ∨ p.2 = 34))) _ kr with (h | h | h | h | h | h | h | h) | ⟨h1, h2⟩
  · obtain ⟨rfl, rfl⟩ := Prod.mk.inj h
    rw [dz hpc e0 rfl, dz hpz e20 rfl, cond_true, cond_true]
    exact p2_okl (s_readRoom h5 hk V (by omega)) (rs_l L (q_room K R X H W h5 hk (by rw [hm, hpz, e20])) (fl_e_Reader_readRoom FLh.rfl') (fm_s_Room FMh.rfl'))
  · obtain ⟨rfl, rfl⟩ := Prod.mk.inj h
    rw [dn hpc e0 (by decide), dz hpc e1 rfl, dn hpz e20 (by decide), dz hpz e21 rfl, cond_false, cond_true, cond_false, cond_true]
    exact p2_okl (s_readDoor h5 h6 hk V (by omega)) (rs_l L (q_door K R X H W hh.2.1.1 h5 h6 hk hh.2.1.2 (by rw [hm, hpz, e21])) (fl_e_Reader_readDoor FLh.rfl') (fm_s_Door FMh.rfl'))
  · obtain ⟨rfl, rfl⟩ := Prod.mk.inj h
    rw [dn hpc e0 (by decide), dn hpc e1 (by decide), dz hpc e2 rfl, dn hpz e20 (by decide), dn hpz e21 (by decide), dn hpz e22 (by decide), dz hpz e23 rfl]
    simp only [cond_false, cond_true]
    exact p2_okl (s_readTool h5 h6 hk V (by omega)) (rs_l L (q_tool K R X H W h5 h6 hk (by rw [hm, hpz, e23])) (fl_e_Reader_readTool FLh.rfl') (fm_s_Tool FMh.rfl'))
  · obtain ⟨rfl, rfl⟩ := Prod.mk.inj h
    rw [dn hpc e0 (by decide), dn hpc e1 (by decide), dn hpc e2 (by decide), dz hpc e3 rfl, dn hpz e20 (by decide), dn hpz e21 (by decide), dn hpz e22 (by decide), dn hpz e23 (by decide), dz hpz e24 rfl]
    simp only [cond_false, cond_true]
    exact p2_okl (s_readTask h5 h6 hk V (by omega)) (rs_l L (q_task K R X H W h5 h6 hk V.2.2.1 (by rw [hm, hpz, e24])) (fl_e_Reader_readTask FLh.rfl') (fm_s_Task FMh.rfl'))
  · obtain ⟨rfl, rfl⟩ := Prod.mk.inj h
    rw [dn hpc e0 (by decide), dn hpc e1 (by decide), dn hpc e2 (by decide), dn hpc e3 (by decide), dz hpc e4 rfl, dn hpz e20 (by decide), dn hpz e21 (by decide), dn hpz e22 (by decide), dn hpz e23 (by decide), dn hpz e24 (by decide), dz hpz e25 rfl]
    simp only [cond_false, cond_true]
    exact p2_okl (s_readStep h5 hk V (by omega)) (rs_l L (qq_step K R X H W Rr h5 hk (by rw [hm, hpz, e25])) (fl_e_Reader_readStep FLh.rfl') (fm_s_Step FMh.rfl'))
  · obtain ⟨rfl, rfl⟩ := Prod.mk.inj h
    rw [dn hpc e0 (by decide), dn hpc e1 (by decide), dn hpc e2 (by decide), dn hpc e3 (by decide), dn hpc e4 (by decide), dz hpc e5 rfl, dn hpz e20 (by decide), dn hpz e21 (by decide), dn hpz e22 (by decide), dn hpz e23 (by decide), dn hpz e24 (by decide), dn hpz e25 (by decide), dn hpz e26 (by decide), dn hpz e27 (by decide), dz hpz e28 rfl]
    simp only [cond_false, cond_true]
    exact p2_okl (s_readMan h5 h6 hk V (by omega)) (rs_l L (q_man K R X H W h5 h6 hk (by rw [hm, hpz, e28])) (fl_e_Reader_readMan FLh.rfl') (fm_s_Man FMh.rfl'))
  · obtain ⟨rfl, rfl⟩ := Prod.mk.inj h
    rw [dn hpc e0 (by decide), dn hpc e1 (by decide), dn hpc e2 (by decide), dn hpc e3 (by decide), dn hpc e4 (by decide), dn hpc e5 (by decide), dz hpc e6 rfl, dn hpz e20 (by decide), dn hpz e21 (by decide), dn hpz e22 (by decide), dn hpz e23 (by decide), dn hpz e24 (by decide), dn hpz e25 (by decide), dn hpz e26 (by decide), dn hpz e27 (by decide), dn hpz e28 (by decide), dn hpz e29 (by decide), dz hpz e30 rfl]
    simp only [cond_false, cond_true]
    exact p2_okl (s_readLaw h5 hk V (by omega)) (q_law K R X H W L l56 lt h5 hk b9.2 (by rw [hm, hpz, e30]))
  · obtain ⟨rfl, rfl⟩ := Prod.mk.inj h
    rw [dn hpc e0 (by decide), dn hpc e1 (by decide), dn hpc e2 (by decide), dn hpc e3 (by decide), dn hpc e4 (by decide), dn hpc e5 (by decide), dn hpc e6 (by decide), dz hpc e7 rfl, dn hpz e20 (by decide), dn hpz e21 (by decide), dn hpz e22 (by decide), dn hpz e23 (by decide), dn hpz e24 (by decide), dn hpz e25 (by decide), dn hpz e26 (by decide), dn hpz e27 (by decide), dn hpz e28 (by decide), dn hpz e29 (by decide), dn hpz e30 (by decide), dn hpz e31 (by decide), dn hpz e32 (by decide), dn hpz e33 (by decide), dz hpz e34 rfl]
    simp only [cond_false, cond_true]
    exact p2_okl (s_readNight h5 hk V) (rs_l L (q_night K R X H W h5 hk (by rw [hm, hpz, e34])) (fl_e_Reader_readNight FLh.rfl') (fm_s_Night FMh.rfl'))
  · have h1 : ¬ (pc = 0 ∨ pc = 1 ∨ pc = 2 ∨ pc = 3 ∨ pc = 4 ∨ pc = 5 ∨ pc = 6 ∨ pc = 7) := h1
    have h2 : ¬ (pz = 20 ∨ pz = 21 ∨ pz = 23 ∨ pz = 24 ∨ pz = 25 ∨ pz = 28 ∨ pz = 30 ∨ pz = 34) := h2
    rw [dn hpc e0 (by omega), dn hpc e1 (by omega), dn hpc e2 (by omega), dn hpc e3 (by omega), dn hpc e4 (by omega), dn hpc e5 (by omega), dn hpc e6 (by omega), dn hpc e7 (by omega), dn hpz e20 (by omega), dn hpz e21 (by omega), dn hpz e23 (by omega), dn hpz e24 (by omega), dn hpz e25 (by omega), dn hpz e28 (by omega), dn hpz e30 (by omega), dn hpz e34 (by omega)]
    simp only [cond_false]
    have B := bad h1
    exact p2_cr (fun _ => B) (fun _ => p2_cr (fun _ => B) (fun _ => p2_cr (fun _ => B) (fun _ => p2_cr (fun _ => B) (fun _ => p2_cr (fun _ => B) (fun _ => p2_cr (fun _ => B) (fun _ => p2_cr (fun _ => B) (fun _ => B)))))))
end B8
end Qz115
section Qz116
section B9
variable {T : TS} {d : Nat} {l s : Int} {P : Nat → Nat → Nat} {F0 : Nat → Nat → Int32} {A0 : Nat → Nat → Nat → Int32} {Fm0 : Nat → Int32} {Am0 : Nat → Nat → Int32}
/-- with a fault of form both come to their ends -/
theorem q_loop_ff {n m : Nat} {F : Nat → Nat → Int32} {A : Nat → Nat → Nat → Int32} {J : Nat → Nat → Nat → Int64} {Fm : Nat → Int32} {Am : Nat → Nat → Int32} {Jm : Nat → Nat → Int64} {x4 : Int32} (E : FE F Fm) (D : RDm l s Fm0 Fm Am0 Am) (hm : 402 ≤ m) : P2 (e_Reader_readText_10 n P F A J x4) (d_read_219 m Fm Am Jm) (RQ d l Fm0 Am0) := by
  have c : po (e_Reader_readText_10 n P F A J x4) (fun a => a.1 = F 37 10) := by
    have z : ∀ n, po (e_Reader_readText_171 n P F A J) (fun a => a.1 = F 37 10) := by
      intro n
      unfold e_Reader_readText_171
      rw [i_ne.mpr (by rw [i_0]; exact E.c), cond_true]
      exact po_some rfl
    cases n with
    | zero => intro r hr; cases hr
    | succ n =>
      rw [text_g]
      refine po_cond (fun _ => z n) (fun _ => ?_)
      rw [i_ne.mpr (by rw [i_0]; exact E.c), cond_true]
      exact z n
  have r : po (d_read_219 m Fm Am Jm) (R2m Fm Am) := by
    cases m with
    | zero => intro r hr; cases hr
    | succ m =>
      unfold d_read_219
      rw [E.nz, cond_true]
      exact r241 D (by omega)
  refine p2_of c r ?_
  intro a b ha hb
  have g := E.gg
  obtain ⟨-, hb⟩ := hb
  rcases hb with ⟨-, h1, h2, h3⟩ | ⟨h, -⟩ | ⟨h, -⟩
  · refine ⟨by rw [ha, h1]; exact E.1, fun h => ?_, fun _ => D.ff h2 h3⟩
    rw [ha] at h
    exact absurd h E.c
  · omega
  · omega
/-- all sentences of a text -/
theorem q_loop (K : TKs T) (h5 : P 37 5 = d) (h6 : P 37 6 = 3) (hk : c_kind d = 6) (hs : 0 ≤ s ∧ s ≤ 1 ∧ s = 1 - l) : ∀ {n m : Nat} {F : Nat → Nat → Int32} {A : Nat → Nat → Nat → Int32} {J : Nat → Nat → Nat → Int64} {Fm : Nat → Int32} {Am : Nat → Nat → Int32} {Jm : Nat → Nat → Int64} {x4 : Int32}, RT T F Fm → RX T A J Am Jm → RH d F A J Fm Am Jm → RW d F A Fm Am → RL (Fm 19).toInt d F A Fm Am → RVc d F0 F A0 A → RDm l s Fm0 Fm Am0 Am → 0 ≤ x4.toInt → x4.toInt ≤ (Fm 11).toInt → 1002 - x4.toInt < (n : Int) → 1502 - (Fm 11).toInt < (m : Int) → P2 (e_Reader_readText_10 n P F A J x4) (d_read_219 m Fm Am Jm) (RQ d l Fm0 Am0) := by
  have hd := kd37 hk
  intro n
  induction n with
  | zero => intro m F A J Fm Am Jm x4 _ _ _ _ _ _ _ _ _ _ _ a b ha _; cases ha
  | succ n ih =>
    intro m F A J Fm Am Jm x4 R X H W L V D x0 xt hn hm
    have t0 := R.t0
    have t1 := R.t1
    have l1 := i_1
    have l400 := i_400
    cases m with
    | zero => intro a b _ hb; cases hb
    | succ m =>
      rw [text_g]
      unfold d_read_219
      rw [i_ngt.mpr (by rw [l400]; omega), cond_false, i_nne.mpr (by rw [R.f0]; rfl), cond_false, R.nz, cond_false]
      refine p2_next K R X (k' := 0) (by decide) (fun _ => ?_) (fun _ => ?_)
      · rw [i_ne.mpr (by decide), cond_true, cond_true]
        exact q_end R H W L hd D (by omega)
      · rw [i_nne.mpr rfl, cond_false, cond_false]
        refine p2_call (p2_okr (s_d_tell0 hs D R.g0 (by omega)) (q_sent K R X H W L ⟨(D.1 56 : 0 ≤ (Fm 56).toInt ∧ (Fm 56).toInt ≤ 840).1, (D.1 49 : 0 ≤ (Fm 49).toInt ∧ (Fm 49).toInt ≤ 100).1⟩ h5 h6 hk V (by omega))) ?_
        rintro ⟨u, P1, F1, A1, J1⟩ ⟨u', Fm1, Am1, Jm1⟩ ⟨⟨rs, rx⟩, t0m⟩
        obtain ⟨rfl, V1⟩ := rx
        obtain ⟨D1, pr⟩ := t0m
        dsimp only at rs V1 D1 pr ⊢
        rcases rs with E | ⟨R1, X1, H1, W1, L1⟩
        · exact q_loop_ff E D1 (by omega)
        · dsimp only at R1 X1 H1 W1 L1
          have g1 := R1.g0
          have r1 := R1.t1
          have e1 := i_add (x := x4) (y := 1) (by omega) (by omega)
          exact ih R1 X1 H1 W1 L1 V1 D1 (by omega) (by omega) (by omega) (by omega)
end B9
end Qz116
section Qz117
/-! tokens: bytes and letters -/
theorem b255 {b : Int32} (h : -128 ≤ b.toInt) (h' : b.toInt ≤ 127) : (0 ≤ b.toInt ∧ (b &&& 255).toInt = b.toInt) ∨ (b.toInt < 0 ∧ 128 ≤ (b &&& 255).toInt) := by
  have z : ∀ k : Fin 256, (0 ≤ (Int32.ofInt ((k.val : Int) - 128)).toInt ∧ (Int32.ofInt ((k.val : Int) - 128) &&& 255).toInt = (Int32.ofInt ((k.val : Int) - 128)).toInt) ∨ ((Int32.ofInt ((k.val : Int) - 128)).toInt < 0 ∧ 128 ≤ (Int32.ofInt ((k.val : Int) - 128) &&& 255).toInt) := by decide +kernel
  have e : b = Int32.ofInt ((((b.toInt + 128).toNat : Nat) : Int) - 128) := by
    have : (((b.toInt + 128).toNat : Nat) : Int) - 128 = b.toInt := by omega
    rw [this, Int32.ofInt_toInt]
  have := z ⟨(b.toInt + 128).toNat, by omega⟩
  rw [← e] at this
  exact this
section C1
variable {P : Nat → Nat → Nat} {F F' : Nat → Nat → Int32} {A A' : Nat → Nat → Nat → Int32} {J J' : Nat → Nat → Nat → Int64} {Fm Fm' : Nat → Int32} {Am Am' : Nat → Nat → Int32} {Jm Jm' : Nat → Nat → Int64} {b x : Int32}
theorem i_48 : (48 : Int32).toInt = 48 ∧ (57 : Int32).toInt = 57 ∧ (97 : Int32).toInt = 97 ∧ (122 : Int32).toInt = 122 ∧ (9 : Int32).toInt = 9 ∧ (10 : Int32).toInt = 10 ∧ (13 : Int32).toInt = 13 ∧ (32 : Int32).toInt = 32 := by decide
theorem cl_l1 (h : 97 ≤ b.toInt ∧ b.toInt ≤ 122) : e_Scanner_isLetter P F A J b = some 1 := by
  unfold e_Scanner_isLetter
  rw [i_nlt.mpr (by rw [i_48.2.2.1]; exact h.1), cond_false, i_ngt.mpr (by rw [i_48.2.2.2.1]; exact h.2), cond_false]
theorem cl_l0 (h : ¬ (97 ≤ b.toInt ∧ b.toInt ≤ 122)) : e_Scanner_isLetter P F A J b = some 0 := by
  unfold e_Scanner_isLetter
  by_cases c : b.toInt < 97
  · rw [i_lt.mpr (by rw [i_48.2.2.1]; exact c), cond_true]
  · rw [i_nlt.mpr (by rw [i_48.2.2.1]; omega), cond_false, i_gt.mpr (by rw [i_48.2.2.2.1]; omega), cond_true]
theorem dl_l1 (h : 97 ≤ b.toInt ∧ b.toInt ≤ 122) : d_isLetter b = some 1 := by
  unfold d_isLetter
  rw [i_nlt.mpr (by rw [i_48.2.2.1]; exact h.1), cond_false, i_ngt.mpr (by rw [i_48.2.2.2.1]; exact h.2), cond_false]
theorem dl_l0 (h : ¬ (97 ≤ b.toInt ∧ b.toInt ≤ 122)) : d_isLetter b = some 0 := by
  unfold d_isLetter
  by_cases c : b.toInt < 97
  · rw [i_lt.mpr (by rw [i_48.2.2.1]; exact c), cond_true]
  · rw [i_nlt.mpr (by rw [i_48.2.2.1]; omega), cond_false, i_gt.mpr (by rw [i_48.2.2.2.1]; omega), cond_true]
theorem cl_d1 (h : 48 ≤ b.toInt ∧ b.toInt ≤ 57) : e_Scanner_isDigit P F A J b = some 1 := by
  unfold e_Scanner_isDigit
  rw [i_nlt.mpr (by rw [i_48.1]; exact h.1), cond_false, i_ngt.mpr (by rw [i_48.2.1]; exact h.2), cond_false]
theorem cl_d0 (h : ¬ (48 ≤ b.toInt ∧ b.toInt ≤ 57)) : e_Scanner_isDigit P F A J b = some 0 := by
  unfold e_Scanner_isDigit
  by_cases c : b.toInt < 48
  · rw [i_lt.mpr (by rw [i_48.1]; exact c), cond_true]
  · rw [i_nlt.mpr (by rw [i_48.1]; omega), cond_false, i_gt.mpr (by rw [i_48.2.1]; omega), cond_true]
theorem dl_d1 (h : 48 ≤ b.toInt ∧ b.toInt ≤ 57) : d_isDigit b = some 1 := by
  unfold d_isDigit
  rw [i_nlt.mpr (by rw [i_48.1]; exact h.1), cond_false, i_ngt.mpr (by rw [i_48.2.1]; exact h.2), cond_false]
theorem dl_d0 (h : ¬ (48 ≤ b.toInt ∧ b.toInt ≤ 57)) : d_isDigit b = some 0 := by
  unfold d_isDigit
  by_cases c : b.toInt < 48
  · rw [i_lt.mpr (by rw [i_48.1]; exact c), cond_true]
  · rw [i_nlt.mpr (by rw [i_48.1]; omega), cond_false, i_gt.mpr (by rw [i_48.2.1]; omega), cond_true]
theorem cl_b1 (h : b.toInt = 9 ∨ b.toInt = 10 ∨ b.toInt = 13 ∨ b.toInt = 32) : e_Scanner_isBlank P F A J b = some 1 := by
  obtain ⟨-, -, -, -, e9, e10, e13, e32⟩ := i_48
  unfold e_Scanner_isBlank
  by_cases c9 : b.toInt = 9
  · rw [i_eq.mpr (by rw [e9]; exact c9), cond_true]
  · rw [i_neq.mpr (by rw [e9]; exact c9), cond_false]
    by_cases c10 : b.toInt = 10
    · rw [i_eq.mpr (by rw [e10]; exact c10), cond_true]
    · rw [i_neq.mpr (by rw [e10]; exact c10), cond_false]
      by_cases c13 : b.toInt = 13
      · rw [i_eq.mpr (by rw [e13]; exact c13), cond_true]
      · rw [i_neq.mpr (by rw [e13]; exact c13), cond_false, i_nne.mpr (by rw [e32]; omega), cond_false]
theorem cl_b0 (h : ¬ (b.toInt = 9 ∨ b.toInt = 10 ∨ b.toInt = 13 ∨ b.toInt = 32)) : e_Scanner_isBlank P F A J b = some 0 := by
  obtain ⟨-, -, -, -, e9, e10, e13, e32⟩ := i_48
  unfold e_Scanner_isBlank
  rw [i_neq.mpr (by rw [e9]; omega), cond_false, i_neq.mpr (by rw [e10]; omega), cond_false, i_neq.mpr (by rw [e13]; omega), cond_false, i_ne.mpr (by rw [e32]; omega), cond_true]
theorem byte_in (h0 : 0 ≤ x.toInt) (h1 : x.toInt < (Fm 4).toInt) (h2 : (Fm 4).toInt ≤ 2000) : d_byteAt Fm Am Jm x = some (Am 2 x.toInt.toNat &&& 255) := by
  unfold d_byteAt
  rw [i_nge.mpr h1, cond_false, m_ld_in h0 (by omega), Option.bind_some]
theorem byte_out (h1 : (Fm 4).toInt ≤ x.toInt) : d_byteAt Fm Am Jm x = some 0 := by
  unfold d_byteAt
  rw [i_ge.mpr h1, cond_true]
/-- a letter more: eight bits -/
theorem sh8 {y : Int64} {v : Int32} (h0 : 0 ≤ y.toInt) (h1 : 2 * (256 * y.toInt + 256) ≤ 18446744073709551616) (v0 : 0 ≤ v.toInt) (v1 : v.toInt < 256) : ((y <<< ((8 : Int32).toInt64 &&& 63)) ||| v.toInt64).toInt = 256 * y.toInt + v.toInt := by
  have e8 : ((8 : Int32).toInt64 &&& 63) = (8 : Int64) := by decide
  rw [e8]
  have yn : (y.toBitVec.toNat : Int) = y.toInt := by
    have q : y.toInt = y.toBitVec.toInt := rfl
    rw [BitVec.toInt_eq_toNat_cond] at q
    split at q
    · exact q.symm
    · next c =>
      have := y.toBitVec.isLt
      omega
  have vn : (v.toInt64.toBitVec.toNat : Int) = v.toInt := by
    have a : v.toInt64.toInt = v.toInt := Int32.toInt_toInt64 v
    have b : v.toInt64.toInt = v.toInt64.toBitVec.toInt := rfl
    rw [b, BitVec.toInt_eq_toNat_cond] at a
    split at a
    · exact a
    · next c =>
      have := v.toInt64.toBitVec.isLt
      omega
  have sh : (y <<< (8 : Int64)).toBitVec = y.toBitVec <<< 8 := by
    rw [Int64.toBitVec_shiftLeft]
    rfl
  have k : ((y <<< (8 : Int64)) ||| v.toInt64).toBitVec.toNat = 256 * y.toBitVec.toNat + v.toInt64.toBitVec.toNat := by
    rw [Int64.toBitVec_or, sh, BitVec.toNat_or, BitVec.toNat_shiftLeft, Nat.mod_eq_of_lt (by rw [Nat.shiftLeft_eq]; omega), ← Nat.shiftLeft_add_eq_or_of_lt (by omega), Nat.shiftLeft_eq]
    omega
  have r : ((y <<< (8 : Int64)) ||| v.toInt64).toInt = ((y <<< (8 : Int64)) ||| v.toInt64).toBitVec.toInt := rfl
  rw [r, BitVec.toInt_eq_toNat_cond, if_pos (by omega), k]
  omega
theorem ap27 {y : Int64} {v : Int32} (h0 : 0 ≤ y.toInt) (h1 : y.toInt < 1000000000000) (v0 : 97 ≤ v.toInt) (v1 : v.toInt ≤ 122) : ∃ z, d_appends y v = some z ∧ z.toInt = 27 * y.toInt + (v.toInt - 96) := by
  unfold d_appends
  rw [i_ne.mpr (by rw [i_0]; omega), cond_true]
  refine ⟨_, rfl, ?_⟩
  have e97 := i_48.2.2.1
  have s1 := i_sub (x := v) (y := 97) (by omega) (by omega)
  have s2 := i_add (x := v - 97) (y := 1) (by rw [i_1]; omega) (by rw [i_1]; omega)
  have t : (((v - 97) + 1).toInt64).toInt = v.toInt - 96 := by rw [Int32.toInt_toInt64, s2, s1, i_1, e97]; omega
  have l27 : (27 : Int64).toInt = 27 := by decide
  rw [Int64.toInt_add, Int64.toInt_mul, t, l27, Int.bmod_eq_of_le (n := 27 * y.toInt) (by omega) (by omega)]
  exact Int.bmod_eq_of_le (by omega) (by omega)
/-- n letters -/
def TNl (n : Nat) (x y : Int) : Prop := TNi x y ∧ 2 * x < 256 ^ n ∧ y < 27 ^ n ∧ (n = 0 ∨ 256 ^ (n - 1) ≤ x)
theorem TNl.nil : TNl 0 0 0 := ⟨.nil, by decide, by decide, .inl rfl⟩
theorem TNl.snoc {n : Nat} {x y c : Int} (h : TNl n x y) (c0 : 97 ≤ c) (c1 : c ≤ 122) : TNl (n + 1) (256 * x + c) (27 * y + (c - 96)) := by
  obtain ⟨a, b, d, e⟩ := h
  have p := a.pos
  refine ⟨a.snoc c0 c1, ?_, ?_, .inr ?_⟩
  · rw [Int.pow_succ]; omega
  · rw [Int.pow_succ]; omega
  · show 256 ^ n ≤ 256 * x + c
    rcases e with rfl | e
    · simp only [Int.pow_zero]; omega
    · cases n with
      | zero => simp only [Int.pow_zero]; omega
      | succ n =>
        rw [Int.pow_succ]
        have e : (256 : Int) ^ n ≤ x := e
        omega
end C1
end Qz117
