section B7
variable {T : TS} {d n m N nn : Nat} {o : Int} {P : Nat → Nat → Nat} {F F' : Nat → Nat → Int32} {A A' : Nat → Nat → Nat → Int32} {J J' : Nat → Nat → Nat → Int64} {Fm Fm' : Nat → Int32} {Am Am' : Nat → Nat → Int32} {Jm Jm' : Nat → Nat → Int64} {k k' x1 x2 x3 v : Int32} {γ δ : Type} {Q : γ → δ → Prop}
/-- the reference writes what belongs to laws -/
theorem SX.w (S : SX T o d J Jm F A Fm Am) (hF : ∀ q, q ≠ 49 → q ≠ 56 → q ≠ 60 → Fm' q = Fm q) (hA : ∀ q, q < 34 → Am' q = Am q) : SX T o d J Jm F A Fm' Am' :=
  ⟨S.r.cg (fun _ _ => rfl) (fun q hq => hF q (by omega) (by omega) (by omega)), S.x.a (fun q hq => hA q (by omega)), S.h.fr (fun _ _ _ => rfl) rfl rfl (fun _ _ => rfl) (hF 19 (by decide) (by decide) (by decide)) (hF 20 (by decide) (by decide) (by decide)) (hF 12 (by decide) (by decide) (by decide)) (fun q hq => hA q (by omega)) rfl⟩
theorem SX.a (S : SX T o d J Jm F A Fm Am) (hA : ∀ q, q < 34 → Am' q = Am q) : SX T o d J Jm F A Fm Am' := S.w (fun _ _ _ _ => rfl) hA
/-- a term of a law, on both sides -/
theorem p2_term {f : cR Unit → Option γ} {g : mR Unit → Option δ} (K : TKs T) (h5 : P 37 5 = d) (hk : c_kind d = 6) (S : SX T 0 d J Jm F A Fm Am) (ks : ∀ F' A' Fm' Am', SX T 0 d J Jm F' A' Fm' Am' → P2 (f ((), P, F', A', J)) (g ((), Fm', Am', Jm)) Q) (kf : ∀ F' A' J' Fm' Am' Jm', FE F' Fm' → P2 (f ((), P, F', A', J')) (g ((), Fm', Am', Jm')) Q) : P2 ((e_Reader_readSum 8 n P F A J 0).bind f) ((d_term m Fm Am Jm).bind g) Q := by
  unfold d_term
  rw [Option.bind_assoc]
  refine p2_br (fun A1 e1 => ?_)
  have a1 := gg_st e1
  have S1 : SX T 0 d J Jm F A Fm A1 := S.a (fun q hq => a1.2.2.1 q (by omega))
  rw [S.r.nz, cond_false, Option.bind_assoc]
  refine p2_expr K h5 hk S1 (fun F2 A2 Fm2 Am2 S2 => ?_) (fun F2 A2 J2 Fm2 Am2 Jm2 E => ?_)
  · dsimp only
    rw [Option.bind_assoc]
    refine p2_br (fun A3 e3 => ?_)
    have a3 := gg_st e3
    rw [Option.bind_assoc]
    refine p2_br (fun F4 e4 => ?_)
    have a4 := gg_pf e4
    rw [Option.bind_some]
    exact ks F2 A2 F4 A3 (S2.w (fun q h _ _ => a4.2 q h) (fun q hq => a3.2.2.1 q (by omega)))
  · dsimp only
    rw [Option.bind_assoc]
    refine p2_br (fun A3 e3 => ?_)
    rw [Option.bind_assoc]
    refine p2_br (fun F4 e4 => ?_)
    have e13 : F4 13 = Fm2 13 := (gg_pf e4).2 13 (by decide)
    rw [Option.bind_some]
    exact kf F2 A2 J2 F4 A3 Jm2 ⟨by rw [e13]; exact E.1, by rw [e13]; exact E.gg⟩
theorem term_ff (E : FE F Fm) : po (d_term m Fm Am Jm) (fun b => b.2.1 13 = Fm 13) := by
  unfold d_term d_term_24
  refine po_bl (fun A1 _ => ?_)
  rw [E.nz, cond_true]
  exact po_bl (fun A2 _ => po_bl (fun F3 e3 => po_some ((gg_pf e3).2 13 (by decide))))
/-- the reference goes on with its fault -/
theorem l116_ff {x : Option γ} {K18 : (Nat → Int32) → (Nat → Nat → Int32) → (Nat → Nat → Int64) → Int32 → Int32 → Int32 → Option δ} (E : FE F Fm) (ks : ∀ Fm' Am' Jm', FE F Fm' → P2 x (K18 Fm' Am' Jm' x1 x2 x3) Q) : P2 x ((d_must Fm Am Jm 32).bind fun (_, F99, A100, J101) => (d_term m F99 A100 J101).bind fun (_, F103, A104, J105) => (d_must F103 A104 J105 33).bind fun (_, F107, A108, J109) => K18 F107 A108 J109 x1 x2 x3) Q := by
  rw [d_must_ff E.gg, Option.bind_some]
  dsimp only
  refine p2_r (term_ff E) ?_
  rintro ⟨u, F1, A1, J1⟩ h1
  have h1 : F1 13 = Fm 13 := h1
  dsimp only
  have E1 : FE F F1 := ⟨by rw [h1]; exact E.1, by rw [h1]; exact E.gg⟩
  rw [d_must_ff E1.gg, Option.bind_some]
  exact ks F1 A1 J1 E1
/-- the class's if, in pieces -/
def gif3 (n : Nat) (P : Nat → Nat → Nat) (F : Nat → Nat → Int32) (A : Nat → Nat → Nat → Int32) (J : Nat → Nat → Nat → Int64) (v22 : Int32) : Option (cR Unit) :=
  (c_chk 6 (P 37 5)).bind fun q37 =>
  (e_Laws_add P F A J q37 0 0).bind fun (v38, P39, F40, A41, J42) =>
  (e_Reader_take P39 F40 A41 J42 14).bind fun (v43, P44, F45, A46, J47) =>
  (c_chk 6 (P44 37 5)).bind fun q48 =>
  (e_Laws_aimHere P44 F45 A46 J47 q48 v22).bind fun (_, P50, F51, A52, J53) =>
  some ((), P50, F51, A52, J53)
def gif2 (n : Nat) (P : Nat → Nat → Nat) (F : Nat → Nat → Int32) (A : Nat → Nat → Nat → Int32) (J : Nat → Nat → Nat → Int64) : Option (cR Unit) :=
  (c_chk 6 (P 37 5)).bind fun q21 =>
  (e_Laws_add P F A J q21 60 0).bind fun (v22, P23, F24, A25, J26) =>
  (e_Reader_take P23 F24 A25 J26 13).bind fun (v27, P28, F29, A30, J31) =>
  (e_Reader_readSum 8 n P28 F29 A30 J31 0).bind fun (_, P33, F34, A35, J36) =>
  gif3 n P33 F34 A35 J36 v22
def gif1 (n : Nat) (P : Nat → Nat → Nat) (F : Nat → Nat → Int32) (A : Nat → Nat → Nat → Int32) (J : Nat → Nat → Nat → Int64) : Option (cR Unit) :=
  (e_Reader_take P F A J 60).bind fun (v11, P12, F13, A14, J15) =>
  (e_Reader_readSum 8 n P12 F13 A14 J15 0).bind fun (_, P17, F18, A19, J20) =>
  gif2 n P17 F18 A19 J20
theorem readIf_g : e_Reader_readIf n P F A J = (e_Reader_take P F A J 12).bind fun (v1, P2, F3, A4, J5) => (e_Reader_readSum 8 n P2 F3 A4 J5 0).bind fun (_, P7, F8, A9, J10) => gif1 n P7 F8 A9 J10 := rfl
def cFf (P : Nat → Nat → Nat) (F : Nat → Nat → Int32) (r : cR Unit) : Prop := ∃ F' A' J', r = ((), P, F', A', J') ∧ F' 37 10 = F 37 10
theorem gif3_ff (hd : d ≠ 37) (hc : c_chk 6 (P 37 5) = some d) (h : (F 37 10).toInt ≠ 0) : po (gif3 n P F A J v) (cFf P F) := by
  unfold gif3
  rw [hc, Option.bind_some]
  refine po_call add_po ?_
  rintro _ ⟨w, F1, A1, rfl, f1⟩
  have e1 := f1.1 37 10 (fun e => hd e.1.symm)
  dsimp only
  rw [e_take_ff (by rw [e1]; exact h), Option.bind_some]
  dsimp only
  rw [hc, Option.bind_some]
  refine po_call aim_po ?_
  rintro _ ⟨A2, rfl, f2⟩
  exact po_some ⟨F1, A2, J, rfl, e1⟩
theorem gif2_ff (hd : d ≠ 37) (hc : c_chk 6 (P 37 5) = some d) (h : (F 37 10).toInt ≠ 0) : po (gif2 n P F A J) (cFf P F) := by
  unfold gif2
  rw [hc, Option.bind_some]
  refine po_call add_po ?_
  rintro _ ⟨w, F1, A1, rfl, f1⟩
  have e1 := f1.1 37 10 (fun e => hd e.1.symm)
  dsimp only
  rw [e_take_ff (by rw [e1]; exact h), Option.bind_some]
  dsimp only
  refine po_call (eS_ff hd hc (by rw [e1]; exact h)) ?_
  rintro _ ⟨F2, A2, rfl, f2⟩
  have e2 := f2.1 37 10 (fun e => hd e.1.symm)
  dsimp only
  refine po_mono (gif3_ff hd hc (by rw [e2, e1]; exact h)) ?_
  rintro _ ⟨F3, A3, J3, rfl, e3⟩
  exact ⟨F3, A3, J3, rfl, by rw [e3, e2, e1]⟩
theorem gif1_ff (hd : d ≠ 37) (hc : c_chk 6 (P 37 5) = some d) (h : (F 37 10).toInt ≠ 0) : po (gif1 n P F A J) (cFf P F) := by
  unfold gif1
  rw [e_take_ff h, Option.bind_some]
  dsimp only
  refine po_call (eS_ff hd hc h) ?_
  rintro _ ⟨F2, A2, rfl, f2⟩
  have e2 := f2.1 37 10 (fun e => hd e.1.symm)
  dsimp only
  refine po_mono (gif2_ff hd hc (by rw [e2]; exact h)) ?_
  rintro _ ⟨F3, A3, J3, rfl, e3⟩
  exact ⟨F3, A3, J3, rfl, by rw [e3, e2]⟩
theorem readIf_ff (hd : d ≠ 37) (hc : c_chk 6 (P 37 5) = some d) (h : (F 37 10).toInt ≠ 0) : po (e_Reader_readIf n P F A J) (cFf P F) := by
  rw [readIf_g, e_take_ff h, Option.bind_some]
  dsimp only
  refine po_call (eS_ff hd hc h) ?_
  rintro _ ⟨F2, A2, rfl, f2⟩
  have e2 := f2.1 37 10 (fun e => hd e.1.symm)
  dsimp only
  refine po_mono (gif1_ff hd hc (by rw [e2]; exact h)) ?_
  rintro _ ⟨F3, A3, J3, rfl, e3⟩
  exact ⟨F3, A3, J3, rfl, by rw [e3, e2]⟩
/-- an if of a law, on both sides -/
theorem p2_if {f : cR Unit → Option γ} {K18 : (Nat → Int32) → (Nat → Nat → Int32) → (Nat → Nat → Int64) → Int32 → Int32 → Int32 → Option (mR Unit)} {Q : γ → mR Unit → Prop} (K : TKs T) (h5 : P 37 5 = d) (hk : c_kind d = 6) (S : SX T 0 d J Jm F A Fm Am) (hm : (Am 3 (Fm 11).toInt.toNat).toInt = (31 : Int32).toInt) (ks : ∀ F' A' Fm' Am', SX T 0 d J Jm F' A' Fm' Am' → P2 (f ((), P, F', A', J)) (K18 Fm' Am' Jm x1 x2 (x3 + 1)) Q) (kf : ∀ F' A' J' Fm' Am' Jm', FE F' Fm' → P2 (f ((), P, F', A', J')) (K18 Fm' Am' Jm' x1 x2 (x3 + 1)) Q) : P2 ((e_Reader_readIf n P F A J).bind f) (d_tellLaw_44 K18 m Fm Am Jm x1 x2 x3) Q := by
  have hd := kd37 hk
  have hc := chk_in h5 hk
  -- the class's rest with a fault beside what the reference has come to
  have cf : ∀ {o : Option (cR Unit)} {F1 : Nat → Nat → Int32} {Fm1 Am1 Jm1}, po o (cFf P F1) → FE F1 Fm1 → P2 (o.bind f) (K18 Fm1 Am1 Jm1 x1 x2 (x3 + 1)) Q := by
    intro o F1 Fm1 Am1 Jm1 ho E
    refine p2_l ho ?_
    rintro _ ⟨F2, A2, J2, rfl, e2⟩
    exact kf F2 A2 J2 Fm1 Am1 Jm1 ⟨by rw [e2]; exact E.1, E.gg⟩
  have FEr : ∀ {F1 F2 : Nat → Nat → Int32} {Fm1 : Nat → Int32}, FE F1 Fm1 → F2 37 10 = F1 37 10 → FE F2 Fm1 := fun E e => ⟨by rw [e]; exact E.1, E.gg⟩
  rw [readIf_g]
  unfold d_tellLaw_44
  rw [S.r.le, cond_true, Option.bind_assoc]
  refine p2_goes (k' := 31) K S.r S.x (by decide) (by decide) hm (fun F1 Fm1 U1 => ?_) (fun F1 Fm1 fc fm E => ?_)
  · have S1 := S.v hd U1.v
    dsimp only
    refine p2_br (fun A2 e2 => ?_)
    have a2 := gg_st e2
    refine p2_br (fun A3 e3 => ?_)
    have a3 := gg_st e3
    have S3 : SX T 0 d J Jm F1 A Fm1 A3 := S1.a (fun q hq => by rw [a3.2.2.1 q (by omega), a2.2.2.1 q (by omega)])
    rw [Option.bind_assoc]
    refine p2_expr K h5 hk S3 (fun F4 A4 Fm4 Am4 S4 => ?_) (fun F4 A4 J4 Fm4 Am4 Jm4 E => ?_)
    · dsimp only
      unfold gif1
      rw [Option.bind_assoc]
      refine p2_take K S4.r S4.x (k' := 13) (by decide) (by decide) (fun F5 Fm5 U5 _ => ?_) (fun F5 Fm5 fc fm E _ => ?_)
      · have S5 := S4.v hd U5.v
        dsimp only
        refine p2_br (fun A6 e6 => ?_)
        have a6 := gg_st e6
        have S6 : SX T 0 d J Jm F5 A4 Fm5 A6 := S5.a (fun q hq => a6.2.2.1 q (by omega))
        rw [S5.r.nz, cond_false, Option.bind_assoc]
        refine p2_expr K h5 hk S6 (fun F7 A7 Fm7 Am7 S7 => ?_) (fun F7 A7 J7 Fm7 Am7 Jm7 E => ?_)
        · dsimp only
          unfold gif2
          rw [hc, Option.bind_some, Option.bind_assoc]
          refine p2_l add_po ?_
          rintro _ ⟨v22, F8, A8, rfl, f8⟩
          have S8 := S7.l hd f8
          dsimp only
          rw [Option.bind_assoc]
          refine p2_take K S8.r S8.x (k' := 32) (by decide) (by decide) (fun F9 Fm9 U9 _ => ?_) (fun F9 Fm9 fc fm E _ => ?_)
          · have S9 := S8.v hd U9.v
            dsimp only
            rw [Option.bind_assoc]
            refine p2_term K h5 hk S9 (fun F10 A10 Fm10 Am10 S10 => ?_) (fun F10 A10 J10 Fm10 Am10 Jm10 E => ?_)
            · dsimp only
              unfold gif3
              rw [hc, Option.bind_some, Option.bind_assoc]
              refine p2_l add_po ?_
              rintro _ ⟨v38, F11, A11, rfl, f11⟩
              have S11 := S10.l hd f11
              dsimp only
              rw [Option.bind_assoc]
              refine p2_take K S11.r S11.x (k' := 33) (by decide) (by decide) (fun F12 Fm12 U12 _ => ?_) (fun F12 Fm12 fc fm E _ => ?_)
              · have S12 := S11.v hd U12.v
                dsimp only
                rw [hc, Option.bind_some, Option.bind_assoc]
                refine p2_l aim_po ?_
                rintro _ ⟨A13, rfl, f13⟩
                dsimp only
                rw [Option.bind_some]
                exact ks F12 A13 Fm12 Am10 (S12.l hd f13)
              · dsimp only
                rw [hc, Option.bind_some, Option.bind_assoc]
                refine p2_l aim_po ?_
                rintro _ ⟨A13, rfl, f13⟩
                dsimp only
                rw [Option.bind_some]
                exact kf F12 A13 J Fm12 Am10 Jm E
            · dsimp only
              rw [d_must_ff E.gg, Option.bind_some]
              exact cf (gif3_ff hd hc E.c) E
          · dsimp only
            rw [Option.bind_assoc]
            refine p2_l (eS_ff hd hc E.c) ?_
            rintro _ ⟨F10, A10, rfl, f10⟩
            have E10 := FEr E (f10.1 37 10 (fun e => hd e.1.symm))
            dsimp only
            refine p2_r (term_ff E10) ?_
            rintro ⟨u, Fm11, Am11, Jm11⟩ h11
            have h11 : Fm11 13 = Fm9 13 := h11
            have E11 : FE F10 Fm11 := ⟨by rw [h11]; exact E10.1, by rw [h11]; exact E10.gg⟩
            dsimp only
            rw [d_must_ff E11.gg, Option.bind_some]
            exact cf (gif3_ff hd hc E11.c) E11
        · dsimp only
          exact l116_ff E (fun Fm8 Am8 Jm8 E8 => cf (gif2_ff hd (by exact hc) E8.c) E8)
      · dsimp only
        refine p2_br (fun A6 e6 => ?_)
        rw [E.nz, cond_true]
        unfold d_tellLaw_116
        refine l116_ff E (fun Fm8 Am8 Jm8 E8 => ?_)
        rw [Option.bind_assoc]
        refine p2_l (eS_ff hd hc E8.c) ?_
        rintro _ ⟨F10, A10, rfl, f10⟩
        dsimp only
        exact cf (gif2_ff hd hc (by rw [f10.1 37 10 (fun e => hd e.1.symm)]; exact E8.c)) (FEr E8 (f10.1 37 10 (fun e => hd e.1.symm)))
    · dsimp only
      rw [d_must_ff E.gg, Option.bind_some]
      dsimp only
      refine p2_br (fun A6 e6 => ?_)
      rw [E.nz, cond_true]
      unfold d_tellLaw_116
      exact l116_ff E (fun Fm8 Am8 Jm8 E8 => cf (gif1_ff hd hc E8.c) E8)
  · dsimp only
    refine p2_br (fun A2 e2 => ?_)
    refine p2_br (fun A3 e3 => ?_)
    refine p2_r (dE_ff E.gg) ?_
    rintro ⟨u, Fm4, Am4, Jm4⟩ h4
    have h4 : Fm4 13 = Fm1 13 := h4
    have E4 : FE F1 Fm4 := ⟨by rw [h4]; exact E.1, by rw [h4]; exact E.gg⟩
    dsimp only
    rw [d_must_ff E4.gg, Option.bind_some]
    dsimp only
    refine p2_br (fun A6 e6 => ?_)
    rw [E4.nz, cond_true]
    unfold d_tellLaw_116
    refine l116_ff E4 (fun Fm8 Am8 Jm8 E8 => ?_)
    rw [Option.bind_assoc]
    refine p2_l (eS_ff hd hc E8.c) ?_
    rintro _ ⟨F10, A10, rfl, f10⟩
    dsimp only
    exact cf (gif1_ff hd hc (by rw [f10.1 37 10 (fun e => hd e.1.symm)]; exact E8.c)) (FEr E8 (f10.1 37 10 (fun e => hd e.1.symm)))
/-- the end of a law -/
theorem ql_end {w1 w2 : Int32} (K : TKs T) (h5 : P 37 5 = d) (hk : c_kind d = 6) (S : SX T 0 d J Jm F A Fm Am) : P2 (e_Reader_readLaw_94 n P F A J v w1) (d_tellLaw_135 m Fm Am Jm v w2) (RS T d P) := by
  have hd := kd37 hk
  have hc := chk_in h5 hk
  unfold e_Reader_readLaw_94 d_tellLaw_135
  refine p2_br (fun A1 e1 => ?_)
  have a1 := gg_st e1
  have S1 : SX T 0 d J Jm F A Fm A1 := S.a (fun q hq => a1.2.2.1 q (by omega))
  refine p2_term K h5 hk S1 (fun F2 A2 Fm2 Am2 S2 => ?_) (fun F2 A2 J2 Fm2 Am2 Jm2 E => ?_)
  · dsimp only
    rw [hc, Option.bind_some]
    refine p2_l add_po ?_
    rintro _ ⟨v39, F3, A3, rfl, f3⟩
    have S3 := S2.l hd f3
    dsimp only
    refine p2_take K S3.r S3.x (k' := 4) (by decide) (by decide) (fun F4 Fm4 U4 _ => ?_) (fun F4 Fm4 fc fm E _ => ?_)
    · have S4 := S3.v hd U4.v
      dsimp only
      rw [cz_10, cond_false, S4.r.le, cond_true]
      refine p2_bl (fun F5 e5 => ?_)
      have U5 := gg_cpf e5
      refine p2_br (fun v60 e60 => ?_)
      have a60 := gg_ld e60
      refine p2_br (fun B6 e6 => ?_)
      have b6 := gg_st e6
      have R5 : RT T F5 Fm4 := S4.r.cg (fun k hk => U5.2 37 k (by omega)) (fun _ _ => rfl)
      have fin : ∀ {A7 : Nat → Nat → Nat → Int32} {B7 : Nat → Nat → Int32}, (∀ r o, ¬ (r = d ∧ o = 14) → A7 r o = A3 r o) → (∀ q, q < 34 → B7 q = B6 q) → RS T d P ((), P, F5, A7, J) ((), Fm4, B7, Jm) := by
        intro A7 B7 h7 g7
        have p : ∀ q, q < 33 → B7 q = Am2 q := fun q hq => by rw [g7 q (by omega), b6.2.2.1 q (by omega)]
        refine .inr ⟨R5, ?_, ?_⟩
        · exact (S4.x.ca (A' := A7) (fun o => h7 37 o (fun e => hd e.1.symm))).a (fun q hq => p q (by omega))
        · refine ⟨S4.h.s0, S4.h.s1, fun q hq => ?_, ?_, ?_, ?_, ?_, S4.h.op⟩
          · show F5 d (cq q) = B7 (rq q) (Fm4 19).toInt.toNat
            rw [U5.2 d (cq q) (fun e => hd e.1), p (rq q) (by have := rq_in q; omega)]
            exact S4.h.cn q hq
          · show F5 d 14 = B7 12 (Fm4 19).toInt.toNat
            rw [U5.2 d 14 (fun e => hd e.1), p 12 (by decide)]
            exact S4.h.dr
          · show F5 37 9 = B7 33 (Fm4 19).toInt.toNat
            refine i_ext ?_
            have w : (B6 33 (Fm4 19).toInt.toNat).toInt = (v60 + 1).toInt := b6.2.2.2.1
            rw [g7 33 (by decide), w, a60.2.2, ← S4.h.lw, U5.1]
          · show ∀ k : Int, 0 ≤ k → k < (F5 d 16).toInt → ci A7 d 5 k = ai B7 22 (6 * (Fm4 19).toInt + k)
            rw [U5.2 d 16 (fun e => hd e.1), ci_fr (h7 d 5 (by omega)), ai_fr (p 22 (by decide))]
            exact S4.h.sc
          · exact S4.h.nr.fr (fun q hq => U5.2 d (cq q) (fun e => hd e.1)) (fun _ _ => rfl) rfl (p 9 (by decide)) (p 10 (by decide)) rfl
      by_cases c : v.toInt < 0
      · rw [i_lt.mpr (by rw [i_0]; exact c), cond_true, i_nge.mpr (by rw [i_0]; exact c), cond_false]
        exact p2_some (fin (fun _ _ _ => rfl) (fun _ _ => rfl))
      · rw [i_nlt.mpr (by rw [i_0]; omega), cond_false, i_ge.mpr (by rw [i_0]; omega), cond_true, hc, Option.bind_some]
        refine p2_bl (fun A7 e7 => ?_)
        have a7 := (gg_cst e7).2.2
        refine p2_br (fun B7 f7 => ?_)
        have b7 := gg_st f7
        refine p2_br (fun B8 f8 => ?_)
        have b8 := gg_st f8
        exact p2_some (fin (fun r o h => a7.2.2 r o h) (fun q hq => by rw [b8.2.2.1 q (by omega), b7.2.2.1 q (by omega)]))
    · refine p2_ff E ?_ ?_
      · dsimp only
        rw [cz_00, cond_true]
        exact po_some rfl
      · dsimp only
        rw [E.le, cond_false]
        exact po_some rfl
  · refine p2_ff E ?_ ?_
    · dsimp only
      rw [hc, Option.bind_some]
      refine po_call add_po ?_
      rintro _ ⟨w, F3, A3, rfl, f3⟩
      have e3 := f3.1 37 10 (fun e => hd e.1.symm)
      dsimp only
      rw [e_take_ff (by rw [e3]; exact E.c), Option.bind_some]
      dsimp only
      rw [cz_00, cond_true]
      exact po_some e3
    · dsimp only
      rw [d_must_ff E.gg, Option.bind_some]
      dsimp only
      rw [E.le, cond_false]
      exact po_some rfl
theorem c94_ff {w1 : Int32} (hd : d ≠ 37) (hc : c_chk 6 (P 37 5) = some d) (h : (F 37 10).toInt ≠ 0) : po (e_Reader_readLaw_94 n P F A J v w1) (fun a => a.2.2.1 37 10 = F 37 10) := by
  unfold e_Reader_readLaw_94
  refine po_call (eS_ff hd hc h) ?_
  rintro _ ⟨F2, A2, rfl, f2⟩
  have e2 := f2.1 37 10 (fun e => hd e.1.symm)
  dsimp only
  rw [hc, Option.bind_some]
  refine po_call add_po ?_
  rintro _ ⟨w, F3, A3, rfl, f3⟩
  have e3 := f3.1 37 10 (fun e => hd e.1.symm)
  dsimp only
  rw [e_take_ff (by rw [e3, e2]; exact h), Option.bind_some]
  dsimp only
  rw [cz_00, cond_true]
  exact po_some (by show F3 37 10 = F 37 10; rw [e3, e2])
theorem c48_ff {w1 : Int32} (hd : d ≠ 37) (hc : c_chk 6 (P 37 5) = some d) (h : (F 37 10).toInt ≠ 0) : po (e_Reader_readLaw_48 n P F A J v w1 x3) (fun a => a.2.2.1 37 10 = F 37 10) := by
  cases n with
  | zero => intro r hr; cases hr
  | succ n =>
    unfold e_Reader_readLaw_48
    refine po_cond (fun _ => c94_ff hd hc h) (fun _ => ?_)
    rw [e_next_ff h, Option.bind_some, cz_00, cond_true]
    exact c94_ff hd hc h
theorem d18_ff {w2 : Int32} (E : FE F Fm) : po (d_tellLaw_18 m Fm Am Jm v w2 x3) (fun b => b.2.1 13 = Fm 13) := by
  cases m with
  | zero => intro r hr; cases hr
  | succ m =>
    unfold d_tellLaw_18
    rw [E.nz, cond_true]
    unfold d_tellLaw_135
    refine po_bl (fun A1 _ => ?_)
    refine po_call (term_ff E) ?_
    rintro ⟨u, F1, A2, J1⟩ h1
    have h1 : F1 13 = Fm 13 := h1
    have E1 : FE F F1 := ⟨by rw [h1]; exact E.1, by rw [h1]; exact E.gg⟩
    dsimp only
    rw [d_must_ff E1.gg, Option.bind_some]
    dsimp only
    rw [E1.le, cond_false]
    exact po_some h1
/-- a law's ifs, and its end -/
theorem ql_48 {w1 w2 : Int32} (K : TKs T) (h5 : P 37 5 = d) (hk : c_kind d = 6) : ∀ {n m : Nat} {F : Nat → Nat → Int32} {A : Nat → Nat → Nat → Int32} {Fm : Nat → Int32} {Am : Nat → Nat → Int32} {x3 : Int32}, SX T 0 d J Jm F A Fm Am → 0 ≤ x3.toInt → x3.toInt ≤ 4 → P2 (e_Reader_readLaw_48 n P F A J v w1 x3) (d_tellLaw_18 m Fm Am Jm v w2 x3) (RS T d P) := by
  have hd := kd37 hk
  have hc := chk_in h5 hk
  have l4 : (4 : Int32).toInt = 4 := by decide
  have l1 := i_1
  intro n
  induction n with
  | zero => intro m F A Fm Am x3 _ _ _ a b ha _; cases ha
  | succ n ih =>
    intro m F A Fm Am x3 S h0 h4
    cases m with
    | zero => intro a b _ hb; cases hb
    | succ m =>
      unfold e_Reader_readLaw_48 d_tellLaw_18
      rw [i_ngt.mpr (by rw [l4]; exact h4), cond_false, S.r.nz, cond_false]
      refine p2_next K S.r S.x (k' := 31) (by decide) (fun hm => ?_) (fun _ => ?_)
      · rw [cz_10, cond_false, cond_false]
        by_cases h : x3.toInt = 4
        · rw [i_nne.mpr (by rw [l4]; exact h), cond_false, cond_false]
          obtain ⟨F1, e1, h1, -⟩ := e_fail_0 (P := P) (F := F) (A := A) (J := J) (k := 2) (v := A 37 3 (F 37 7).toInt.toNat) S.r.f0
          obtain ⟨Fm1, g1, h1', -, -⟩ := d_fail_0 (F := Fm) (A := Am) (J := Jm) (k := 2) S.r.g0 S.r.t0 S.r.t1
          have E : FE F1 Fm1 := FE.mk' h1 h1' (by decide)
          rw [m_ld_in (by rw [S.r.tk]; exact S.r.t0) (by rw [S.r.tk]; have := S.r.t1; omega), Option.bind_some, e1, Option.bind_some, g1, Option.bind_some]
          refine p2_ff E ?_ ?_
          · dsimp only
            refine po_call (readIf_ff hd hc E.c) ?_
            rintro _ ⟨F2, A2, J2, rfl, e2⟩
            dsimp only
            exact po_mono (c48_ff hd hc (by rw [e2]; exact E.c)) (fun a ha => by rw [ha, e2])
          · dsimp only
            rw [E.le, cond_false]
            exact po_some rfl
        · rw [i_ne.mpr (by rw [l4]; exact h), cond_true, cond_true]
          unfold e_Reader_readLaw_84
          have e31 := i_add (x := x3) (y := 1) (by omega) (by omega)
          refine p2_if K h5 hk S hm (fun F2 A2 Fm2 Am2 S2 => ?_) (fun F2 A2 J2 Fm2 Am2 Jm2 E => ?_)
          · exact ih S2 (by omega) (by omega)
          · exact p2_ff E (c48_ff hd hc E.c) (d18_ff E)
      · rw [cz_00, cond_true, cond_true]
        exact ql_end K h5 hk S
/-- a law is told -/
theorem q_law (K : TKs T) (R : RT T F Fm) (X : RX T A J Am Jm) (H : RH d F A J Fm Am Jm) (h5 : P 37 5 = d) (hk : c_kind d = 6) (b9 : (F 37 9).toInt ≤ 8) (hm : (Am 3 (Fm 11).toInt.toNat).toInt = (30 : Int32).toInt) : P2 (e_Reader_readLaw n P F A J) ((d_roomFor Fm Am Jm (Am 33 (Fm 19).toInt.toNat) 8).bind fun (_, F5, A6, J7) => cond (g_cnd .ne (F5 13) 0) (some ((), F5, A6, J7)) ((d_tellLaw m F5 A6 J7).bind fun (_, F10, A11, J12) => some ((), F10, A11, J12))) (RS T d P) := by
  have hd := kd37 hk
  have hc := chk_in h5 hk
  have l8 : (8 : Int32).toInt = 8 := by decide
  unfold e_Reader_readLaw
  rw [← H.lw]
  refine p2_first (k' := 30) K R X (by decide) (by decide) hm (by omega) (fun F1 Fm1 U1 hx => ?_) (fun F1 Fm1 fc fm E => ?_)
  · have R1 := U1.rt
    have H1 := U1.v.h hd H
    dsimp only
    rw [hc, Option.bind_some, R1.nz, cond_false, known_3]
    refine p2_eta ?_
    unfold d_tellLaw
    refine p2_known (q := 3) (by decide) (by decide) K R1 X H1.nr (fun v F2 Fm2 V2 _ hv => ?_) (fun F2 Fm2 fc fm E _ => ?_)
    · have H2 := V2.h hd H1
      dsimp only
      rw [hc, Option.bind_some]
      refine p2_take K V2.rt X (k' := 5) (by decide) (by decide) (fun F3 Fm3 U3 _ => ?_) (fun F3 Fm3 fc fm E _ => ?_)
      · exact ql_48 K h5 hk ⟨U3.rt, X, U3.v.h hd H2⟩ (by decide) (by decide)
      · exact p2_ff E (c48_ff hd hc E.c) (d18_ff E)
    · refine p2_ff E ?_ ?_
      · dsimp only
        rw [hc, Option.bind_some, e_take_ff E.c, Option.bind_some]
        exact c48_ff hd hc E.c
      · dsimp only
        rw [d_must_ff E.gg, Option.bind_some]
        exact d18_ff E
  · refine p2_ff E ?_ ?_
    · dsimp only
      rw [hc, Option.bind_some, known_3, gknown_ff E.c, Option.bind_some]
      dsimp only
      rw [hc, Option.bind_some, e_take_ff E.c, Option.bind_some]
      exact c48_ff hd hc E.c
    · (dsimp only; rw [FE.nz E, cond_true]; exact po_some rfl)
end B7
