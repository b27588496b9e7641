/-! terms of laws, side by side -/
/-- both sides stand within a law, o brackets deep -/
def SX (T : TS) (o : Int) (d : Nat) (J : Nat → Nat → Nat → Int64) (Jm : Nat → Nat → Int64) (F : Nat → Nat → Int32) (A : Nat → Nat → Nat → Int32) (Fm : Nat → Int32) (Am : Nat → Nat → Int32) : Prop := (RT T F Fm) ∧ (RX T A J Am Jm) ∧ (RHo o d F A J Fm Am Jm) ∧ (RW d F A Fm Am)
theorem SX.r {T : TS} {o : Int} {d : Nat} {J : Nat → Nat → Nat → Int64} {Jm : Nat → Nat → Int64} {F : Nat → Nat → Int32} {A : Nat → Nat → Nat → Int32} {Fm : Nat → Int32} {Am : Nat → Nat → Int32} (h_ : SX T o d J Jm F A Fm Am) : RT T F Fm := h_.1
theorem SX.x {T : TS} {o : Int} {d : Nat} {J : Nat → Nat → Nat → Int64} {Jm : Nat → Nat → Int64} {F : Nat → Nat → Int32} {A : Nat → Nat → Nat → Int32} {Fm : Nat → Int32} {Am : Nat → Nat → Int32} (h_ : SX T o d J Jm F A Fm Am) : RX T A J Am Jm := h_.2.1
theorem SX.h {T : TS} {o : Int} {d : Nat} {J : Nat → Nat → Nat → Int64} {Jm : Nat → Nat → Int64} {F : Nat → Nat → Int32} {A : Nat → Nat → Nat → Int32} {Fm : Nat → Int32} {Am : Nat → Nat → Int32} (h_ : SX T o d J Jm F A Fm Am) : RHo o d F A J Fm Am Jm := h_.2.2.1
theorem SX.e {T : TS} {o : Int} {d : Nat} {J : Nat → Nat → Nat → Int64} {Jm : Nat → Nat → Int64} {F : Nat → Nat → Int32} {A : Nat → Nat → Nat → Int32} {Fm : Nat → Int32} {Am : Nat → Nat → Int32} (h_ : SX T o d J Jm F A Fm Am) : RW d F A Fm Am := h_.2.2.2
section B3
variable {T : TS} {d n m N : Nat} {o : Int} {P : Nat → Nat → Nat} {F F' : Nat → Nat → Int32} {A A' : Nat → Nat → Nat → Int32} {J J' : Nat → Nat → Nat → Int64} {Fm Fm' : Nat → Int32} {Am Am' : Nat → Nat → Int32} {Jm Jm' : Nat → Nat → Int64} {k k' x1 x2 : Int32} {γ δ : Type} {Q : γ → δ → Prop}
/-- the class writes instructions -/
def FrL (d : Nat) (F F' : Nat → Nat → Int32) (A A' : Nat → Nat → Nat → Int32) : Prop := (∀ r k, ¬ (r = d ∧ k = 1304) → F' r k = F r k) ∧ (∀ r o, ¬ (r = d ∧ (o = 15 ∨ o = 16)) → A' r o = A r o)
theorem FrL.rfl' : FrL d F F A A := ⟨fun _ _ _ => rfl, fun _ _ _ => rfl⟩
theorem FrL.tr {F1 : Nat → Nat → Int32} {A1 : Nat → Nat → Nat → Int32} (a : FrL d F F1 A A1) (b : FrL d F1 F' A1 A') : FrL d F F' A A' := ⟨fun r k h => (b.1 r k h).trans (a.1 r k h), fun r k h => (b.2 r k h).trans (a.2 r k h)⟩
/-- the reference writes instructions -/
def FrN (F F' : Nat → Int32) (A A' : Nat → Nat → Int32) : Prop := (∀ q, q ≠ 56 → q ≠ 60 → F' q = F q) ∧ (∀ q, q ≠ 42 → q ≠ 43 → q ≠ 44 → A' q = A q)
theorem FrN.rfl' : FrN Fm Fm Am Am := ⟨fun _ _ _ => rfl, fun _ _ _ _ => rfl⟩
theorem FrN.tr {F1 : Nat → Int32} {A1 : Nat → Nat → Int32} (a : FrN Fm F1 Am A1) (b : FrN F1 Fm' A1 Am') : FrN Fm Fm' Am Am' := ⟨fun q h h' => (b.1 q h h').trans (a.1 q h h'), fun q h h' h'' => (b.2 q h h' h'').trans (a.2 q h h' h'')⟩
theorem SX.l (S : SX T o d J Jm F A Fm Am) (hd : d ≠ 37) (hd3 : d ≠ 3) (f : FrL d F F' A A') : SX T o d J Jm F' A' Fm Am :=
  ⟨S.r.cg (fun k _ => f.1 37 k (fun e => hd e.1.symm)) (fun _ _ => rfl), S.x.ca (fun o => f.2 37 o (fun e => hd e.1.symm)), S.h.fr (fun k h1 h2 => f.1 d k (fun e => by omega)) (f.1 37 9 (fun e => hd e.1.symm)) (f.2 d 5 (fun e => by omega)) (fun _ _ => rfl) rfl rfl rfl (fun _ _ => rfl) rfl, RW.fr S.e S.h.s0 (fun k h1 h2 => f.1 d k (fun e => by omega)) (f.1 3 7 (fun e => hd3 e.1.symm)) (f.1 3 8 (fun e => hd3 e.1.symm)) (fun o => f.2 3 o (fun e => hd3 e.1.symm)) (fun o h1 h2 => f.2 d o (fun e => by omega)) rfl (fun _ _ _ _ _ _ _ _ => rfl)⟩
theorem SX.nn (S : SX T o d J Jm F A Fm Am) (f : FrN Fm Fm' Am Am') : SX T o d J Jm F A Fm' Am' :=
  ⟨S.r.cg (fun _ _ => rfl) (fun q hq => f.1 q (by omega) (by omega)), S.x.a (fun q hq => f.2 q (by omega) (by omega) (by omega)), S.h.fr (fun _ _ _ => rfl) rfl rfl (fun _ _ => rfl) (f.1 19 (by decide) (by decide)) (f.1 20 (by decide) (by decide)) (f.1 12 (by decide) (by decide)) (fun q hq => f.2 q (by omega) (by omega) (by omega)) rfl, RW.fr S.e S.h.s0 (fun _ _ _ => rfl) rfl rfl (fun _ => rfl) (fun _ _ _ => rfl) (f.1 19 (by decide) (by decide)) (fun q _ _ h _ _ _ _ => f.2 q (by omega) (by omega) (by omega))⟩
theorem SX.v (S : SX T o d J Jm F A Fm Am) (hd : d ≠ 37) (V : RV T F F' Fm Fm') : SX T o d J Jm F' A Fm' Am := ⟨V.rt, S.x, V.h hd S.h, S.e.v S.h.s0 hd V.fc V.fm⟩
/-- brackets open and close -/
theorem SX.oo {o' : Int} (S : SX T o d J Jm F A Fm Am) (h12 : (Fm' 12).toInt = o') (f : ∀ q, q ≠ 12 → Fm' q = Fm q) : SX T o' d J Jm F A Fm' Am :=
  ⟨S.r.cg (fun _ _ => rfl) (fun q hq => f q (by omega)), S.x, ⟨by rw [f 19 (by decide)]; exact S.h.s0, by rw [f 19 (by decide)]; exact S.h.s1, by rw [f 19 (by decide)]; exact S.h.cn, by rw [f 19 (by decide)]; exact S.h.dr, by rw [f 19 (by decide)]; exact S.h.lw, by rw [f 19 (by decide)]; exact S.h.sc, S.h.nr.fr (fun _ _ => rfl) (fun _ _ => rfl) (f 20 (by decide)) rfl rfl rfl, h12⟩, RW.fr S.e S.h.s0 (fun _ _ _ => rfl) rfl rfl (fun _ => rfl) (fun _ _ _ => rfl) (f 19 (by decide)) (fun _ _ _ _ _ _ _ _ => rfl)⟩
theorem add_po : po (e_Laws_add P F A J d x1 x2) (fun r => ∃ v F' A', r = (v, P, F', A', J) ∧ FrL d F F' A A') := by
  unfold e_Laws_add
  refine po_cond (fun _ => po_some ⟨_, F, A, rfl, FrL.rfl'⟩) (fun _ => ?_)
  refine po_bl (fun A2 e2 => po_bl (fun A3 e3 => po_bl (fun F4 e4 => po_some ⟨_, F4, A3, rfl, ?_, ?_⟩)))
  · exact fun r k h => (gg_cpf e4).2 r k h
  · intro r o h
    rw [(gg_cst e3).2.2.2.2 r o (fun e => h ⟨e.1, .inr e.2⟩), (gg_cst e2).2.2.2.2 r o (fun e => h ⟨e.1, .inl e.2⟩)]
theorem aim_po : po (e_Laws_aimHere P F A J d x1) (fun r => ∃ A', r = ((), P, F, A', J) ∧ FrL d F F A A') := by
  unfold e_Laws_aimHere
  refine po_cond (fun _ => po_some ⟨A, rfl, FrL.rfl'⟩) (fun _ => po_cond (fun _ => po_some ⟨A, rfl, FrL.rfl'⟩) (fun _ => ?_))
  refine po_bl (fun A2 e2 => po_some ⟨A2, rfl, fun _ _ _ => rfl, ?_⟩)
  intro r o h
  rw [(gg_cst e2).2.2.2.2 r o (fun e => h ⟨e.1, .inr e.2⟩)]
theorem sign_po (hc : c_chk 6 (P 37 5) = some d) : po (e_Reader_addSign P F A J x1) (fun r => ∃ F' A', r = ((), P, F', A', J) ∧ FrL d F F' A A') := by
  unfold e_Reader_addSign
  refine po_cond (fun _ => po_some ⟨F, A, rfl, FrL.rfl'⟩) (fun _ => ?_)
  rw [hc, Option.bind_some]
  refine po_call add_po ?_
  rintro _ ⟨v, F', A', rfl, f⟩
  exact po_some ⟨F', A', rfl, f⟩
theorem emit_po : po (d_emit Fm Am Jm x1 x2) (fun r => ∃ F' A', r = ((), F', A', Jm) ∧ FrN Fm F' Am A') := by
  unfold d_emit
  refine po_bl (fun A2 e2 => po_bl (fun A3 e3 => po_bl (fun F4 e4 => po_some ⟨F4, A3, rfl, ?_, ?_⟩)))
  · exact fun q h _ => (gg_pf e4).2 q h
  · intro q h h' _
    rw [(gg_st e3).2.2.1 q h', (gg_st e2).2.2.1 q h]
theorem out_po0 : ∀ {n : Nat} {Fm : Nat → Int32} {Am : Nat → Nat → Int32}, po (d_comesOut_0 n Fm Am Jm x1) (fun r => ∃ F' A', r = ((), F', A', Jm) ∧ FrN Fm F' Am A') := by
  intro n
  induction n with
  | zero => intro Fm Am r hr; cases hr
  | succ n ih =>
    intro Fm Am
    have z : ∀ v, po (d_comesOut_42 (d_comesOut_0 n) n Fm Am Jm x1 v) (fun r => ∃ F' A', r = ((), F', A', Jm) ∧ FrN Fm F' Am A') := by
      intro v
      unfold d_comesOut_42
      refine po_bl (fun F7 e7 => ?_)
      have f7 : FrN Fm F7 Am Am := ⟨fun q _ h => (gg_pf e7).2 q h, fun _ _ _ _ => rfl⟩
      have w : ∀ s, po (d_comesOut_84 (d_comesOut_0 n) n F7 Am Jm x1 s) (fun r => ∃ F' A', r = ((), F', A', Jm) ∧ FrN Fm F' Am A') := by
        intro s
        unfold d_comesOut_84
        refine po_call emit_po ?_
        rintro _ ⟨F8, A8, rfl, f8⟩
        refine po_mono ih ?_
        rintro _ ⟨F9, A9, rfl, f9⟩
        exact ⟨F9, A9, rfl, (f7.tr f8).tr f9⟩
      exact po_cond (fun _ => po_cond (fun _ => po_cond (fun _ => w _) (fun _ => w _)) (fun _ => w _)) (fun _ => w _)
    have e : po (some ((), Fm, Am, Jm)) (fun r => ∃ F' A', r = ((), F', A', Jm) ∧ FrN Fm F' Am A') := po_some ⟨Fm, Am, rfl, FrN.rfl'⟩
    unfold d_comesOut_0
    refine po_cond (fun _ => e) (fun _ => po_bl (fun v _ => ?_))
    exact po_cond (fun _ => e) (fun _ => po_cond (fun _ => z _) (fun _ => po_cond (fun _ => e) (fun _ => po_cond (fun _ => z _) (fun _ => e))))
theorem out_po : po (d_comesOut n Fm Am Jm x1) (fun r => ∃ F' A', r = ((), F', A', Jm) ∧ FrN Fm F' Am A') := out_po0
/-! with a fault of form both come to their ends -/
theorem unit_ff (h : 0 < (Fm 13).toInt) : d_unit Fm Am Jm = some ((), Fm, Am, Jm) := by
  unfold d_unit d_unit_88
  rw [d_is_ff h, Option.bind_some, cz_00, cond_true, i_ne.mpr (by rw [i_0]; omega), cond_true, d_fail_ff h, Option.bind_some]
theorem dX_ff {K12} (h : 0 < (Fm 13).toInt) : po (d_expression_23 K12 n Fm Am Jm x1) (fun b => b.2.1 13 = Fm 13) := by
  cases n with
  | zero => intro r hr; cases hr
  | succ n =>
    unfold d_expression_23
    rw [d_is_ff h, Option.bind_some, cz_00, cond_true, unit_ff h, Option.bind_some]
    dsimp only
    rw [i_nle.mpr (by rw [i_0]; exact h), cond_false]
    exact po_some rfl
theorem dY_ff {K12} (h : 0 < (Fm 13).toInt) : po (d_expression_96 K12 n Fm Am Jm x1) (fun b => b.2.1 13 = Fm 13) := by
  cases n with
  | zero => intro r hr; cases hr
  | succ n =>
    unfold d_expression_96
    rw [d_is_ff h, Option.bind_some, cz_00, cond_true]
    unfold d_expression_145
    rw [d_is_ff h, Option.bind_some, i_nne.mpr rfl, cond_false, d_is_ff h, Option.bind_some, i_nne.mpr rfl, cond_false, d_is_ff h, Option.bind_some, i_nne.mpr rfl, cond_false, d_is_ff h, Option.bind_some, cz_00, cond_true]
    unfold d_expression_186
    rw [i_nne.mpr rfl, cond_false]
    have z : ∀ {F1 : Nat → Int32} {A1 J1}, F1 13 = Fm 13 → po ((d_comesOut n F1 A1 J1 0).bind fun (_, F62, A63, J64) => some ((), F62, A63, J64)) (fun b => b.2.1 13 = Fm 13) := by
      intro F1 A1 J1 e
      refine po_call out_po ?_
      rintro _ ⟨F2, A2, rfl, f⟩
      exact po_some (by show F2 13 = Fm 13; rw [f.1 13 (by decide) (by decide), e])
    refine po_cond (fun _ => ?_) (fun _ => ?_)
    · unfold d_expression_204
      exact z rfl
    · rw [d_fail_ff h, Option.bind_some]
      exact z rfl
theorem d12_ff (h : 0 < (Fm 13).toInt) : po (d_expression_12 N Fm Am Jm x1 x2) (fun b => b.2.1 13 = Fm 13) := by
  cases N with
  | zero => intro r hr; cases hr
  | succ N =>
    unfold d_expression_12
    rw [i_ne.mpr (by rw [i_0]; omega)]
    refine po_cond (fun _ => po_some rfl) (fun _ => ?_)
    rw [cond_true]
    exact po_some rfl
theorem dE_ff (h : 0 < (Fm 13).toInt) : po (d_expression n Fm Am Jm) (fun b => b.2.1 13 = Fm 13) := by
  unfold d_expression
  refine po_bl (fun F1 e1 => ?_)
  have e13 : F1 13 = Fm 13 := (gg_pf e1).2 13 (by decide)
  exact po_mono (d12_ff (by rw [e13]; exact h)) (fun b hb => hb.trans e13)
theorem e58_ff {KS} (h : (F 37 10).toInt ≠ 0) : ∀ {n : Nat} {x2 : Int32}, po (e_Reader_readUnit_58 KS n P F A J x2) (fun r => r = ((), P, F, A, J)) := by
  intro n
  induction n with
  | zero => intro x2 r hr; cases hr
  | succ n ih =>
    intro x2
    unfold e_Reader_readUnit_58
    refine po_cond (fun _ => ?_) (fun _ => ?_)
    · rw [e_take_ff h, Option.bind_some]
      dsimp only
      rw [cz_00, cond_true]
      exact po_some rfl
    · rw [e_next_ff h, Option.bind_some, cz_00, cond_true]
      unfold e_Reader_readUnit_97
      exact ih
theorem eU_ff {KS} (h : (F 37 10).toInt ≠ 0) : po (e_Reader_readUnit KS n P F A J x1) (fun r => r = ((), P, F, A, J)) := by
  unfold e_Reader_readUnit
  rw [e_next_ff h, Option.bind_some, cz_00, cond_true]
  exact e58_ff h
theorem eE_ff (h : (F 37 10).toInt ≠ 0) : e_Reader_takeEither P F A J x1 x2 = some (0, P, F, A, J) := by
  unfold e_Reader_takeEither e_Reader_takeEither_18
  rw [e_next_ff h, Option.bind_some, cz_00, cond_true, e_next_ff h, Option.bind_some, cz_00, cond_true]
theorem eS10_ff {KS} (hd : d ≠ 37) (hc : c_chk 6 (P 37 5) = some d) : ∀ {n : Nat} {F : Nat → Nat → Int32} {A : Nat → Nat → Nat → Int32} {x1 x2 x3 x4 x5 : Int32}, (F 37 10).toInt ≠ 0 → po (e_Reader_readSum_10 KS n P F A J x1 x2 x3 x4 x5) (fun r => ∃ F' A', r = ((), P, F', A', J) ∧ FrL d F F' A A') := by
  intro n
  induction n with
  | zero => intro F A x1 x2 x3 x4 x5 _ r hr; cases hr
  | succ n ih =>
    intro F A x1 x2 x3 x4 x5 h
    unfold e_Reader_readSum_10
    refine po_cond (fun _ => po_some ⟨F, A, rfl, FrL.rfl'⟩) (fun _ => po_cond (fun _ => po_some ⟨F, A, rfl, FrL.rfl'⟩) (fun _ => ?_))
    refine po_call (eU_ff h) ?_
    rintro _ rfl
    dsimp only
    refine po_call (sign_po hc) ?_
    rintro _ ⟨F1, A1, rfl, f1⟩
    dsimp only
    have h1 : (F1 37 10).toInt ≠ 0 := by rw [f1.1 37 10 (fun e => hd e.1.symm)]; exact h
    rw [eE_ff h1, Option.bind_some]
    dsimp only
    rw [i_nne.mpr rfl, cond_false]
    refine po_call (sign_po hc) ?_
    rintro _ ⟨F2, A2, rfl, f2⟩
    dsimp only
    have h2 : (F2 37 10).toInt ≠ 0 := by rw [f2.1 37 10 (fun e => hd e.1.symm)]; exact h1
    rw [eE_ff h2, Option.bind_some]
    dsimp only
    rw [cz_00, cond_true]
    unfold e_Reader_readSum_69 e_Reader_readSum_71
    refine po_mono (ih h2) ?_
    rintro _ ⟨F3, A3, rfl, f3⟩
    exact ⟨F3, A3, rfl, (f1.tr f2).tr f3⟩
theorem eS_ff (hd : d ≠ 37) (hc : c_chk 6 (P 37 5) = some d) (h : (F 37 10).toInt ≠ 0) : po (e_Reader_readSum m n P F A J x1) (fun r => ∃ F' A', r = ((), P, F', A', J) ∧ FrL d F F' A A') := by
  cases m with
  | zero => intro r hr; cases hr
  | succ m =>
    unfold e_Reader_readSum e_Reader_readSumB
    exact eS10_ff hd hc h
end B3
