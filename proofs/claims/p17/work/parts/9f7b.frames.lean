/-! a night of the class: what is done and what there is to do, together never more than before (frames printed by wip/frames.py) -/
section H9fq
variable {P0 : Nat → Nat → Nat} {F0 : Nat → Nat → Int32} {A0 : Nat → Nat → Nat → Int32}
/-- who sleeps where, how many men, what is done, what there is to do, who does what: as before -/
def BFx (P0 : Nat → Nat → Nat) (F0 : Nat → Nat → Int32) (A0 : Nat → Nat → Nat → Int32) (P : Nat → Nat → Nat) (F : Nat → Nat → Int32) (A : Nat → Nat → Nat → Int32) : Prop := (P 36 8 = P0 36 8 ∧ P 36 9 = P0 36 9) ∧ (∀ r, F r 17 = F0 r 17) ∧ (∀ r, r ≠ 36 → A r 1 = A0 r 1 ∧ A r 2 = A0 r 2) ∧ A 36 4 = A0 36 4
theorem BFx.rfl' {P : Nat → Nat → Nat} {F : Nat → Nat → Int32} {A : Nat → Nat → Nat → Int32} : BFx P F A P F A := ⟨⟨rfl, rfl⟩, fun _ => rfl, fun _ _ => ⟨rfl, rfl⟩, rfl⟩
theorem BFx.tr {P P1 P2 : Nat → Nat → Nat} {F F1 F2 : Nat → Nat → Int32} {A A1 A2 : Nat → Nat → Nat → Int32} (a : BFx P F A P1 F1 A1) (b : BFx P1 F1 A1 P2 F2 A2) : BFx P F A P2 F2 A2 := ⟨⟨b.1.1.trans a.1.1, b.1.2.trans a.1.2⟩, fun r => (b.2.1 r).trans (a.2.1 r), fun r hr => ⟨(b.2.2.1 r hr).1.trans (a.2.2.1 r hr).1, (b.2.2.1 r hr).2.trans (a.2.2.1 r hr).2⟩, b.2.2.2.trans a.2.2.2⟩
theorem BFx.st {P : Nat → Nat → Nat} {F : Nat → Nat → Int32} {A A' : Nat → Nat → Nat → Int32} {r o : Nat} {i v : Int} (U : CUm A A' r o i v) (ho : o ≠ 1 ∧ o ≠ 2 ∧ o ≠ 4) : BFx P F A P F A' := ⟨⟨rfl, rfl⟩, fun _ => rfl, fun r' _ => ⟨U.2.2 r' 1 (fun e => ho.1 e.2.symm), U.2.2 r' 2 (fun e => ho.2.1 e.2.symm)⟩, U.2.2 36 4 (fun e => ho.2.2 e.2.symm)⟩
theorem bf_pf {γ : Type} {q k : Nat} {x : Int32} {P : Nat → Nat → Nat} {F : Nat → Nat → Int32} {A : Nat → Nat → Nat → Int32} {g : (Nat → Nat → Int32) → Option γ} {Q : γ → Prop} (h : BFx P0 F0 A0 P F A) (hk : k ≠ 17) (kk : ∀ F', BFx P0 F0 A0 P F' A → po (g F') Q) : po ((c_pf F q k x).bind g) Q :=
  po_bl (fun F' e => kk F' ⟨h.1, fun r => ((gg_cpf e).2 r 17 (fun e => hk e.2.symm)).trans (h.2.1 r), h.2.2⟩)
theorem bf_st {γ : Type} {q o n : Nat} {i x : Int32} {P : Nat → Nat → Nat} {F : Nat → Nat → Int32} {A : Nat → Nat → Nat → Int32} {g : (Nat → Nat → Nat → Int32) → Option γ} {Q : γ → Prop} (h : BFx P0 F0 A0 P F A) (ho : o ≠ 1 ∧ o ≠ 2 ∧ o ≠ 4) (kk : ∀ A', BFx P0 F0 A0 P F A' → po (g A') Q) : po ((c_st A q o n i x).bind g) Q :=
  po_bl (fun A' e => kk A' (h.tr (BFx.st (gg_cst e).2.2 ho)))
theorem bf_sw {γ : Type} {q o n : Nat} {i x : Int32} {P : Nat → Nat → Nat} {F : Nat → Nat → Int32} {A : Nat → Nat → Nat → Int32} {g : (Nat → Nat → Nat → Int32) → Option γ} {Q : γ → Prop} (h : BFx P0 F0 A0 P F A) (hq : q = 36 ∧ o ≠ 4) (kk : ∀ A', BFx P0 F0 A0 P F A' → po (g A') Q) : po ((c_st A q o n i x).bind g) Q :=
  po_bl (fun A' e => kk A' (by
    have U := (gg_cst e).2.2
    exact h.tr ⟨⟨rfl, rfl⟩, fun _ => rfl, fun r hr => ⟨U.2.2 r 1 (fun e => hr (e.1.trans hq.1)), U.2.2 r 2 (fun e => hr (e.1.trans hq.1))⟩, U.2.2 36 4 (fun e => hq.2 e.2.symm)⟩))
theorem bf_fi {γ : Type} {q o n : Nat} {x : Int32} {P : Nat → Nat → Nat} {F : Nat → Nat → Int32} {A : Nat → Nat → Nat → Int32} {g : (Nat → Nat → Nat → Int32) → Option γ} {Q : γ → Prop} (h : BFx P0 F0 A0 P F A) (hq : q = 36 ∧ o ≠ 4) (kk : ∀ A', BFx P0 F0 A0 P F A' → po (g A') Q) : po ((c_fi A q o n x).bind g) Q :=
  po_bl (fun A' e => kk A' (by
    have U := gg_cfi e
    exact h.tr ⟨⟨rfl, rfl⟩, fun _ => rfl, fun r hr => ⟨U r 1 (fun e => hr (e.1.trans hq.1)), U r 2 (fun e => hr (e.1.trans hq.1))⟩, U 36 4 (fun e => hq.2 e.2.symm)⟩))
theorem bf_e_Sleep_wakeUp_99 {K2 : (Nat → Nat → Nat) → (Nat → Nat → Int32) → (Nat → Nat → Nat → Int32) → (Nat → Nat → Nat → Int64) → Int32 → Option (Unit × (Nat → Nat → Nat) × (Nat → Nat → Int32) × (Nat → Nat → Nat → Int32) × (Nat → Nat → Nat → Int64))} {n : Nat} {P : Nat → Nat → Nat} {F : Nat → Nat → Int32} {A : Nat → Nat → Nat → Int32} {J : Nat → Nat → Nat → Int64} {x1 : Int32} (hK2 : ∀ (a0 : Nat → Nat → Nat) (a1 : Nat → Nat → Int32) (a2 : Nat → Nat → Nat → Int32) (a3 : Nat → Nat → Nat → Int64) (a4 : Int32), BFx P0 F0 A0 a0 a1 a2 → po (K2 a0 a1 a2 a3 a4) (fun r => BFx P0 F0 A0 r.2.1 r.2.2.1 r.2.2.2.1)) (h : BFx P0 F0 A0 P F A) : po (e_Sleep_wakeUp_99 K2 n P F A J x1) (fun r => BFx P0 F0 A0 r.2.1 r.2.2.1 r.2.2.2.1) := by
  unfold e_Sleep_wakeUp_99
  repeat' (first
    | with_reducible exact po_some (by assumption)
    | (with_reducible refine bf_pf (by assumption) (by decide) ?_; intro _ _)
    | (with_reducible refine bf_st (by assumption) (by decide) ?_; intro _ _)
    | (with_reducible refine bf_sw (by assumption) (by decide) ?_; intro _ _)
    | (with_reducible refine bf_fi (by assumption) (by decide) ?_; intro _ _)
    | with_reducible exact hK2 _ _ _ _ _ (by assumption)
    | (intros; with_reducible exact hK2 _ _ _ _ _ (by assumption))
    | with_reducible refine po_cond (fun _ => ?_) (fun _ => ?_)
    | with_reducible refine po_bind_cond (fun _ => ?_) (fun _ => ?_)
    | with_reducible refine po_bl (fun _ _ => ?_))
theorem bf_e_Sleep_wakeUp_98 {K2 : (Nat → Nat → Nat) → (Nat → Nat → Int32) → (Nat → Nat → Nat → Int32) → (Nat → Nat → Nat → Int64) → Int32 → Option (Unit × (Nat → Nat → Nat) × (Nat → Nat → Int32) × (Nat → Nat → Nat → Int32) × (Nat → Nat → Nat → Int64))} {n : Nat} {P : Nat → Nat → Nat} {F : Nat → Nat → Int32} {A : Nat → Nat → Nat → Int32} {J : Nat → Nat → Nat → Int64} {x1 : Int32} {rs0 : Nat} {s1 : Int32} {s2 : Int32} (hK2 : ∀ (a0 : Nat → Nat → Nat) (a1 : Nat → Nat → Int32) (a2 : Nat → Nat → Nat → Int32) (a3 : Nat → Nat → Nat → Int64) (a4 : Int32), BFx P0 F0 A0 a0 a1 a2 → po (K2 a0 a1 a2 a3 a4) (fun r => BFx P0 F0 A0 r.2.1 r.2.2.1 r.2.2.2.1)) (h : BFx P0 F0 A0 P F A) : po (e_Sleep_wakeUp_98 K2 n P F A J x1 rs0 s1 s2) (fun r => BFx P0 F0 A0 r.2.1 r.2.2.1 r.2.2.2.1) := by
  unfold e_Sleep_wakeUp_98
  repeat' (first
    | with_reducible exact po_some (by assumption)
    | (with_reducible refine bf_pf (by assumption) (by decide) ?_; intro _ _)
    | (with_reducible refine bf_st (by assumption) (by decide) ?_; intro _ _)
    | (with_reducible refine bf_sw (by assumption) (by decide) ?_; intro _ _)
    | (with_reducible refine bf_fi (by assumption) (by decide) ?_; intro _ _)
    | with_reducible exact hK2 _ _ _ _ _ (by assumption)
    | (intros; with_reducible exact hK2 _ _ _ _ _ (by assumption))
    | with_reducible refine po_cond (fun _ => ?_) (fun _ => ?_)
    | with_reducible refine po_bind_cond (fun _ => ?_) (fun _ => ?_)
    | with_reducible refine po_bl (fun _ _ => ?_))
theorem bf_e_Sleep_wakeUp_2   : ∀ {n : Nat} {P : Nat → Nat → Nat} {F : Nat → Nat → Int32} {A : Nat → Nat → Nat → Int32} {J : Nat → Nat → Nat → Int64} {x1 : Int32}, BFx P0 F0 A0 P F A → po (e_Sleep_wakeUp_2  n P F A J x1) (fun r => BFx P0 F0 A0 r.2.1 r.2.2.1 r.2.2.2.1) := by
  intro n
  induction n with
  | zero => intro P F A J x1 _ r hr; cases hr
  | succ n ih =>
    intro P F A J x1 h
    unfold e_Sleep_wakeUp_2
    repeat' (first
      | with_reducible exact po_some (by assumption)
      | (with_reducible refine bf_pf (by assumption) (by decide) ?_; intro _ _)
      | (with_reducible refine bf_st (by assumption) (by decide) ?_; intro _ _)
      | (with_reducible refine bf_sw (by assumption) (by decide) ?_; intro _ _)
      | (with_reducible refine bf_fi (by assumption) (by decide) ?_; intro _ _)
      | with_reducible refine bf_e_Sleep_wakeUp_99 ?_ (by assumption)
      | (with_reducible refine po_call (bf_e_Sleep_wakeUp_99 ?_ (by assumption)) ?_)
      | with_reducible refine bf_e_Sleep_wakeUp_98 ?_ (by assumption)
      | (with_reducible refine po_call (bf_e_Sleep_wakeUp_98 ?_ (by assumption)) ?_)
      | with_reducible exact ih (by assumption)
      | (with_reducible refine po_call (ih (by assumption)) ?_; rintro ⟨_, _, _, _, _⟩ _; try dsimp only)
      | (intros; with_reducible exact ih (by assumption))
      | with_reducible refine po_cond (fun _ => ?_) (fun _ => ?_)
      | with_reducible refine po_bind_cond (fun _ => ?_) (fun _ => ?_)
      | with_reducible refine po_bl (fun _ _ => ?_))
theorem bf_e_Sleep_wakeUp {n : Nat} {P : Nat → Nat → Nat} {F : Nat → Nat → Int32} {A : Nat → Nat → Nat → Int32} {J : Nat → Nat → Nat → Int64}  (h : BFx P0 F0 A0 P F A) : po (e_Sleep_wakeUp n P F A J) (fun r => BFx P0 F0 A0 r.2.1 r.2.2.1 r.2.2.2.1) := by
  unfold e_Sleep_wakeUp
  repeat' (first
    | with_reducible exact po_some (by assumption)
    | (with_reducible refine bf_pf (by assumption) (by decide) ?_; intro _ _)
    | (with_reducible refine bf_st (by assumption) (by decide) ?_; intro _ _)
    | (with_reducible refine bf_sw (by assumption) (by decide) ?_; intro _ _)
    | (with_reducible refine bf_fi (by assumption) (by decide) ?_; intro _ _)
    | with_reducible exact bf_e_Sleep_wakeUp_2 (by assumption)
    | (with_reducible refine po_call (bf_e_Sleep_wakeUp_2 (by assumption)) ?_; rintro ⟨_, _, _, _, _⟩ _; try dsimp only)
    | with_reducible refine po_cond (fun _ => ?_) (fun _ => ?_)
    | with_reducible refine po_bind_cond (fun _ => ?_) (fun _ => ?_)
    | with_reducible refine po_bl (fun _ _ => ?_))
theorem bf_e_Laws_tellsTo_233 {n : Nat} {P : Nat → Nat → Nat} {F : Nat → Nat → Int32} {A : Nat → Nat → Nat → Int32} {J : Nat → Nat → Nat → Int64} {r0 : Nat}  (h : BFx P0 F0 A0 P F A) : po (e_Laws_tellsTo_233 n P F A J r0) (fun r => BFx P0 F0 A0 r.2.1 r.2.2.1 r.2.2.2.1) := by
  unfold e_Laws_tellsTo_233
  repeat' (first
    | with_reducible exact po_some (by assumption)
    | (with_reducible refine bf_pf (by assumption) (by decide) ?_; intro _ _)
    | (with_reducible refine bf_st (by assumption) (by decide) ?_; intro _ _)
    | (with_reducible refine bf_sw (by assumption) (by decide) ?_; intro _ _)
    | (with_reducible refine bf_fi (by assumption) (by decide) ?_; intro _ _)
    | with_reducible refine po_cond (fun _ => ?_) (fun _ => ?_)
    | with_reducible refine po_bind_cond (fun _ => ?_) (fun _ => ?_)
    | with_reducible refine po_bl (fun _ _ => ?_))
theorem bf_e_Laws_tellsTo_227 {K13 : (Nat → Nat → Nat) → (Nat → Nat → Int32) → (Nat → Nat → Nat → Int32) → (Nat → Nat → Nat → Int64) → Nat → Int32 → Int32 → Int32 → Option (Int32 × (Nat → Nat → Nat) × (Nat → Nat → Int32) × (Nat → Nat → Nat → Int32) × (Nat → Nat → Nat → Int64))} {n : Nat} {P : Nat → Nat → Nat} {F : Nat → Nat → Int32} {A : Nat → Nat → Nat → Int32} {J : Nat → Nat → Nat → Int64} {r0 : Nat} {x3 : Int32} {x4 : Int32} {x5 : Int32} (hK13 : ∀ (a0 : Nat → Nat → Nat) (a1 : Nat → Nat → Int32) (a2 : Nat → Nat → Nat → Int32) (a3 : Nat → Nat → Nat → Int64) (a4 : Nat) (a5 : Int32) (a6 : Int32) (a7 : Int32), BFx P0 F0 A0 a0 a1 a2 → po (K13 a0 a1 a2 a3 a4 a5 a6 a7) (fun r => BFx P0 F0 A0 r.2.1 r.2.2.1 r.2.2.2.1)) (h : BFx P0 F0 A0 P F A) : po (e_Laws_tellsTo_227 K13 n P F A J r0 x3 x4 x5) (fun r => BFx P0 F0 A0 r.2.1 r.2.2.1 r.2.2.2.1) := by
  unfold e_Laws_tellsTo_227
  repeat' (first
    | with_reducible exact po_some (by assumption)
    | (with_reducible refine bf_pf (by assumption) (by decide) ?_; intro _ _)
    | (with_reducible refine bf_st (by assumption) (by decide) ?_; intro _ _)
    | (with_reducible refine bf_sw (by assumption) (by decide) ?_; intro _ _)
    | (with_reducible refine bf_fi (by assumption) (by decide) ?_; intro _ _)
    | with_reducible exact hK13 _ _ _ _ _ _ _ _ (by assumption)
    | (intros; with_reducible exact hK13 _ _ _ _ _ _ _ _ (by assumption))
    | with_reducible refine po_cond (fun _ => ?_) (fun _ => ?_)
    | with_reducible refine po_bind_cond (fun _ => ?_) (fun _ => ?_)
    | with_reducible refine po_bl (fun _ _ => ?_))
theorem bf_e_Laws_tellsTo_126 {K13 : (Nat → Nat → Nat) → (Nat → Nat → Int32) → (Nat → Nat → Nat → Int32) → (Nat → Nat → Nat → Int64) → Nat → Int32 → Int32 → Int32 → Option (Int32 × (Nat → Nat → Nat) × (Nat → Nat → Int32) × (Nat → Nat → Nat → Int32) × (Nat → Nat → Nat → Int64))} {n : Nat} {P : Nat → Nat → Nat} {F : Nat → Nat → Int32} {A : Nat → Nat → Nat → Int32} {J : Nat → Nat → Nat → Int64} {r0 : Nat} {x3 : Int32} {x4 : Int32} {x5 : Int32} {rs0 : Nat} {s1 : Int32} {s2 : Int32} (hK13 : ∀ (a0 : Nat → Nat → Nat) (a1 : Nat → Nat → Int32) (a2 : Nat → Nat → Nat → Int32) (a3 : Nat → Nat → Nat → Int64) (a4 : Nat) (a5 : Int32) (a6 : Int32) (a7 : Int32), BFx P0 F0 A0 a0 a1 a2 → po (K13 a0 a1 a2 a3 a4 a5 a6 a7) (fun r => BFx P0 F0 A0 r.2.1 r.2.2.1 r.2.2.2.1)) (h : BFx P0 F0 A0 P F A) : po (e_Laws_tellsTo_126 K13 n P F A J r0 x3 x4 x5 rs0 s1 s2) (fun r => BFx P0 F0 A0 r.2.1 r.2.2.1 r.2.2.2.1) := by
  unfold e_Laws_tellsTo_126
  repeat' (first
    | with_reducible exact po_some (by assumption)
    | (with_reducible refine bf_pf (by assumption) (by decide) ?_; intro _ _)
    | (with_reducible refine bf_st (by assumption) (by decide) ?_; intro _ _)
    | (with_reducible refine bf_sw (by assumption) (by decide) ?_; intro _ _)
    | (with_reducible refine bf_fi (by assumption) (by decide) ?_; intro _ _)
    | with_reducible refine bf_e_Laws_tellsTo_227 ?_ (by assumption)
    | (with_reducible refine po_call (bf_e_Laws_tellsTo_227 ?_ (by assumption)) ?_)
    | with_reducible exact hK13 _ _ _ _ _ _ _ _ (by assumption)
    | (intros; with_reducible exact hK13 _ _ _ _ _ _ _ _ (by assumption))
    | with_reducible refine po_cond (fun _ => ?_) (fun _ => ?_)
    | with_reducible refine po_bind_cond (fun _ => ?_) (fun _ => ?_)
    | with_reducible refine po_bl (fun _ _ => ?_))
theorem bf_e_Laws_tellsTo_88 {K13 : (Nat → Nat → Nat) → (Nat → Nat → Int32) → (Nat → Nat → Nat → Int32) → (Nat → Nat → Nat → Int64) → Nat → Int32 → Int32 → Int32 → Option (Int32 × (Nat → Nat → Nat) × (Nat → Nat → Int32) × (Nat → Nat → Nat → Int32) × (Nat → Nat → Nat → Int64))} {n : Nat} {P : Nat → Nat → Nat} {F : Nat → Nat → Int32} {A : Nat → Nat → Nat → Int32} {J : Nat → Nat → Nat → Int64} {r0 : Nat} {x3 : Int32} {x4 : Int32} {x5 : Int32} {x6 : Int32} {x7 : Int32} (hK13 : ∀ (a0 : Nat → Nat → Nat) (a1 : Nat → Nat → Int32) (a2 : Nat → Nat → Nat → Int32) (a3 : Nat → Nat → Nat → Int64) (a4 : Nat) (a5 : Int32) (a6 : Int32) (a7 : Int32), BFx P0 F0 A0 a0 a1 a2 → po (K13 a0 a1 a2 a3 a4 a5 a6 a7) (fun r => BFx P0 F0 A0 r.2.1 r.2.2.1 r.2.2.2.1)) (h : BFx P0 F0 A0 P F A) : po (e_Laws_tellsTo_88 K13 n P F A J r0 x3 x4 x5 x6 x7) (fun r => BFx P0 F0 A0 r.2.1 r.2.2.1 r.2.2.2.1) := by
  unfold e_Laws_tellsTo_88
  repeat' (first
    | with_reducible exact po_some (by assumption)
    | (with_reducible refine bf_pf (by assumption) (by decide) ?_; intro _ _)
    | (with_reducible refine bf_st (by assumption) (by decide) ?_; intro _ _)
    | (with_reducible refine bf_sw (by assumption) (by decide) ?_; intro _ _)
    | (with_reducible refine bf_fi (by assumption) (by decide) ?_; intro _ _)
    | with_reducible refine bf_e_Laws_tellsTo_227 ?_ (by assumption)
    | (with_reducible refine po_call (bf_e_Laws_tellsTo_227 ?_ (by assumption)) ?_)
    | with_reducible refine bf_e_Laws_tellsTo_126 ?_ (by assumption)
    | (with_reducible refine po_call (bf_e_Laws_tellsTo_126 ?_ (by assumption)) ?_)
    | with_reducible exact hK13 _ _ _ _ _ _ _ _ (by assumption)
    | (intros; with_reducible exact hK13 _ _ _ _ _ _ _ _ (by assumption))
    | with_reducible refine po_cond (fun _ => ?_) (fun _ => ?_)
    | with_reducible refine po_bind_cond (fun _ => ?_) (fun _ => ?_)
    | with_reducible refine po_bl (fun _ _ => ?_))
theorem bf_e_Laws_tellsTo_153 {n : Nat} {P : Nat → Nat → Nat} {F : Nat → Nat → Int32} {A : Nat → Nat → Nat → Int32} {J : Nat → Nat → Nat → Int64} {r0 : Nat}  (h : BFx P0 F0 A0 P F A) : po (e_Laws_tellsTo_153 n P F A J r0) (fun r => BFx P0 F0 A0 r.2.1 r.2.2.1 r.2.2.2.1) := by
  unfold e_Laws_tellsTo_153
  repeat' (first
    | with_reducible exact po_some (by assumption)
    | (with_reducible refine bf_pf (by assumption) (by decide) ?_; intro _ _)
    | (with_reducible refine bf_st (by assumption) (by decide) ?_; intro _ _)
    | (with_reducible refine bf_sw (by assumption) (by decide) ?_; intro _ _)
    | (with_reducible refine bf_fi (by assumption) (by decide) ?_; intro _ _)
    | with_reducible refine po_cond (fun _ => ?_) (fun _ => ?_)
    | with_reducible refine po_bind_cond (fun _ => ?_) (fun _ => ?_)
    | with_reducible refine po_bl (fun _ _ => ?_))
theorem bf_e_Laws_tellsTo_192 {K13 : (Nat → Nat → Nat) → (Nat → Nat → Int32) → (Nat → Nat → Nat → Int32) → (Nat → Nat → Nat → Int64) → Nat → Int32 → Int32 → Int32 → Option (Int32 × (Nat → Nat → Nat) × (Nat → Nat → Int32) × (Nat → Nat → Nat → Int32) × (Nat → Nat → Nat → Int64))} {n : Nat} {P : Nat → Nat → Nat} {F : Nat → Nat → Int32} {A : Nat → Nat → Nat → Int32} {J : Nat → Nat → Nat → Int64} {r0 : Nat} {x4 : Int32} {x5 : Int32} {s0 : Int32} (hK13 : ∀ (a0 : Nat → Nat → Nat) (a1 : Nat → Nat → Int32) (a2 : Nat → Nat → Nat → Int32) (a3 : Nat → Nat → Nat → Int64) (a4 : Nat) (a5 : Int32) (a6 : Int32) (a7 : Int32), BFx P0 F0 A0 a0 a1 a2 → po (K13 a0 a1 a2 a3 a4 a5 a6 a7) (fun r => BFx P0 F0 A0 r.2.1 r.2.2.1 r.2.2.2.1)) (h : BFx P0 F0 A0 P F A) : po (e_Laws_tellsTo_192 K13 n P F A J r0 x4 x5 s0) (fun r => BFx P0 F0 A0 r.2.1 r.2.2.1 r.2.2.2.1) := by
  unfold e_Laws_tellsTo_192
  repeat' (first
    | with_reducible exact po_some (by assumption)
    | (with_reducible refine bf_pf (by assumption) (by decide) ?_; intro _ _)
    | (with_reducible refine bf_st (by assumption) (by decide) ?_; intro _ _)
    | (with_reducible refine bf_sw (by assumption) (by decide) ?_; intro _ _)
    | (with_reducible refine bf_fi (by assumption) (by decide) ?_; intro _ _)
    | with_reducible refine bf_e_Laws_tellsTo_227 ?_ (by assumption)
    | (with_reducible refine po_call (bf_e_Laws_tellsTo_227 ?_ (by assumption)) ?_)
    | with_reducible exact hK13 _ _ _ _ _ _ _ _ (by assumption)
    | (intros; with_reducible exact hK13 _ _ _ _ _ _ _ _ (by assumption))
    | with_reducible refine po_cond (fun _ => ?_) (fun _ => ?_)
    | with_reducible refine po_bind_cond (fun _ => ?_) (fun _ => ?_)
    | with_reducible refine po_bl (fun _ _ => ?_))
theorem bf_e_Laws_tellsTo_157 {K13 : (Nat → Nat → Nat) → (Nat → Nat → Int32) → (Nat → Nat → Nat → Int32) → (Nat → Nat → Nat → Int64) → Nat → Int32 → Int32 → Int32 → Option (Int32 × (Nat → Nat → Nat) × (Nat → Nat → Int32) × (Nat → Nat → Nat → Int32) × (Nat → Nat → Nat → Int64))} {n : Nat} {P : Nat → Nat → Nat} {F : Nat → Nat → Int32} {A : Nat → Nat → Nat → Int32} {J : Nat → Nat → Nat → Int64} {r0 : Nat} {x3 : Int32} {x4 : Int32} {x5 : Int32} {x6 : Int32} {x7 : Int32} (hK13 : ∀ (a0 : Nat → Nat → Nat) (a1 : Nat → Nat → Int32) (a2 : Nat → Nat → Nat → Int32) (a3 : Nat → Nat → Nat → Int64) (a4 : Nat) (a5 : Int32) (a6 : Int32) (a7 : Int32), BFx P0 F0 A0 a0 a1 a2 → po (K13 a0 a1 a2 a3 a4 a5 a6 a7) (fun r => BFx P0 F0 A0 r.2.1 r.2.2.1 r.2.2.2.1)) (h : BFx P0 F0 A0 P F A) : po (e_Laws_tellsTo_157 K13 n P F A J r0 x3 x4 x5 x6 x7) (fun r => BFx P0 F0 A0 r.2.1 r.2.2.1 r.2.2.2.1) := by
  unfold e_Laws_tellsTo_157
  repeat' (first
    | with_reducible exact po_some (by assumption)
    | (with_reducible refine bf_pf (by assumption) (by decide) ?_; intro _ _)
    | (with_reducible refine bf_st (by assumption) (by decide) ?_; intro _ _)
    | (with_reducible refine bf_sw (by assumption) (by decide) ?_; intro _ _)
    | (with_reducible refine bf_fi (by assumption) (by decide) ?_; intro _ _)
    | with_reducible refine bf_e_Laws_tellsTo_192 ?_ (by assumption)
    | (with_reducible refine po_call (bf_e_Laws_tellsTo_192 ?_ (by assumption)) ?_)
    | with_reducible exact hK13 _ _ _ _ _ _ _ _ (by assumption)
    | (intros; with_reducible exact hK13 _ _ _ _ _ _ _ _ (by assumption))
    | with_reducible refine po_cond (fun _ => ?_) (fun _ => ?_)
    | with_reducible refine po_bind_cond (fun _ => ?_) (fun _ => ?_)
    | with_reducible refine po_bl (fun _ _ => ?_))
theorem bf_e_Laws_tellsTo_13   : ∀ {n : Nat} {P : Nat → Nat → Nat} {F : Nat → Nat → Int32} {A : Nat → Nat → Nat → Int32} {J : Nat → Nat → Nat → Int64} {r0 : Nat} {x3 : Int32} {x4 : Int32} {x5 : Int32}, BFx P0 F0 A0 P F A → po (e_Laws_tellsTo_13  n P F A J r0 x3 x4 x5) (fun r => BFx P0 F0 A0 r.2.1 r.2.2.1 r.2.2.2.1) := by
  intro n
  induction n with
  | zero => intro P F A J r0 x3 x4 x5 _ r hr; cases hr
  | succ n ih =>
    intro P F A J r0 x3 x4 x5 h
    unfold e_Laws_tellsTo_13
    repeat' (first
      | with_reducible exact po_some (by assumption)
      | (with_reducible refine bf_pf (by assumption) (by decide) ?_; intro _ _)
      | (with_reducible refine bf_st (by assumption) (by decide) ?_; intro _ _)
      | (with_reducible refine bf_sw (by assumption) (by decide) ?_; intro _ _)
      | (with_reducible refine bf_fi (by assumption) (by decide) ?_; intro _ _)
      | with_reducible exact bf_e_Laws_tellsTo_233 (by assumption)
      | (with_reducible refine po_call (bf_e_Laws_tellsTo_233 (by assumption)) ?_; rintro ⟨_, _, _, _, _⟩ _; try dsimp only)
      | with_reducible refine bf_e_Laws_tellsTo_88 ?_ (by assumption)
      | (with_reducible refine po_call (bf_e_Laws_tellsTo_88 ?_ (by assumption)) ?_)
      | with_reducible exact bf_e_Laws_tellsTo_153 (by assumption)
      | (with_reducible refine po_call (bf_e_Laws_tellsTo_153 (by assumption)) ?_; rintro ⟨_, _, _, _, _⟩ _; try dsimp only)
      | with_reducible refine bf_e_Laws_tellsTo_157 ?_ (by assumption)
      | (with_reducible refine po_call (bf_e_Laws_tellsTo_157 ?_ (by assumption)) ?_)
      | with_reducible exact ih (by assumption)
      | (with_reducible refine po_call (ih (by assumption)) ?_; rintro ⟨_, _, _, _, _⟩ _; try dsimp only)
      | (intros; with_reducible exact ih (by assumption))
      | with_reducible refine po_cond (fun _ => ?_) (fun _ => ?_)
      | with_reducible refine po_bind_cond (fun _ => ?_) (fun _ => ?_)
      | with_reducible refine po_bl (fun _ _ => ?_))
theorem bf_e_Laws_tellsTo {n : Nat} {P : Nat → Nat → Nat} {F : Nat → Nat → Int32} {A : Nat → Nat → Nat → Int32} {J : Nat → Nat → Nat → Int64} {r0 : Nat} {x1 : Int32}  (h : BFx P0 F0 A0 P F A) : po (e_Laws_tellsTo n P F A J r0 x1) (fun r => BFx P0 F0 A0 r.2.1 r.2.2.1 r.2.2.2.1) := by
  unfold e_Laws_tellsTo
  repeat' (first
    | with_reducible exact po_some (by assumption)
    | (with_reducible refine bf_pf (by assumption) (by decide) ?_; intro _ _)
    | (with_reducible refine bf_st (by assumption) (by decide) ?_; intro _ _)
    | (with_reducible refine bf_sw (by assumption) (by decide) ?_; intro _ _)
    | (with_reducible refine bf_fi (by assumption) (by decide) ?_; intro _ _)
    | with_reducible exact bf_e_Laws_tellsTo_13 (by assumption)
    | (with_reducible refine po_call (bf_e_Laws_tellsTo_13 (by assumption)) ?_; rintro ⟨_, _, _, _, _⟩ _; try dsimp only)
    | with_reducible refine po_cond (fun _ => ?_) (fun _ => ?_)
    | with_reducible refine po_bind_cond (fun _ => ?_) (fun _ => ?_)
    | with_reducible refine po_bl (fun _ _ => ?_))
theorem bf_e_Sleep_chosenStep {n : Nat} {P : Nat → Nat → Nat} {F : Nat → Nat → Int32} {A : Nat → Nat → Nat → Int32} {J : Nat → Nat → Nat → Int64} {x1 : Int32} {x2 : Int32} {x3 : Int32}  (h : BFx P0 F0 A0 P F A) : po (e_Sleep_chosenStep n P F A J x1 x2 x3) (fun r => BFx P0 F0 A0 r.2.1 r.2.2.1 r.2.2.2.1) := by
  unfold e_Sleep_chosenStep
  repeat' (first
    | with_reducible exact po_some (by assumption)
    | (with_reducible refine bf_pf (by assumption) (by decide) ?_; intro _ _)
    | (with_reducible refine bf_st (by assumption) (by decide) ?_; intro _ _)
    | (with_reducible refine bf_sw (by assumption) (by decide) ?_; intro _ _)
    | (with_reducible refine bf_fi (by assumption) (by decide) ?_; intro _ _)
    | with_reducible exact bf_e_Laws_tellsTo (by assumption)
    | (with_reducible refine po_call (bf_e_Laws_tellsTo (by assumption)) ?_; rintro ⟨_, _, _, _, _⟩ _; try dsimp only)
    | with_reducible refine po_cond (fun _ => ?_) (fun _ => ?_)
    | with_reducible refine po_bind_cond (fun _ => ?_) (fun _ => ?_)
    | with_reducible refine po_bl (fun _ _ => ?_))
theorem bf_e_Sleep_lieDown {P : Nat → Nat → Nat} {F : Nat → Nat → Int32} {A : Nat → Nat → Nat → Int32} {J : Nat → Nat → Nat → Int64} {x1 : Int32} {x2 : Int32}  (h : BFx P0 F0 A0 P F A) : po (e_Sleep_lieDown P F A J x1 x2) (fun r => BFx P0 F0 A0 r.2.1 r.2.2.1 r.2.2.2.1) := by
  unfold e_Sleep_lieDown
  repeat' (first
    | with_reducible exact po_some (by assumption)
    | (with_reducible refine bf_pf (by assumption) (by decide) ?_; intro _ _)
    | (with_reducible refine bf_st (by assumption) (by decide) ?_; intro _ _)
    | (with_reducible refine bf_sw (by assumption) (by decide) ?_; intro _ _)
    | (with_reducible refine bf_fi (by assumption) (by decide) ?_; intro _ _)
    | with_reducible refine po_cond (fun _ => ?_) (fun _ => ?_)
    | with_reducible refine po_bind_cond (fun _ => ?_) (fun _ => ?_)
    | with_reducible refine po_bl (fun _ _ => ?_))
theorem bf_e_Sleep_begin_59 {n : Nat} {P : Nat → Nat → Nat} {F : Nat → Nat → Int32} {A : Nat → Nat → Nat → Int32} {J : Nat → Nat → Nat → Int64} {x1 : Int32} {x2 : Int32} {s1 : Int32} {s2 : Int32}  (h : BFx P0 F0 A0 P F A) : po (e_Sleep_begin_59 n P F A J x1 x2 s1 s2) (fun r => BFx P0 F0 A0 r.2.1 r.2.2.1 r.2.2.2.1) := by
  unfold e_Sleep_begin_59
  repeat' (first
    | with_reducible exact po_some (by assumption)
    | (with_reducible refine bf_pf (by assumption) (by decide) ?_; intro _ _)
    | (with_reducible refine bf_st (by assumption) (by decide) ?_; intro _ _)
    | (with_reducible refine bf_sw (by assumption) (by decide) ?_; intro _ _)
    | (with_reducible refine bf_fi (by assumption) (by decide) ?_; intro _ _)
    | with_reducible exact bf_e_Sleep_lieDown (by assumption)
    | (with_reducible refine po_call (bf_e_Sleep_lieDown (by assumption)) ?_; rintro ⟨_, _, _, _, _⟩ _; try dsimp only)
    | with_reducible refine po_cond (fun _ => ?_) (fun _ => ?_)
    | with_reducible refine po_bind_cond (fun _ => ?_) (fun _ => ?_)
    | with_reducible refine po_bl (fun _ _ => ?_))
theorem bf_e_Sleep_begin_44 {n : Nat} {P : Nat → Nat → Nat} {F : Nat → Nat → Int32} {A : Nat → Nat → Nat → Int32} {J : Nat → Nat → Nat → Int64} {x1 : Int32} {x2 : Int32} {x4 : Int32}  (h : BFx P0 F0 A0 P F A) : po (e_Sleep_begin_44 n P F A J x1 x2 x4) (fun r => BFx P0 F0 A0 r.2.1 r.2.2.1 r.2.2.2.1) := by
  unfold e_Sleep_begin_44
  repeat' (first
    | with_reducible exact po_some (by assumption)
    | (with_reducible refine bf_pf (by assumption) (by decide) ?_; intro _ _)
    | (with_reducible refine bf_st (by assumption) (by decide) ?_; intro _ _)
    | (with_reducible refine bf_sw (by assumption) (by decide) ?_; intro _ _)
    | (with_reducible refine bf_fi (by assumption) (by decide) ?_; intro _ _)
    | with_reducible exact bf_e_Sleep_begin_59 (by assumption)
    | (with_reducible refine po_call (bf_e_Sleep_begin_59 (by assumption)) ?_; rintro ⟨_, _, _, _, _⟩ _; try dsimp only)
    | with_reducible refine po_cond (fun _ => ?_) (fun _ => ?_)
    | with_reducible refine po_bind_cond (fun _ => ?_) (fun _ => ?_)
    | with_reducible refine po_bl (fun _ _ => ?_))
theorem bf_e_Sleep_nextMinute_5   : ∀ {n : Nat} {P : Nat → Nat → Nat} {F : Nat → Nat → Int32} {A : Nat → Nat → Nat → Int32} {J : Nat → Nat → Nat → Int64} {x1 : Int32} {x2 : Int32}, BFx P0 F0 A0 P F A → po (e_Sleep_nextMinute_5  n P F A J x1 x2) (fun r => BFx P0 F0 A0 r.2.1 r.2.2.1 r.2.2.2.1) := by
  intro n
  induction n with
  | zero => intro P F A J x1 x2 _ r hr; cases hr
  | succ n ih =>
    intro P F A J x1 x2 h
    unfold e_Sleep_nextMinute_5
    repeat' (first
      | with_reducible exact po_some (by assumption)
      | (with_reducible refine bf_pf (by assumption) (by decide) ?_; intro _ _)
      | (with_reducible refine bf_st (by assumption) (by decide) ?_; intro _ _)
      | (with_reducible refine bf_sw (by assumption) (by decide) ?_; intro _ _)
      | (with_reducible refine bf_fi (by assumption) (by decide) ?_; intro _ _)
      | with_reducible exact ih (by assumption)
      | (with_reducible refine po_call (ih (by assumption)) ?_; rintro ⟨_, _, _, _, _⟩ _; try dsimp only)
      | (intros; with_reducible exact ih (by assumption))
      | with_reducible refine po_cond (fun _ => ?_) (fun _ => ?_)
      | with_reducible refine po_bind_cond (fun _ => ?_) (fun _ => ?_)
      | with_reducible refine po_bl (fun _ _ => ?_))
theorem bf_e_Sleep_nextMinute {n : Nat} {P : Nat → Nat → Nat} {F : Nat → Nat → Int32} {A : Nat → Nat → Nat → Int32} {J : Nat → Nat → Nat → Int64}  (h : BFx P0 F0 A0 P F A) : po (e_Sleep_nextMinute n P F A J) (fun r => BFx P0 F0 A0 r.2.1 r.2.2.1 r.2.2.2.1) := by
  unfold e_Sleep_nextMinute
  repeat' (first
    | with_reducible exact po_some (by assumption)
    | (with_reducible refine bf_pf (by assumption) (by decide) ?_; intro _ _)
    | (with_reducible refine bf_st (by assumption) (by decide) ?_; intro _ _)
    | (with_reducible refine bf_sw (by assumption) (by decide) ?_; intro _ _)
    | (with_reducible refine bf_fi (by assumption) (by decide) ?_; intro _ _)
    | with_reducible exact bf_e_Sleep_nextMinute_5 (by assumption)
    | (with_reducible refine po_call (bf_e_Sleep_nextMinute_5 (by assumption)) ?_; rintro ⟨_, _, _, _, _⟩ _; try dsimp only)
    | with_reducible refine po_cond (fun _ => ?_) (fun _ => ?_)
    | with_reducible refine po_bind_cond (fun _ => ?_) (fun _ => ?_)
    | with_reducible refine po_bl (fun _ _ => ?_))
theorem bf_e_Ways_between_27 {n : Nat} {P : Nat → Nat → Nat} {F : Nat → Nat → Int32} {A : Nat → Nat → Nat → Int32} {J : Nat → Nat → Nat → Int64} {x3 : Int32} {x4 : Int32}  (h : BFx P0 F0 A0 P F A) : po (e_Ways_between_27 n P F A J x3 x4) (fun r => BFx P0 F0 A0 r.2.1 r.2.2.1 r.2.2.2.1) := by
  unfold e_Ways_between_27
  repeat' (first
    | with_reducible exact po_some (by assumption)
    | (with_reducible refine bf_pf (by assumption) (by decide) ?_; intro _ _)
    | (with_reducible refine bf_st (by assumption) (by decide) ?_; intro _ _)
    | (with_reducible refine bf_sw (by assumption) (by decide) ?_; intro _ _)
    | (with_reducible refine bf_fi (by assumption) (by decide) ?_; intro _ _)
    | with_reducible refine po_cond (fun _ => ?_) (fun _ => ?_)
    | with_reducible refine po_bind_cond (fun _ => ?_) (fun _ => ?_)
    | with_reducible refine po_bl (fun _ _ => ?_))
theorem bf_e_Ways_takeDoors_127 {K39 : (Nat → Nat → Nat) → (Nat → Nat → Int32) → (Nat → Nat → Nat → Int32) → (Nat → Nat → Nat → Int64) → Nat → Int32 → Int32 → Option (Unit × (Nat → Nat → Nat) × (Nat → Nat → Int32) × (Nat → Nat → Nat → Int32) × (Nat → Nat → Nat → Int64))} {n : Nat} {P : Nat → Nat → Nat} {F : Nat → Nat → Int32} {A : Nat → Nat → Nat → Int32} {J : Nat → Nat → Nat → Int64} {r1 : Nat} {x2 : Int32} {x3 : Int32} (hK39 : ∀ (a0 : Nat → Nat → Nat) (a1 : Nat → Nat → Int32) (a2 : Nat → Nat → Nat → Int32) (a3 : Nat → Nat → Nat → Int64) (a4 : Nat) (a5 : Int32) (a6 : Int32), BFx P0 F0 A0 a0 a1 a2 → po (K39 a0 a1 a2 a3 a4 a5 a6) (fun r => BFx P0 F0 A0 r.2.1 r.2.2.1 r.2.2.2.1)) (h : BFx P0 F0 A0 P F A) : po (e_Ways_takeDoors_127 K39 n P F A J r1 x2 x3) (fun r => BFx P0 F0 A0 r.2.1 r.2.2.1 r.2.2.2.1) := by
  unfold e_Ways_takeDoors_127
  repeat' (first
    | with_reducible exact po_some (by assumption)
    | (with_reducible refine bf_pf (by assumption) (by decide) ?_; intro _ _)
    | (with_reducible refine bf_st (by assumption) (by decide) ?_; intro _ _)
    | (with_reducible refine bf_sw (by assumption) (by decide) ?_; intro _ _)
    | (with_reducible refine bf_fi (by assumption) (by decide) ?_; intro _ _)
    | with_reducible exact hK39 _ _ _ _ _ _ _ (by assumption)
    | (intros; with_reducible exact hK39 _ _ _ _ _ _ _ (by assumption))
    | with_reducible refine po_cond (fun _ => ?_) (fun _ => ?_)
    | with_reducible refine po_bind_cond (fun _ => ?_) (fun _ => ?_)
    | with_reducible refine po_bl (fun _ _ => ?_))
theorem bf_e_Ways_takeDoors_39   : ∀ {n : Nat} {P : Nat → Nat → Nat} {F : Nat → Nat → Int32} {A : Nat → Nat → Nat → Int32} {J : Nat → Nat → Nat → Int64} {r1 : Nat} {x2 : Int32} {x3 : Int32}, BFx P0 F0 A0 P F A → po (e_Ways_takeDoors_39  n P F A J r1 x2 x3) (fun r => BFx P0 F0 A0 r.2.1 r.2.2.1 r.2.2.2.1) := by
  intro n
  induction n with
  | zero => intro P F A J r1 x2 x3 _ r hr; cases hr
  | succ n ih =>
    intro P F A J r1 x2 x3 h
    unfold e_Ways_takeDoors_39
    repeat' (first
      | with_reducible exact po_some (by assumption)
      | (with_reducible refine bf_pf (by assumption) (by decide) ?_; intro _ _)
      | (with_reducible refine bf_st (by assumption) (by decide) ?_; intro _ _)
      | (with_reducible refine bf_sw (by assumption) (by decide) ?_; intro _ _)
      | (with_reducible refine bf_fi (by assumption) (by decide) ?_; intro _ _)
      | with_reducible refine bf_e_Ways_takeDoors_127 ?_ (by assumption)
      | (with_reducible refine po_call (bf_e_Ways_takeDoors_127 ?_ (by assumption)) ?_)
      | with_reducible exact ih (by assumption)
      | (with_reducible refine po_call (ih (by assumption)) ?_; rintro ⟨_, _, _, _, _⟩ _; try dsimp only)
      | (intros; with_reducible exact ih (by assumption))
      | with_reducible refine po_cond (fun _ => ?_) (fun _ => ?_)
      | with_reducible refine po_bind_cond (fun _ => ?_) (fun _ => ?_)
      | with_reducible refine po_bl (fun _ _ => ?_))
theorem bf_e_Ways_takeDoors_11   : ∀ {n : Nat} {P : Nat → Nat → Nat} {F : Nat → Nat → Int32} {A : Nat → Nat → Nat → Int32} {J : Nat → Nat → Nat → Int64} {r1 : Nat} {x2 : Int32} {x3 : Int32}, BFx P0 F0 A0 P F A → po (e_Ways_takeDoors_11  n P F A J r1 x2 x3) (fun r => BFx P0 F0 A0 r.2.1 r.2.2.1 r.2.2.2.1) := by
  intro n
  induction n with
  | zero => intro P F A J r1 x2 x3 _ r hr; cases hr
  | succ n ih =>
    intro P F A J r1 x2 x3 h
    unfold e_Ways_takeDoors_11
    repeat' (first
      | with_reducible exact po_some (by assumption)
      | (with_reducible refine bf_pf (by assumption) (by decide) ?_; intro _ _)
      | (with_reducible refine bf_st (by assumption) (by decide) ?_; intro _ _)
      | (with_reducible refine bf_sw (by assumption) (by decide) ?_; intro _ _)
      | (with_reducible refine bf_fi (by assumption) (by decide) ?_; intro _ _)
      | with_reducible exact bf_e_Ways_takeDoors_39 (by assumption)
      | (with_reducible refine po_call (bf_e_Ways_takeDoors_39 (by assumption)) ?_; rintro ⟨_, _, _, _, _⟩ _; try dsimp only)
      | with_reducible exact ih (by assumption)
      | (with_reducible refine po_call (ih (by assumption)) ?_; rintro ⟨_, _, _, _, _⟩ _; try dsimp only)
      | (intros; with_reducible exact ih (by assumption))
      | with_reducible refine po_cond (fun _ => ?_) (fun _ => ?_)
      | with_reducible refine po_bind_cond (fun _ => ?_) (fun _ => ?_)
      | with_reducible refine po_bl (fun _ _ => ?_))
theorem bf_e_Ways_takeDoors {n : Nat} {P : Nat → Nat → Nat} {F : Nat → Nat → Int32} {A : Nat → Nat → Nat → Int32} {J : Nat → Nat → Nat → Int64} {r1 : Nat} {x2 : Int32}  (h : BFx P0 F0 A0 P F A) : po (e_Ways_takeDoors n P F A J r1 x2) (fun r => BFx P0 F0 A0 r.2.1 r.2.2.1 r.2.2.2.1) := by
  unfold e_Ways_takeDoors
  repeat' (first
    | with_reducible exact po_some (by assumption)
    | (with_reducible refine bf_pf (by assumption) (by decide) ?_; intro _ _)
    | (with_reducible refine bf_st (by assumption) (by decide) ?_; intro _ _)
    | (with_reducible refine bf_sw (by assumption) (by decide) ?_; intro _ _)
    | (with_reducible refine bf_fi (by assumption) (by decide) ?_; intro _ _)
    | with_reducible exact bf_e_Ways_takeDoors_11 (by assumption)
    | (with_reducible refine po_call (bf_e_Ways_takeDoors_11 (by assumption)) ?_; rintro ⟨_, _, _, _, _⟩ _; try dsimp only)
    | with_reducible refine po_cond (fun _ => ?_) (fun _ => ?_)
    | with_reducible refine po_bind_cond (fun _ => ?_) (fun _ => ?_)
    | with_reducible refine po_bl (fun _ _ => ?_))
theorem bf_e_Ways_joinWays_97 {K2 : (Nat → Nat → Nat) → (Nat → Nat → Int32) → (Nat → Nat → Nat → Int32) → (Nat → Nat → Nat → Int64) → Int32 → Int32 → Option (Unit × (Nat → Nat → Nat) × (Nat → Nat → Int32) × (Nat → Nat → Nat → Int32) × (Nat → Nat → Nat → Int64))} {K9 : (Nat → Nat → Nat) → (Nat → Nat → Int32) → (Nat → Nat → Nat → Int32) → (Nat → Nat → Nat → Int64) → Int32 → Int32 → Int32 → Option (Unit × (Nat → Nat → Nat) × (Nat → Nat → Int32) × (Nat → Nat → Nat → Int32) × (Nat → Nat → Nat → Int64))} {n : Nat} {P : Nat → Nat → Nat} {F : Nat → Nat → Int32} {A : Nat → Nat → Nat → Int32} {J : Nat → Nat → Nat → Int64} {x1 : Int32} {x2 : Int32} {x3 : Int32} (hK2 : ∀ (a0 : Nat → Nat → Nat) (a1 : Nat → Nat → Int32) (a2 : Nat → Nat → Nat → Int32) (a3 : Nat → Nat → Nat → Int64) (a4 : Int32) (a5 : Int32), BFx P0 F0 A0 a0 a1 a2 → po (K2 a0 a1 a2 a3 a4 a5) (fun r => BFx P0 F0 A0 r.2.1 r.2.2.1 r.2.2.2.1)) (hK9 : ∀ (a0 : Nat → Nat → Nat) (a1 : Nat → Nat → Int32) (a2 : Nat → Nat → Nat → Int32) (a3 : Nat → Nat → Nat → Int64) (a4 : Int32) (a5 : Int32) (a6 : Int32), BFx P0 F0 A0 a0 a1 a2 → po (K9 a0 a1 a2 a3 a4 a5 a6) (fun r => BFx P0 F0 A0 r.2.1 r.2.2.1 r.2.2.2.1)) (h : BFx P0 F0 A0 P F A) : po (e_Ways_joinWays_97 K2 K9 n P F A J x1 x2 x3) (fun r => BFx P0 F0 A0 r.2.1 r.2.2.1 r.2.2.2.1) := by
  unfold e_Ways_joinWays_97
  repeat' (first
    | with_reducible exact po_some (by assumption)
    | (with_reducible refine bf_pf (by assumption) (by decide) ?_; intro _ _)
    | (with_reducible refine bf_st (by assumption) (by decide) ?_; intro _ _)
    | (with_reducible refine bf_sw (by assumption) (by decide) ?_; intro _ _)
    | (with_reducible refine bf_fi (by assumption) (by decide) ?_; intro _ _)
    | with_reducible exact hK2 _ _ _ _ _ _ (by assumption)
    | (intros; with_reducible exact hK2 _ _ _ _ _ _ (by assumption))
    | with_reducible exact hK9 _ _ _ _ _ _ _ (by assumption)
    | (intros; with_reducible exact hK9 _ _ _ _ _ _ _ (by assumption))
    | with_reducible refine po_cond (fun _ => ?_) (fun _ => ?_)
    | with_reducible refine po_bind_cond (fun _ => ?_) (fun _ => ?_)
    | with_reducible refine po_bl (fun _ _ => ?_))
theorem bf_e_Ways_joinWays_91 {K2 : (Nat → Nat → Nat) → (Nat → Nat → Int32) → (Nat → Nat → Nat → Int32) → (Nat → Nat → Nat → Int64) → Int32 → Int32 → Option (Unit × (Nat → Nat → Nat) × (Nat → Nat → Int32) × (Nat → Nat → Nat → Int32) × (Nat → Nat → Nat → Int64))} {K9 : (Nat → Nat → Nat) → (Nat → Nat → Int32) → (Nat → Nat → Nat → Int32) → (Nat → Nat → Nat → Int64) → Int32 → Int32 → Int32 → Option (Unit × (Nat → Nat → Nat) × (Nat → Nat → Int32) × (Nat → Nat → Nat → Int32) × (Nat → Nat → Nat → Int64))} {K30 : (Nat → Nat → Nat) → (Nat → Nat → Int32) → (Nat → Nat → Nat → Int32) → (Nat → Nat → Nat → Int64) → Int32 → Int32 → Int32 → Int32 → Int32 → Option (Unit × (Nat → Nat → Nat) × (Nat → Nat → Int32) × (Nat → Nat → Nat → Int32) × (Nat → Nat → Nat → Int64))} {n : Nat} {P : Nat → Nat → Nat} {F : Nat → Nat → Int32} {A : Nat → Nat → Nat → Int32} {J : Nat → Nat → Nat → Int64} {x1 : Int32} {x2 : Int32} {x3 : Int32} {x4 : Int32} {x5 : Int32} (hK2 : ∀ (a0 : Nat → Nat → Nat) (a1 : Nat → Nat → Int32) (a2 : Nat → Nat → Nat → Int32) (a3 : Nat → Nat → Nat → Int64) (a4 : Int32) (a5 : Int32), BFx P0 F0 A0 a0 a1 a2 → po (K2 a0 a1 a2 a3 a4 a5) (fun r => BFx P0 F0 A0 r.2.1 r.2.2.1 r.2.2.2.1)) (hK9 : ∀ (a0 : Nat → Nat → Nat) (a1 : Nat → Nat → Int32) (a2 : Nat → Nat → Nat → Int32) (a3 : Nat → Nat → Nat → Int64) (a4 : Int32) (a5 : Int32) (a6 : Int32), BFx P0 F0 A0 a0 a1 a2 → po (K9 a0 a1 a2 a3 a4 a5 a6) (fun r => BFx P0 F0 A0 r.2.1 r.2.2.1 r.2.2.2.1)) (hK30 : ∀ (a0 : Nat → Nat → Nat) (a1 : Nat → Nat → Int32) (a2 : Nat → Nat → Nat → Int32) (a3 : Nat → Nat → Nat → Int64) (a4 : Int32) (a5 : Int32) (a6 : Int32) (a7 : Int32) (a8 : Int32), BFx P0 F0 A0 a0 a1 a2 → po (K30 a0 a1 a2 a3 a4 a5 a6 a7 a8) (fun r => BFx P0 F0 A0 r.2.1 r.2.2.1 r.2.2.2.1)) (h : BFx P0 F0 A0 P F A) : po (e_Ways_joinWays_91 K2 K9 K30 n P F A J x1 x2 x3 x4 x5) (fun r => BFx P0 F0 A0 r.2.1 r.2.2.1 r.2.2.2.1) := by
  unfold e_Ways_joinWays_91
  repeat' (first
    | with_reducible exact po_some (by assumption)
    | (with_reducible refine bf_pf (by assumption) (by decide) ?_; intro _ _)
    | (with_reducible refine bf_st (by assumption) (by decide) ?_; intro _ _)
    | (with_reducible refine bf_sw (by assumption) (by decide) ?_; intro _ _)
    | (with_reducible refine bf_fi (by assumption) (by decide) ?_; intro _ _)
    | with_reducible exact hK2 _ _ _ _ _ _ (by assumption)
    | (intros; with_reducible exact hK2 _ _ _ _ _ _ (by assumption))
    | with_reducible exact hK9 _ _ _ _ _ _ _ (by assumption)
    | (intros; with_reducible exact hK9 _ _ _ _ _ _ _ (by assumption))
    | with_reducible exact hK30 _ _ _ _ _ _ _ _ _ (by assumption)
    | (intros; with_reducible exact hK30 _ _ _ _ _ _ _ _ _ (by assumption))
    | with_reducible refine po_cond (fun _ => ?_) (fun _ => ?_)
    | with_reducible refine po_bind_cond (fun _ => ?_) (fun _ => ?_)
    | with_reducible refine po_bl (fun _ _ => ?_))
theorem bf_e_Ways_joinWays_30 {K2 : (Nat → Nat → Nat) → (Nat → Nat → Int32) → (Nat → Nat → Nat → Int32) → (Nat → Nat → Nat → Int64) → Int32 → Int32 → Option (Unit × (Nat → Nat → Nat) × (Nat → Nat → Int32) × (Nat → Nat → Nat → Int32) × (Nat → Nat → Nat → Int64))} {K9 : (Nat → Nat → Nat) → (Nat → Nat → Int32) → (Nat → Nat → Nat → Int32) → (Nat → Nat → Nat → Int64) → Int32 → Int32 → Int32 → Option (Unit × (Nat → Nat → Nat) × (Nat → Nat → Int32) × (Nat → Nat → Nat → Int32) × (Nat → Nat → Nat → Int64))} (hK2 : ∀ (a0 : Nat → Nat → Nat) (a1 : Nat → Nat → Int32) (a2 : Nat → Nat → Nat → Int32) (a3 : Nat → Nat → Nat → Int64) (a4 : Int32) (a5 : Int32), BFx P0 F0 A0 a0 a1 a2 → po (K2 a0 a1 a2 a3 a4 a5) (fun r => BFx P0 F0 A0 r.2.1 r.2.2.1 r.2.2.2.1)) (hK9 : ∀ (a0 : Nat → Nat → Nat) (a1 : Nat → Nat → Int32) (a2 : Nat → Nat → Nat → Int32) (a3 : Nat → Nat → Nat → Int64) (a4 : Int32) (a5 : Int32) (a6 : Int32), BFx P0 F0 A0 a0 a1 a2 → po (K9 a0 a1 a2 a3 a4 a5 a6) (fun r => BFx P0 F0 A0 r.2.1 r.2.2.1 r.2.2.2.1)) : ∀ {n : Nat} {P : Nat → Nat → Nat} {F : Nat → Nat → Int32} {A : Nat → Nat → Nat → Int32} {J : Nat → Nat → Nat → Int64} {x1 : Int32} {x2 : Int32} {x3 : Int32} {x4 : Int32} {x5 : Int32}, BFx P0 F0 A0 P F A → po (e_Ways_joinWays_30 K2 K9 n P F A J x1 x2 x3 x4 x5) (fun r => BFx P0 F0 A0 r.2.1 r.2.2.1 r.2.2.2.1) := by
  intro n
  induction n with
  | zero => intro P F A J x1 x2 x3 x4 x5 _ r hr; cases hr
  | succ n ih =>
    intro P F A J x1 x2 x3 x4 x5 h
    unfold e_Ways_joinWays_30
    repeat' (first
      | with_reducible exact po_some (by assumption)
      | (with_reducible refine bf_pf (by assumption) (by decide) ?_; intro _ _)
      | (with_reducible refine bf_st (by assumption) (by decide) ?_; intro _ _)
      | (with_reducible refine bf_sw (by assumption) (by decide) ?_; intro _ _)
      | (with_reducible refine bf_fi (by assumption) (by decide) ?_; intro _ _)
      | with_reducible refine bf_e_Ways_joinWays_97 ?_ ?_ (by assumption)
      | (with_reducible refine po_call (bf_e_Ways_joinWays_97 ?_ ?_ (by assumption)) ?_)
      | with_reducible refine bf_e_Ways_joinWays_91 ?_ ?_ ?_ (by assumption)
      | (with_reducible refine po_call (bf_e_Ways_joinWays_91 ?_ ?_ ?_ (by assumption)) ?_)
      | with_reducible exact hK2 _ _ _ _ _ _ (by assumption)
      | (intros; with_reducible exact hK2 _ _ _ _ _ _ (by assumption))
      | with_reducible exact hK9 _ _ _ _ _ _ _ (by assumption)
      | (intros; with_reducible exact hK9 _ _ _ _ _ _ _ (by assumption))
      | with_reducible exact ih (by assumption)
      | (with_reducible refine po_call (ih (by assumption)) ?_; rintro ⟨_, _, _, _, _⟩ _; try dsimp only)
      | (intros; with_reducible exact ih (by assumption))
      | with_reducible refine po_cond (fun _ => ?_) (fun _ => ?_)
      | with_reducible refine po_bind_cond (fun _ => ?_) (fun _ => ?_)
      | with_reducible refine po_bl (fun _ _ => ?_))
theorem bf_e_Ways_joinWays_9 {K2 : (Nat → Nat → Nat) → (Nat → Nat → Int32) → (Nat → Nat → Nat → Int32) → (Nat → Nat → Nat → Int64) → Int32 → Int32 → Option (Unit × (Nat → Nat → Nat) × (Nat → Nat → Int32) × (Nat → Nat → Nat → Int32) × (Nat → Nat → Nat → Int64))} (hK2 : ∀ (a0 : Nat → Nat → Nat) (a1 : Nat → Nat → Int32) (a2 : Nat → Nat → Nat → Int32) (a3 : Nat → Nat → Nat → Int64) (a4 : Int32) (a5 : Int32), BFx P0 F0 A0 a0 a1 a2 → po (K2 a0 a1 a2 a3 a4 a5) (fun r => BFx P0 F0 A0 r.2.1 r.2.2.1 r.2.2.2.1)) : ∀ {n : Nat} {P : Nat → Nat → Nat} {F : Nat → Nat → Int32} {A : Nat → Nat → Nat → Int32} {J : Nat → Nat → Nat → Int64} {x1 : Int32} {x2 : Int32} {x3 : Int32}, BFx P0 F0 A0 P F A → po (e_Ways_joinWays_9 K2 n P F A J x1 x2 x3) (fun r => BFx P0 F0 A0 r.2.1 r.2.2.1 r.2.2.2.1) := by
  intro n
  induction n with
  | zero => intro P F A J x1 x2 x3 _ r hr; cases hr
  | succ n ih =>
    intro P F A J x1 x2 x3 h
    unfold e_Ways_joinWays_9
    repeat' (first
      | with_reducible exact po_some (by assumption)
      | (with_reducible refine bf_pf (by assumption) (by decide) ?_; intro _ _)
      | (with_reducible refine bf_st (by assumption) (by decide) ?_; intro _ _)
      | (with_reducible refine bf_sw (by assumption) (by decide) ?_; intro _ _)
      | (with_reducible refine bf_fi (by assumption) (by decide) ?_; intro _ _)
      | with_reducible refine bf_e_Ways_joinWays_30 ?_ ?_ (by assumption)
      | (with_reducible refine po_call (bf_e_Ways_joinWays_30 ?_ ?_ (by assumption)) ?_)
      | with_reducible exact hK2 _ _ _ _ _ _ (by assumption)
      | (intros; with_reducible exact hK2 _ _ _ _ _ _ (by assumption))
      | with_reducible exact ih (by assumption)
      | (with_reducible refine po_call (ih (by assumption)) ?_; rintro ⟨_, _, _, _, _⟩ _; try dsimp only)
      | (intros; with_reducible exact ih (by assumption))
      | with_reducible refine po_cond (fun _ => ?_) (fun _ => ?_)
      | with_reducible refine po_bind_cond (fun _ => ?_) (fun _ => ?_)
      | with_reducible refine po_bl (fun _ _ => ?_))
theorem bf_e_Ways_joinWays_2   : ∀ {n : Nat} {P : Nat → Nat → Nat} {F : Nat → Nat → Int32} {A : Nat → Nat → Nat → Int32} {J : Nat → Nat → Nat → Int64} {x1 : Int32} {x2 : Int32}, BFx P0 F0 A0 P F A → po (e_Ways_joinWays_2  n P F A J x1 x2) (fun r => BFx P0 F0 A0 r.2.1 r.2.2.1 r.2.2.2.1) := by
  intro n
  induction n with
  | zero => intro P F A J x1 x2 _ r hr; cases hr
  | succ n ih =>
    intro P F A J x1 x2 h
    unfold e_Ways_joinWays_2
    repeat' (first
      | with_reducible exact po_some (by assumption)
      | (with_reducible refine bf_pf (by assumption) (by decide) ?_; intro _ _)
      | (with_reducible refine bf_st (by assumption) (by decide) ?_; intro _ _)
      | (with_reducible refine bf_sw (by assumption) (by decide) ?_; intro _ _)
      | (with_reducible refine bf_fi (by assumption) (by decide) ?_; intro _ _)
      | with_reducible refine bf_e_Ways_joinWays_9 ?_ (by assumption)
      | (with_reducible refine po_call (bf_e_Ways_joinWays_9 ?_ (by assumption)) ?_)
      | with_reducible exact ih (by assumption)
      | (with_reducible refine po_call (ih (by assumption)) ?_; rintro ⟨_, _, _, _, _⟩ _; try dsimp only)
      | (intros; with_reducible exact ih (by assumption))
      | with_reducible refine po_cond (fun _ => ?_) (fun _ => ?_)
      | with_reducible refine po_bind_cond (fun _ => ?_) (fun _ => ?_)
      | with_reducible refine po_bl (fun _ _ => ?_))
theorem bf_e_Ways_joinWays {n : Nat} {P : Nat → Nat → Nat} {F : Nat → Nat → Int32} {A : Nat → Nat → Nat → Int32} {J : Nat → Nat → Nat → Int64} {x1 : Int32}  (h : BFx P0 F0 A0 P F A) : po (e_Ways_joinWays n P F A J x1) (fun r => BFx P0 F0 A0 r.2.1 r.2.2.1 r.2.2.2.1) := by
  unfold e_Ways_joinWays
  repeat' (first
    | with_reducible exact po_some (by assumption)
    | (with_reducible refine bf_pf (by assumption) (by decide) ?_; intro _ _)
    | (with_reducible refine bf_st (by assumption) (by decide) ?_; intro _ _)
    | (with_reducible refine bf_sw (by assumption) (by decide) ?_; intro _ _)
    | (with_reducible refine bf_fi (by assumption) (by decide) ?_; intro _ _)
    | with_reducible exact bf_e_Ways_joinWays_2 (by assumption)
    | (with_reducible refine po_call (bf_e_Ways_joinWays_2 (by assumption)) ?_; rintro ⟨_, _, _, _, _⟩ _; try dsimp only)
    | with_reducible refine po_cond (fun _ => ?_) (fun _ => ?_)
    | with_reducible refine po_bind_cond (fun _ => ?_) (fun _ => ?_)
    | with_reducible refine po_bl (fun _ _ => ?_))
theorem bf_e_Ways_between {n : Nat} {P : Nat → Nat → Nat} {F : Nat → Nat → Int32} {A : Nat → Nat → Nat → Int32} {J : Nat → Nat → Nat → Int64} {r1 : Nat} {x2 : Int32} {x3 : Int32} {x4 : Int32}  (h : BFx P0 F0 A0 P F A) : po (e_Ways_between n P F A J r1 x2 x3 x4) (fun r => BFx P0 F0 A0 r.2.1 r.2.2.1 r.2.2.2.1) := by
  unfold e_Ways_between
  repeat' (first
    | with_reducible exact po_some (by assumption)
    | (with_reducible refine bf_pf (by assumption) (by decide) ?_; intro _ _)
    | (with_reducible refine bf_st (by assumption) (by decide) ?_; intro _ _)
    | (with_reducible refine bf_sw (by assumption) (by decide) ?_; intro _ _)
    | (with_reducible refine bf_fi (by assumption) (by decide) ?_; intro _ _)
    | with_reducible exact bf_e_Ways_between_27 (by assumption)
    | (with_reducible refine po_call (bf_e_Ways_between_27 (by assumption)) ?_; rintro ⟨_, _, _, _, _⟩ _; try dsimp only)
    | with_reducible exact bf_e_Ways_takeDoors (by assumption)
    | (with_reducible refine po_call (bf_e_Ways_takeDoors (by assumption)) ?_; rintro ⟨_, _, _, _, _⟩ _; try dsimp only)
    | with_reducible exact bf_e_Ways_joinWays (by assumption)
    | (with_reducible refine po_call (bf_e_Ways_joinWays (by assumption)) ?_; rintro ⟨_, _, _, _, _⟩ _; try dsimp only)
    | with_reducible refine po_cond (fun _ => ?_) (fun _ => ?_)
    | with_reducible refine po_bind_cond (fun _ => ?_) (fun _ => ?_)
    | with_reducible refine po_bl (fun _ _ => ?_))
end H9fq
