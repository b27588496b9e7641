/-! what the class's ways and the reference's beginnings leave as it was (printed by wip/frames.py) -/
section H9ez4a
variable {P0 : Nat → Nat → Nat} {F0 : Nat → Nat → Int32} {A0 : Nat → Nat → Nat → Int32} {Ar : Nat → Nat → Int32}
def WFx (P0 : Nat → Nat → Nat) (F0 : Nat → Nat → Int32) (A0 : Nat → Nat → Nat → Int32) (P : Nat → Nat → Nat) (F : Nat → Nat → Int32) (A : Nat → Nat → Nat → Int32) : Prop := P = P0 ∧ F = F0 ∧ ∀ r o, ¬ (r = 36 ∧ o = 2) → A r o = A0 r o
theorem WFx.rfl' {P : Nat → Nat → Nat} {F : Nat → Nat → Int32} {A : Nat → Nat → Nat → Int32} : WFx P F A P F A := ⟨rfl, rfl, fun _ _ _ => rfl⟩
theorem wf_st {γ : Type} {n : Nat} {i x : Int32} {P : Nat → Nat → Nat} {F : Nat → Nat → Int32} {A : Nat → Nat → Nat → Int32} {g : (Nat → Nat → Nat → Int32) → Option γ} {Q : γ → Prop} (h : WFx P0 F0 A0 P F A) (kk : ∀ A', WFx P0 F0 A0 P F A' → po (g A') Q) : po ((c_st A 36 2 n i x).bind g) Q :=
  po_bl (fun A' e => kk A' ⟨h.1, h.2.1, fun r o he => ((gg_cst e).2.2.2.2 r o he).trans (h.2.2 r o he)⟩)
theorem wf_fi {γ : Type} {n : Nat} {x : Int32} {P : Nat → Nat → Nat} {F : Nat → Nat → Int32} {A : Nat → Nat → Nat → Int32} {g : (Nat → Nat → Nat → Int32) → Option γ} {Q : γ → Prop} (h : WFx P0 F0 A0 P F A) (kk : ∀ A', WFx P0 F0 A0 P F A' → po (g A') Q) : po ((c_fi A 36 2 n x).bind g) Q :=
  po_bl (fun A' e => kk A' ⟨h.1, h.2.1, fun r o he => (gg_cfi e r o he).trans (h.2.2 r o he)⟩)
def RNx (Ar A : Nat → Nat → Int32) : Prop := A 55 = Ar 55
theorem rn_st {γ : Type} {j n : Nat} {i x : Int32} {A : Nat → Nat → Int32} {g : (Nat → Nat → Int32) → Option γ} {Q : γ → Prop} (h : RNx Ar A) (hj : j ≠ 55) (kk : ∀ A', RNx Ar A' → po (g A') Q) : po ((m_st A j n i x).bind g) Q :=
  po_bl (fun A' e => kk A' (((gg_st e).2.2.1 55 (fun e => hj e.symm)).trans h))
theorem wf_e_Ways_takeDoors_127 {K39 : (Nat → Nat → Nat) → (Nat → Nat → Int32) → (Nat → Nat → Nat → Int32) → (Nat → Nat → Nat → Int64) → Nat → Int32 → Int32 → Option (Unit × (Nat → Nat → Nat) × (Nat → Nat → Int32) × (Nat → Nat → Nat → Int32) × (Nat → Nat → Nat → Int64))} {n : Nat} {P : Nat → Nat → Nat} {F : Nat → Nat → Int32} {A : Nat → Nat → Nat → Int32} {J : Nat → Nat → Nat → Int64} {r1 : Nat} {x2 : Int32} {x3 : Int32} (hK39 : ∀ (a0 : Nat → Nat → Nat) (a1 : Nat → Nat → Int32) (a2 : Nat → Nat → Nat → Int32) (a3 : Nat → Nat → Nat → Int64) (a4 : Nat) (a5 : Int32) (a6 : Int32), WFx P0 F0 A0 a0 a1 a2 → po (K39 a0 a1 a2 a3 a4 a5 a6) (fun r => WFx P0 F0 A0 r.2.1 r.2.2.1 r.2.2.2.1)) (h : WFx P0 F0 A0 P F A) : po (e_Ways_takeDoors_127 K39 n P F A J r1 x2 x3) (fun r => WFx P0 F0 A0 r.2.1 r.2.2.1 r.2.2.2.1) := by
  unfold e_Ways_takeDoors_127
  repeat' (first
    | with_reducible exact po_some (by assumption)
    | (with_reducible refine wf_st (by assumption) ?_; intro _ _)
    | (with_reducible refine wf_fi (by assumption) ?_; intro _ _)
    | with_reducible exact hK39 _ _ _ _ _ _ _ (by assumption)
    | (intros; with_reducible exact hK39 _ _ _ _ _ _ _ (by assumption))
    | with_reducible refine po_cond (fun _ => ?_) (fun _ => ?_)
    | with_reducible refine po_bind_cond (fun _ => ?_) (fun _ => ?_)
    | with_reducible refine po_bl (fun _ _ => ?_))
theorem wf_e_Ways_takeDoors_39   : ∀ {n : Nat} {P : Nat → Nat → Nat} {F : Nat → Nat → Int32} {A : Nat → Nat → Nat → Int32} {J : Nat → Nat → Nat → Int64} {r1 : Nat} {x2 : Int32} {x3 : Int32}, WFx P0 F0 A0 P F A → po (e_Ways_takeDoors_39  n P F A J r1 x2 x3) (fun r => WFx P0 F0 A0 r.2.1 r.2.2.1 r.2.2.2.1) := by
  intro n
  induction n with
  | zero => intro P F A J r1 x2 x3 _ r hr; cases hr
  | succ n ih =>
    intro P F A J r1 x2 x3 h
    unfold e_Ways_takeDoors_39
    repeat' (first
      | with_reducible exact po_some (by assumption)
      | (with_reducible refine wf_st (by assumption) ?_; intro _ _)
      | (with_reducible refine wf_fi (by assumption) ?_; intro _ _)
      | with_reducible refine wf_e_Ways_takeDoors_127 ?_ (by assumption)
      | (with_reducible refine po_call (wf_e_Ways_takeDoors_127 ?_ (by assumption)) ?_)
      | with_reducible exact ih (by assumption)
      | (with_reducible refine po_call (ih (by assumption)) ?_; rintro ⟨_, _, _, _, _⟩ _; try dsimp only)
      | (intros; with_reducible exact ih (by assumption))
      | with_reducible refine po_cond (fun _ => ?_) (fun _ => ?_)
      | with_reducible refine po_bind_cond (fun _ => ?_) (fun _ => ?_)
      | with_reducible refine po_bl (fun _ _ => ?_))
theorem wf_e_Ways_takeDoors_11   : ∀ {n : Nat} {P : Nat → Nat → Nat} {F : Nat → Nat → Int32} {A : Nat → Nat → Nat → Int32} {J : Nat → Nat → Nat → Int64} {r1 : Nat} {x2 : Int32} {x3 : Int32}, WFx P0 F0 A0 P F A → po (e_Ways_takeDoors_11  n P F A J r1 x2 x3) (fun r => WFx P0 F0 A0 r.2.1 r.2.2.1 r.2.2.2.1) := by
  intro n
  induction n with
  | zero => intro P F A J r1 x2 x3 _ r hr; cases hr
  | succ n ih =>
    intro P F A J r1 x2 x3 h
    unfold e_Ways_takeDoors_11
    repeat' (first
      | with_reducible exact po_some (by assumption)
      | (with_reducible refine wf_st (by assumption) ?_; intro _ _)
      | (with_reducible refine wf_fi (by assumption) ?_; intro _ _)
      | with_reducible exact wf_e_Ways_takeDoors_39 (by assumption)
      | (with_reducible refine po_call (wf_e_Ways_takeDoors_39 (by assumption)) ?_; rintro ⟨_, _, _, _, _⟩ _; try dsimp only)
      | with_reducible exact ih (by assumption)
      | (with_reducible refine po_call (ih (by assumption)) ?_; rintro ⟨_, _, _, _, _⟩ _; try dsimp only)
      | (intros; with_reducible exact ih (by assumption))
      | with_reducible refine po_cond (fun _ => ?_) (fun _ => ?_)
      | with_reducible refine po_bind_cond (fun _ => ?_) (fun _ => ?_)
      | with_reducible refine po_bl (fun _ _ => ?_))
theorem wf_e_Ways_takeDoors {n : Nat} {P : Nat → Nat → Nat} {F : Nat → Nat → Int32} {A : Nat → Nat → Nat → Int32} {J : Nat → Nat → Nat → Int64} {r1 : Nat} {x2 : Int32}  (h : WFx P0 F0 A0 P F A) : po (e_Ways_takeDoors n P F A J r1 x2) (fun r => WFx P0 F0 A0 r.2.1 r.2.2.1 r.2.2.2.1) := by
  unfold e_Ways_takeDoors
  repeat' (first
    | with_reducible exact po_some (by assumption)
    | (with_reducible refine wf_st (by assumption) ?_; intro _ _)
    | (with_reducible refine wf_fi (by assumption) ?_; intro _ _)
    | with_reducible exact wf_e_Ways_takeDoors_11 (by assumption)
    | (with_reducible refine po_call (wf_e_Ways_takeDoors_11 (by assumption)) ?_; rintro ⟨_, _, _, _, _⟩ _; try dsimp only)
    | with_reducible refine po_cond (fun _ => ?_) (fun _ => ?_)
    | with_reducible refine po_bind_cond (fun _ => ?_) (fun _ => ?_)
    | with_reducible refine po_bl (fun _ _ => ?_))
theorem wf_e_Ways_joinWays_97 {K2 : (Nat → Nat → Nat) → (Nat → Nat → Int32) → (Nat → Nat → Nat → Int32) → (Nat → Nat → Nat → Int64) → Int32 → Int32 → Option (Unit × (Nat → Nat → Nat) × (Nat → Nat → Int32) × (Nat → Nat → Nat → Int32) × (Nat → Nat → Nat → Int64))} {K9 : (Nat → Nat → Nat) → (Nat → Nat → Int32) → (Nat → Nat → Nat → Int32) → (Nat → Nat → Nat → Int64) → Int32 → Int32 → Int32 → Option (Unit × (Nat → Nat → Nat) × (Nat → Nat → Int32) × (Nat → Nat → Nat → Int32) × (Nat → Nat → Nat → Int64))} {n : Nat} {P : Nat → Nat → Nat} {F : Nat → Nat → Int32} {A : Nat → Nat → Nat → Int32} {J : Nat → Nat → Nat → Int64} {x1 : Int32} {x2 : Int32} {x3 : Int32} (hK2 : ∀ (a0 : Nat → Nat → Nat) (a1 : Nat → Nat → Int32) (a2 : Nat → Nat → Nat → Int32) (a3 : Nat → Nat → Nat → Int64) (a4 : Int32) (a5 : Int32), WFx P0 F0 A0 a0 a1 a2 → po (K2 a0 a1 a2 a3 a4 a5) (fun r => WFx P0 F0 A0 r.2.1 r.2.2.1 r.2.2.2.1)) (hK9 : ∀ (a0 : Nat → Nat → Nat) (a1 : Nat → Nat → Int32) (a2 : Nat → Nat → Nat → Int32) (a3 : Nat → Nat → Nat → Int64) (a4 : Int32) (a5 : Int32) (a6 : Int32), WFx P0 F0 A0 a0 a1 a2 → po (K9 a0 a1 a2 a3 a4 a5 a6) (fun r => WFx P0 F0 A0 r.2.1 r.2.2.1 r.2.2.2.1)) (h : WFx P0 F0 A0 P F A) : po (e_Ways_joinWays_97 K2 K9 n P F A J x1 x2 x3) (fun r => WFx P0 F0 A0 r.2.1 r.2.2.1 r.2.2.2.1) := by
  unfold e_Ways_joinWays_97
  repeat' (first
    | with_reducible exact po_some (by assumption)
    | (with_reducible refine wf_st (by assumption) ?_; intro _ _)
    | (with_reducible refine wf_fi (by assumption) ?_; intro _ _)
    | with_reducible exact hK2 _ _ _ _ _ _ (by assumption)
    | (intros; with_reducible exact hK2 _ _ _ _ _ _ (by assumption))
    | with_reducible exact hK9 _ _ _ _ _ _ _ (by assumption)
    | (intros; with_reducible exact hK9 _ _ _ _ _ _ _ (by assumption))
    | with_reducible refine po_cond (fun _ => ?_) (fun _ => ?_)
    | with_reducible refine po_bind_cond (fun _ => ?_) (fun _ => ?_)
    | with_reducible refine po_bl (fun _ _ => ?_))
theorem wf_e_Ways_joinWays_91 {K2 : (Nat → Nat → Nat) → (Nat → Nat → Int32) → (Nat → Nat → Nat → Int32) → (Nat → Nat → Nat → Int64) → Int32 → Int32 → Option (Unit × (Nat → Nat → Nat) × (Nat → Nat → Int32) × (Nat → Nat → Nat → Int32) × (Nat → Nat → Nat → Int64))} {K9 : (Nat → Nat → Nat) → (Nat → Nat → Int32) → (Nat → Nat → Nat → Int32) → (Nat → Nat → Nat → Int64) → Int32 → Int32 → Int32 → Option (Unit × (Nat → Nat → Nat) × (Nat → Nat → Int32) × (Nat → Nat → Nat → Int32) × (Nat → Nat → Nat → Int64))} {K30 : (Nat → Nat → Nat) → (Nat → Nat → Int32) → (Nat → Nat → Nat → Int32) → (Nat → Nat → Nat → Int64) → Int32 → Int32 → Int32 → Int32 → Int32 → Option (Unit × (Nat → Nat → Nat) × (Nat → Nat → Int32) × (Nat → Nat → Nat → Int32) × (Nat → Nat → Nat → Int64))} {n : Nat} {P : Nat → Nat → Nat} {F : Nat → Nat → Int32} {A : Nat → Nat → Nat → Int32} {J : Nat → Nat → Nat → Int64} {x1 : Int32} {x2 : Int32} {x3 : Int32} {x4 : Int32} {x5 : Int32} (hK2 : ∀ (a0 : Nat → Nat → Nat) (a1 : Nat → Nat → Int32) (a2 : Nat → Nat → Nat → Int32) (a3 : Nat → Nat → Nat → Int64) (a4 : Int32) (a5 : Int32), WFx P0 F0 A0 a0 a1 a2 → po (K2 a0 a1 a2 a3 a4 a5) (fun r => WFx P0 F0 A0 r.2.1 r.2.2.1 r.2.2.2.1)) (hK9 : ∀ (a0 : Nat → Nat → Nat) (a1 : Nat → Nat → Int32) (a2 : Nat → Nat → Nat → Int32) (a3 : Nat → Nat → Nat → Int64) (a4 : Int32) (a5 : Int32) (a6 : Int32), WFx P0 F0 A0 a0 a1 a2 → po (K9 a0 a1 a2 a3 a4 a5 a6) (fun r => WFx P0 F0 A0 r.2.1 r.2.2.1 r.2.2.2.1)) (hK30 : ∀ (a0 : Nat → Nat → Nat) (a1 : Nat → Nat → Int32) (a2 : Nat → Nat → Nat → Int32) (a3 : Nat → Nat → Nat → Int64) (a4 : Int32) (a5 : Int32) (a6 : Int32) (a7 : Int32) (a8 : Int32), WFx P0 F0 A0 a0 a1 a2 → po (K30 a0 a1 a2 a3 a4 a5 a6 a7 a8) (fun r => WFx P0 F0 A0 r.2.1 r.2.2.1 r.2.2.2.1)) (h : WFx P0 F0 A0 P F A) : po (e_Ways_joinWays_91 K2 K9 K30 n P F A J x1 x2 x3 x4 x5) (fun r => WFx P0 F0 A0 r.2.1 r.2.2.1 r.2.2.2.1) := by
  unfold e_Ways_joinWays_91
  repeat' (first
    | with_reducible exact po_some (by assumption)
    | (with_reducible refine wf_st (by assumption) ?_; intro _ _)
    | (with_reducible refine wf_fi (by assumption) ?_; intro _ _)
    | with_reducible exact hK2 _ _ _ _ _ _ (by assumption)
    | (intros; with_reducible exact hK2 _ _ _ _ _ _ (by assumption))
    | with_reducible exact hK9 _ _ _ _ _ _ _ (by assumption)
    | (intros; with_reducible exact hK9 _ _ _ _ _ _ _ (by assumption))
    | with_reducible exact hK30 _ _ _ _ _ _ _ _ _ (by assumption)
    | (intros; with_reducible exact hK30 _ _ _ _ _ _ _ _ _ (by assumption))
    | with_reducible refine po_cond (fun _ => ?_) (fun _ => ?_)
    | with_reducible refine po_bind_cond (fun _ => ?_) (fun _ => ?_)
    | with_reducible refine po_bl (fun _ _ => ?_))
theorem wf_e_Ways_joinWays_30 {K2 : (Nat → Nat → Nat) → (Nat → Nat → Int32) → (Nat → Nat → Nat → Int32) → (Nat → Nat → Nat → Int64) → Int32 → Int32 → Option (Unit × (Nat → Nat → Nat) × (Nat → Nat → Int32) × (Nat → Nat → Nat → Int32) × (Nat → Nat → Nat → Int64))} {K9 : (Nat → Nat → Nat) → (Nat → Nat → Int32) → (Nat → Nat → Nat → Int32) → (Nat → Nat → Nat → Int64) → Int32 → Int32 → Int32 → Option (Unit × (Nat → Nat → Nat) × (Nat → Nat → Int32) × (Nat → Nat → Nat → Int32) × (Nat → Nat → Nat → Int64))} (hK2 : ∀ (a0 : Nat → Nat → Nat) (a1 : Nat → Nat → Int32) (a2 : Nat → Nat → Nat → Int32) (a3 : Nat → Nat → Nat → Int64) (a4 : Int32) (a5 : Int32), WFx P0 F0 A0 a0 a1 a2 → po (K2 a0 a1 a2 a3 a4 a5) (fun r => WFx P0 F0 A0 r.2.1 r.2.2.1 r.2.2.2.1)) (hK9 : ∀ (a0 : Nat → Nat → Nat) (a1 : Nat → Nat → Int32) (a2 : Nat → Nat → Nat → Int32) (a3 : Nat → Nat → Nat → Int64) (a4 : Int32) (a5 : Int32) (a6 : Int32), WFx P0 F0 A0 a0 a1 a2 → po (K9 a0 a1 a2 a3 a4 a5 a6) (fun r => WFx P0 F0 A0 r.2.1 r.2.2.1 r.2.2.2.1)) : ∀ {n : Nat} {P : Nat → Nat → Nat} {F : Nat → Nat → Int32} {A : Nat → Nat → Nat → Int32} {J : Nat → Nat → Nat → Int64} {x1 : Int32} {x2 : Int32} {x3 : Int32} {x4 : Int32} {x5 : Int32}, WFx P0 F0 A0 P F A → po (e_Ways_joinWays_30 K2 K9 n P F A J x1 x2 x3 x4 x5) (fun r => WFx P0 F0 A0 r.2.1 r.2.2.1 r.2.2.2.1) := by
  intro n
  induction n with
  | zero => intro P F A J x1 x2 x3 x4 x5 _ r hr; cases hr
  | succ n ih =>
    intro P F A J x1 x2 x3 x4 x5 h
    unfold e_Ways_joinWays_30
    repeat' (first
      | with_reducible exact po_some (by assumption)
      | (with_reducible refine wf_st (by assumption) ?_; intro _ _)
      | (with_reducible refine wf_fi (by assumption) ?_; intro _ _)
      | with_reducible refine wf_e_Ways_joinWays_97 ?_ ?_ (by assumption)
      | (with_reducible refine po_call (wf_e_Ways_joinWays_97 ?_ ?_ (by assumption)) ?_)
      | with_reducible refine wf_e_Ways_joinWays_91 ?_ ?_ ?_ (by assumption)
      | (with_reducible refine po_call (wf_e_Ways_joinWays_91 ?_ ?_ ?_ (by assumption)) ?_)
      | with_reducible exact hK2 _ _ _ _ _ _ (by assumption)
      | (intros; with_reducible exact hK2 _ _ _ _ _ _ (by assumption))
      | with_reducible exact hK9 _ _ _ _ _ _ _ (by assumption)
      | (intros; with_reducible exact hK9 _ _ _ _ _ _ _ (by assumption))
      | with_reducible exact ih (by assumption)
      | (with_reducible refine po_call (ih (by assumption)) ?_; rintro ⟨_, _, _, _, _⟩ _; try dsimp only)
      | (intros; with_reducible exact ih (by assumption))
      | with_reducible refine po_cond (fun _ => ?_) (fun _ => ?_)
      | with_reducible refine po_bind_cond (fun _ => ?_) (fun _ => ?_)
      | with_reducible refine po_bl (fun _ _ => ?_))
theorem wf_e_Ways_joinWays_9 {K2 : (Nat → Nat → Nat) → (Nat → Nat → Int32) → (Nat → Nat → Nat → Int32) → (Nat → Nat → Nat → Int64) → Int32 → Int32 → Option (Unit × (Nat → Nat → Nat) × (Nat → Nat → Int32) × (Nat → Nat → Nat → Int32) × (Nat → Nat → Nat → Int64))} (hK2 : ∀ (a0 : Nat → Nat → Nat) (a1 : Nat → Nat → Int32) (a2 : Nat → Nat → Nat → Int32) (a3 : Nat → Nat → Nat → Int64) (a4 : Int32) (a5 : Int32), WFx P0 F0 A0 a0 a1 a2 → po (K2 a0 a1 a2 a3 a4 a5) (fun r => WFx P0 F0 A0 r.2.1 r.2.2.1 r.2.2.2.1)) : ∀ {n : Nat} {P : Nat → Nat → Nat} {F : Nat → Nat → Int32} {A : Nat → Nat → Nat → Int32} {J : Nat → Nat → Nat → Int64} {x1 : Int32} {x2 : Int32} {x3 : Int32}, WFx P0 F0 A0 P F A → po (e_Ways_joinWays_9 K2 n P F A J x1 x2 x3) (fun r => WFx P0 F0 A0 r.2.1 r.2.2.1 r.2.2.2.1) := by
  intro n
  induction n with
  | zero => intro P F A J x1 x2 x3 _ r hr; cases hr
  | succ n ih =>
    intro P F A J x1 x2 x3 h
    unfold e_Ways_joinWays_9
    repeat' (first
      | with_reducible exact po_some (by assumption)
      | (with_reducible refine wf_st (by assumption) ?_; intro _ _)
      | (with_reducible refine wf_fi (by assumption) ?_; intro _ _)
      | with_reducible refine wf_e_Ways_joinWays_30 ?_ ?_ (by assumption)
      | (with_reducible refine po_call (wf_e_Ways_joinWays_30 ?_ ?_ (by assumption)) ?_)
      | with_reducible exact hK2 _ _ _ _ _ _ (by assumption)
      | (intros; with_reducible exact hK2 _ _ _ _ _ _ (by assumption))
      | with_reducible exact ih (by assumption)
      | (with_reducible refine po_call (ih (by assumption)) ?_; rintro ⟨_, _, _, _, _⟩ _; try dsimp only)
      | (intros; with_reducible exact ih (by assumption))
      | with_reducible refine po_cond (fun _ => ?_) (fun _ => ?_)
      | with_reducible refine po_bind_cond (fun _ => ?_) (fun _ => ?_)
      | with_reducible refine po_bl (fun _ _ => ?_))
theorem wf_e_Ways_joinWays_2   : ∀ {n : Nat} {P : Nat → Nat → Nat} {F : Nat → Nat → Int32} {A : Nat → Nat → Nat → Int32} {J : Nat → Nat → Nat → Int64} {x1 : Int32} {x2 : Int32}, WFx P0 F0 A0 P F A → po (e_Ways_joinWays_2  n P F A J x1 x2) (fun r => WFx P0 F0 A0 r.2.1 r.2.2.1 r.2.2.2.1) := by
  intro n
  induction n with
  | zero => intro P F A J x1 x2 _ r hr; cases hr
  | succ n ih =>
    intro P F A J x1 x2 h
    unfold e_Ways_joinWays_2
    repeat' (first
      | with_reducible exact po_some (by assumption)
      | (with_reducible refine wf_st (by assumption) ?_; intro _ _)
      | (with_reducible refine wf_fi (by assumption) ?_; intro _ _)
      | with_reducible refine wf_e_Ways_joinWays_9 ?_ (by assumption)
      | (with_reducible refine po_call (wf_e_Ways_joinWays_9 ?_ (by assumption)) ?_)
      | with_reducible exact ih (by assumption)
      | (with_reducible refine po_call (ih (by assumption)) ?_; rintro ⟨_, _, _, _, _⟩ _; try dsimp only)
      | (intros; with_reducible exact ih (by assumption))
      | with_reducible refine po_cond (fun _ => ?_) (fun _ => ?_)
      | with_reducible refine po_bind_cond (fun _ => ?_) (fun _ => ?_)
      | with_reducible refine po_bl (fun _ _ => ?_))
theorem wf_e_Ways_joinWays {n : Nat} {P : Nat → Nat → Nat} {F : Nat → Nat → Int32} {A : Nat → Nat → Nat → Int32} {J : Nat → Nat → Nat → Int64} {x1 : Int32}  (h : WFx P0 F0 A0 P F A) : po (e_Ways_joinWays n P F A J x1) (fun r => WFx P0 F0 A0 r.2.1 r.2.2.1 r.2.2.2.1) := by
  unfold e_Ways_joinWays
  repeat' (first
    | with_reducible exact po_some (by assumption)
    | (with_reducible refine wf_st (by assumption) ?_; intro _ _)
    | (with_reducible refine wf_fi (by assumption) ?_; intro _ _)
    | with_reducible exact wf_e_Ways_joinWays_2 (by assumption)
    | (with_reducible refine po_call (wf_e_Ways_joinWays_2 (by assumption)) ?_; rintro ⟨_, _, _, _, _⟩ _; try dsimp only)
    | with_reducible refine po_cond (fun _ => ?_) (fun _ => ?_)
    | with_reducible refine po_bind_cond (fun _ => ?_) (fun _ => ?_)
    | with_reducible refine po_bl (fun _ _ => ?_))
theorem rn_d_termOf_158 {K5 : (Nat → Int32) → (Nat → Nat → Int32) → (Nat → Nat → Int64) → Int32 → Int32 → Int32 → Option (Int32 × (Nat → Int32) × (Nat → Nat → Int32) × (Nat → Nat → Int64))} {n : Nat} {F : Nat → Int32} {A : Nat → Nat → Int32} {J : Nat → Nat → Int64} {x2 : Int32} {x3 : Int32} {x4 : Int32} {s1 : Int32} {s2 : Int32} (hK5 : ∀ (a0 : Nat → Int32) (a1 : Nat → Nat → Int32) (a2 : Nat → Nat → Int64) (a3 : Int32) (a4 : Int32) (a5 : Int32), RNx Ar a1 → po (K5 a0 a1 a2 a3 a4 a5) (fun r => RNx Ar r.2.2.1)) (h : RNx Ar A) : po (d_termOf_158 K5 n F A J x2 x3 x4 s1 s2) (fun r => RNx Ar r.2.2.1) := by
  unfold d_termOf_158
  repeat' (first
    | with_reducible exact po_some (by assumption)
    | (with_reducible refine rn_st (by assumption) (by decide) ?_; intro _ _)
    | with_reducible exact hK5 _ _ _ _ _ _ (by assumption)
    | (intros; with_reducible exact hK5 _ _ _ _ _ _ (by assumption))
    | with_reducible refine po_cond (fun _ => ?_) (fun _ => ?_)
    | with_reducible refine po_bind_cond (fun _ => ?_) (fun _ => ?_)
    | with_reducible refine po_bl (fun _ _ => ?_))
theorem rn_d_termOf_104 {K5 : (Nat → Int32) → (Nat → Nat → Int32) → (Nat → Nat → Int64) → Int32 → Int32 → Int32 → Option (Int32 × (Nat → Int32) × (Nat → Nat → Int32) × (Nat → Nat → Int64))} {n : Nat} {F : Nat → Int32} {A : Nat → Nat → Int32} {J : Nat → Nat → Int64} {x2 : Int32} {x3 : Int32} {x4 : Int32} {x5 : Int32} {x6 : Int32} {x7 : Int32} (hK5 : ∀ (a0 : Nat → Int32) (a1 : Nat → Nat → Int32) (a2 : Nat → Nat → Int64) (a3 : Int32) (a4 : Int32) (a5 : Int32), RNx Ar a1 → po (K5 a0 a1 a2 a3 a4 a5) (fun r => RNx Ar r.2.2.1)) (h : RNx Ar A) : po (d_termOf_104 K5 n F A J x2 x3 x4 x5 x6 x7) (fun r => RNx Ar r.2.2.1) := by
  unfold d_termOf_104
  repeat' (first
    | with_reducible exact po_some (by assumption)
    | (with_reducible refine rn_st (by assumption) (by decide) ?_; intro _ _)
    | with_reducible refine rn_d_termOf_158 ?_ (by assumption)
    | (with_reducible refine po_call (rn_d_termOf_158 ?_ (by assumption)) ?_)
    | with_reducible exact hK5 _ _ _ _ _ _ (by assumption)
    | (intros; with_reducible exact hK5 _ _ _ _ _ _ (by assumption))
    | with_reducible refine po_cond (fun _ => ?_) (fun _ => ?_)
    | with_reducible refine po_bind_cond (fun _ => ?_) (fun _ => ?_)
    | with_reducible refine po_bl (fun _ _ => ?_))
theorem rn_d_termOf_159 {K5 : (Nat → Int32) → (Nat → Nat → Int32) → (Nat → Nat → Int64) → Int32 → Int32 → Int32 → Option (Int32 × (Nat → Int32) × (Nat → Nat → Int32) × (Nat → Nat → Int64))} {n : Nat} {F : Nat → Int32} {A : Nat → Nat → Int32} {J : Nat → Nat → Int64} {x2 : Int32} {x3 : Int32} {x4 : Int32} (hK5 : ∀ (a0 : Nat → Int32) (a1 : Nat → Nat → Int32) (a2 : Nat → Nat → Int64) (a3 : Int32) (a4 : Int32) (a5 : Int32), RNx Ar a1 → po (K5 a0 a1 a2 a3 a4 a5) (fun r => RNx Ar r.2.2.1)) (h : RNx Ar A) : po (d_termOf_159 K5 n F A J x2 x3 x4) (fun r => RNx Ar r.2.2.1) := by
  unfold d_termOf_159
  repeat' (first
    | with_reducible exact po_some (by assumption)
    | (with_reducible refine rn_st (by assumption) (by decide) ?_; intro _ _)
    | with_reducible exact hK5 _ _ _ _ _ _ (by assumption)
    | (intros; with_reducible exact hK5 _ _ _ _ _ _ (by assumption))
    | with_reducible refine po_cond (fun _ => ?_) (fun _ => ?_)
    | with_reducible refine po_bind_cond (fun _ => ?_) (fun _ => ?_)
    | with_reducible refine po_bl (fun _ _ => ?_))
theorem rn_d_termOf_58 {K5 : (Nat → Int32) → (Nat → Nat → Int32) → (Nat → Nat → Int64) → Int32 → Int32 → Int32 → Option (Int32 × (Nat → Int32) × (Nat → Nat → Int32) × (Nat → Nat → Int64))} {n : Nat} {F : Nat → Int32} {A : Nat → Nat → Int32} {J : Nat → Nat → Int64} {x2 : Int32} {x3 : Int32} {x4 : Int32} {s1 : Int32} {s2 : Int32} (hK5 : ∀ (a0 : Nat → Int32) (a1 : Nat → Nat → Int32) (a2 : Nat → Nat → Int64) (a3 : Int32) (a4 : Int32) (a5 : Int32), RNx Ar a1 → po (K5 a0 a1 a2 a3 a4 a5) (fun r => RNx Ar r.2.2.1)) (h : RNx Ar A) : po (d_termOf_58 K5 n F A J x2 x3 x4 s1 s2) (fun r => RNx Ar r.2.2.1) := by
  unfold d_termOf_58
  repeat' (first
    | with_reducible exact po_some (by assumption)
    | (with_reducible refine rn_st (by assumption) (by decide) ?_; intro _ _)
    | with_reducible refine rn_d_termOf_159 ?_ (by assumption)
    | (with_reducible refine po_call (rn_d_termOf_159 ?_ (by assumption)) ?_)
    | with_reducible exact hK5 _ _ _ _ _ _ (by assumption)
    | (intros; with_reducible exact hK5 _ _ _ _ _ _ (by assumption))
    | with_reducible refine po_cond (fun _ => ?_) (fun _ => ?_)
    | with_reducible refine po_bind_cond (fun _ => ?_) (fun _ => ?_)
    | with_reducible refine po_bl (fun _ _ => ?_))
theorem rn_d_termOf_5   : ∀ {n : Nat} {F : Nat → Int32} {A : Nat → Nat → Int32} {J : Nat → Nat → Int64} {x2 : Int32} {x3 : Int32} {x4 : Int32}, RNx Ar A → po (d_termOf_5  n F A J x2 x3 x4) (fun r => RNx Ar r.2.2.1) := by
  intro n
  induction n with
  | zero => intro F A J x2 x3 x4 _ r hr; cases hr
  | succ n ih =>
    intro F A J x2 x3 x4 h
    unfold d_termOf_5
    repeat' (first
      | with_reducible exact po_some (by assumption)
      | (with_reducible refine rn_st (by assumption) (by decide) ?_; intro _ _)
      | with_reducible refine rn_d_termOf_104 ?_ (by assumption)
      | (with_reducible refine po_call (rn_d_termOf_104 ?_ (by assumption)) ?_)
      | with_reducible refine rn_d_termOf_159 ?_ (by assumption)
      | (with_reducible refine po_call (rn_d_termOf_159 ?_ (by assumption)) ?_)
      | with_reducible refine rn_d_termOf_58 ?_ (by assumption)
      | (with_reducible refine po_call (rn_d_termOf_58 ?_ (by assumption)) ?_)
      | with_reducible exact ih (by assumption)
      | (with_reducible refine po_call (ih (by assumption)) ?_; rintro ⟨_, _, _, _⟩ _; try dsimp only)
      | (intros; with_reducible exact ih (by assumption))
      | with_reducible refine po_cond (fun _ => ?_) (fun _ => ?_)
      | with_reducible refine po_bind_cond (fun _ => ?_) (fun _ => ?_)
      | with_reducible refine po_bl (fun _ _ => ?_))
theorem rn_d_termOf {n : Nat} {F : Nat → Int32} {A : Nat → Nat → Int32} {J : Nat → Nat → Int64} {x1 : Int32} {x2 : Int32}  (h : RNx Ar A) : po (d_termOf n F A J x1 x2) (fun r => RNx Ar r.2.2.1) := by
  unfold d_termOf
  repeat' (first
    | with_reducible exact po_some (by assumption)
    | (with_reducible refine rn_st (by assumption) (by decide) ?_; intro _ _)
    | with_reducible exact rn_d_termOf_5 (by assumption)
    | (with_reducible refine po_call (rn_d_termOf_5 (by assumption)) ?_; rintro ⟨_, _, _, _⟩ _; try dsimp only)
    | with_reducible refine po_cond (fun _ => ?_) (fun _ => ?_)
    | with_reducible refine po_bind_cond (fun _ => ?_) (fun _ => ?_)
    | with_reducible refine po_bl (fun _ _ => ?_))
theorem rn_d_tells_211 {n : Nat} {F : Nat → Int32} {A : Nat → Nat → Int32} {J : Nat → Nat → Int64} {x1 : Int32} {x3 : Int32} {x6 : Int32}  (h : RNx Ar A) : po (d_tells_211 n F A J x1 x3 x6) (fun r => RNx Ar r.2.2.1) := by
  unfold d_tells_211
  repeat' (first
    | with_reducible exact po_some (by assumption)
    | (with_reducible refine rn_st (by assumption) (by decide) ?_; intro _ _)
    | with_reducible exact rn_d_termOf (by assumption)
    | (with_reducible refine po_call (rn_d_termOf (by assumption)) ?_; rintro ⟨_, _, _, _⟩ _; try dsimp only)
    | with_reducible refine po_cond (fun _ => ?_) (fun _ => ?_)
    | with_reducible refine po_bind_cond (fun _ => ?_) (fun _ => ?_)
    | with_reducible refine po_bl (fun _ _ => ?_))
theorem rn_d_tells_130   : ∀ {n : Nat} {F : Nat → Int32} {A : Nat → Nat → Int32} {J : Nat → Nat → Int64} {x1 : Int32} {x3 : Int32} {x5 : Int32} {x6 : Int32}, RNx Ar A → po (d_tells_130  n F A J x1 x3 x5 x6) (fun r => RNx Ar r.2.2.1) := by
  intro n
  induction n with
  | zero => intro F A J x1 x3 x5 x6 _ r hr; cases hr
  | succ n ih =>
    intro F A J x1 x3 x5 x6 h
    unfold d_tells_130
    repeat' (first
      | with_reducible exact po_some (by assumption)
      | (with_reducible refine rn_st (by assumption) (by decide) ?_; intro _ _)
      | with_reducible exact rn_d_tells_211 (by assumption)
      | (with_reducible refine po_call (rn_d_tells_211 (by assumption)) ?_; rintro ⟨_, _, _, _⟩ _; try dsimp only)
      | with_reducible exact rn_d_termOf (by assumption)
      | (with_reducible refine po_call (rn_d_termOf (by assumption)) ?_; rintro ⟨_, _, _, _⟩ _; try dsimp only)
      | with_reducible exact ih (by assumption)
      | (with_reducible refine po_call (ih (by assumption)) ?_; rintro ⟨_, _, _, _⟩ _; try dsimp only)
      | (intros; with_reducible exact ih (by assumption))
      | with_reducible refine po_cond (fun _ => ?_) (fun _ => ?_)
      | with_reducible refine po_bind_cond (fun _ => ?_) (fun _ => ?_)
      | with_reducible refine po_bl (fun _ _ => ?_))
theorem rn_d_tells {n : Nat} {F : Nat → Int32} {A : Nat → Nat → Int32} {J : Nat → Nat → Int64} {x1 : Int32} {x2 : Int32}  (h : RNx Ar A) : po (d_tells n F A J x1 x2) (fun r => RNx Ar r.2.2.1) := by
  unfold d_tells
  repeat' (first
    | with_reducible exact po_some (by assumption)
    | (with_reducible refine rn_st (by assumption) (by decide) ?_; intro _ _)
    | with_reducible exact rn_d_tells_130 (by assumption)
    | (with_reducible refine po_call (rn_d_tells_130 (by assumption)) ?_; rintro ⟨_, _, _, _⟩ _; try dsimp only)
    | with_reducible refine po_cond (fun _ => ?_) (fun _ => ?_)
    | with_reducible refine po_bind_cond (fun _ => ?_) (fun _ => ?_)
    | with_reducible refine po_bl (fun _ _ => ?_))
theorem rn_d_lies {F : Nat → Int32} {A : Nat → Nat → Int32} {J : Nat → Nat → Int64} {x1 : Int32} {x2 : Int32}  (h : RNx Ar A) : po (d_lies F A J x1 x2) (fun r => RNx Ar r.2.2.1) := by
  unfold d_lies
  repeat' (first
    | with_reducible exact po_some (by assumption)
    | (with_reducible refine rn_st (by assumption) (by decide) ?_; intro _ _)
    | with_reducible refine po_cond (fun _ => ?_) (fun _ => ?_)
    | with_reducible refine po_bind_cond (fun _ => ?_) (fun _ => ?_)
    | with_reducible refine po_bl (fun _ _ => ?_))
theorem rn_d_begins1_124 {n : Nat} {F : Nat → Int32} {A : Nat → Nat → Int32} {J : Nat → Nat → Int64} {x1 : Int32} {x2 : Int32}  (h : RNx Ar A) : po (d_begins1_124 n F A J x1 x2) (fun r => RNx Ar r.2.2.1) := by
  unfold d_begins1_124
  repeat' (first
    | with_reducible exact po_some (by assumption)
    | (with_reducible refine rn_st (by assumption) (by decide) ?_; intro _ _)
    | with_reducible exact rn_d_lies (by assumption)
    | (with_reducible refine po_call (rn_d_lies (by assumption)) ?_; rintro ⟨_, _, _, _⟩ _; try dsimp only)
    | with_reducible refine po_cond (fun _ => ?_) (fun _ => ?_)
    | with_reducible refine po_bind_cond (fun _ => ?_) (fun _ => ?_)
    | with_reducible refine po_bl (fun _ _ => ?_))
theorem rn_d_begins1_147 {n : Nat} {F : Nat → Int32} {A : Nat → Nat → Int32} {J : Nat → Nat → Int64} {x1 : Int32} {x2 : Int32} {x3 : Int32} {x4 : Int32}  (h : RNx Ar A) : po (d_begins1_147 n F A J x1 x2 x3 x4) (fun r => RNx Ar r.2.2.1) := by
  unfold d_begins1_147
  repeat' (first
    | with_reducible exact po_some (by assumption)
    | (with_reducible refine rn_st (by assumption) (by decide) ?_; intro _ _)
    | with_reducible refine po_cond (fun _ => ?_) (fun _ => ?_)
    | with_reducible refine po_bind_cond (fun _ => ?_) (fun _ => ?_)
    | with_reducible refine po_bl (fun _ _ => ?_))
theorem rn_d_begins1_131 {n : Nat} {F : Nat → Int32} {A : Nat → Nat → Int32} {J : Nat → Nat → Int64} {x1 : Int32} {x2 : Int32} {x3 : Int32} {x4 : Int32} {x5 : Int32} {x6 : Int32}  (h : RNx Ar A) : po (d_begins1_131 n F A J x1 x2 x3 x4 x5 x6) (fun r => RNx Ar r.2.2.1) := by
  unfold d_begins1_131
  repeat' (first
    | with_reducible exact po_some (by assumption)
    | (with_reducible refine rn_st (by assumption) (by decide) ?_; intro _ _)
    | with_reducible exact rn_d_begins1_147 (by assumption)
    | (with_reducible refine po_call (rn_d_begins1_147 (by assumption)) ?_; rintro ⟨_, _, _, _⟩ _; try dsimp only)
    | with_reducible refine po_cond (fun _ => ?_) (fun _ => ?_)
    | with_reducible refine po_bind_cond (fun _ => ?_) (fun _ => ?_)
    | with_reducible refine po_bl (fun _ _ => ?_))
theorem rn_d_begins1_81 {n : Nat} {F : Nat → Int32} {A : Nat → Nat → Int32} {J : Nat → Nat → Int64} {x1 : Int32} {x2 : Int32} {x3 : Int32} {x4 : Int32} {x5 : Int32} {s0 : Int32}  (h : RNx Ar A) : po (d_begins1_81 n F A J x1 x2 x3 x4 x5 s0) (fun r => RNx Ar r.2.2.1) := by
  unfold d_begins1_81
  repeat' (first
    | with_reducible exact po_some (by assumption)
    | (with_reducible refine rn_st (by assumption) (by decide) ?_; intro _ _)
    | with_reducible exact rn_d_begins1_124 (by assumption)
    | (with_reducible refine po_call (rn_d_begins1_124 (by assumption)) ?_; rintro ⟨_, _, _, _⟩ _; try dsimp only)
    | with_reducible exact rn_d_begins1_131 (by assumption)
    | (with_reducible refine po_call (rn_d_begins1_131 (by assumption)) ?_; rintro ⟨_, _, _, _⟩ _; try dsimp only)
    | with_reducible refine po_cond (fun _ => ?_) (fun _ => ?_)
    | with_reducible refine po_bind_cond (fun _ => ?_) (fun _ => ?_)
    | with_reducible refine po_bl (fun _ _ => ?_))
theorem rn_d_begins1_76 {n : Nat} {F : Nat → Int32} {A : Nat → Nat → Int32} {J : Nat → Nat → Int64} {x1 : Int32} {x2 : Int32} {x3 : Int32} {x4 : Int32} {x5 : Int32}  (h : RNx Ar A) : po (d_begins1_76 n F A J x1 x2 x3 x4 x5) (fun r => RNx Ar r.2.2.1) := by
  unfold d_begins1_76
  repeat' (first
    | with_reducible exact po_some (by assumption)
    | (with_reducible refine rn_st (by assumption) (by decide) ?_; intro _ _)
    | with_reducible exact rn_d_begins1_81 (by assumption)
    | (with_reducible refine po_call (rn_d_begins1_81 (by assumption)) ?_; rintro ⟨_, _, _, _⟩ _; try dsimp only)
    | with_reducible refine po_cond (fun _ => ?_) (fun _ => ?_)
    | with_reducible refine po_bind_cond (fun _ => ?_) (fun _ => ?_)
    | with_reducible refine po_bl (fun _ _ => ?_))
theorem rn_d_begins1 {n : Nat} {F : Nat → Int32} {A : Nat → Nat → Int32} {J : Nat → Nat → Int64} {x1 : Int32} {x2 : Int32}  (h : RNx Ar A) : po (d_begins1 n F A J x1 x2) (fun r => RNx Ar r.2.2.1) := by
  unfold d_begins1
  repeat' (first
    | with_reducible exact po_some (by assumption)
    | (with_reducible refine rn_st (by assumption) (by decide) ?_; intro _ _)
    | with_reducible exact rn_d_tells (by assumption)
    | (with_reducible refine po_call (rn_d_tells (by assumption)) ?_; rintro ⟨_, _, _, _⟩ _; try dsimp only)
    | with_reducible exact rn_d_begins1_76 (by assumption)
    | (with_reducible refine po_call (rn_d_begins1_76 (by assumption)) ?_; rintro ⟨_, _, _, _⟩ _; try dsimp only)
    | with_reducible exact rn_d_begins1_81 (by assumption)
    | (with_reducible refine po_call (rn_d_begins1_81 (by assumption)) ?_; rintro ⟨_, _, _, _⟩ _; try dsimp only)
    | with_reducible exact rn_d_lies (by assumption)
    | (with_reducible refine po_call (rn_d_lies (by assumption)) ?_; rintro ⟨_, _, _, _⟩ _; try dsimp only)
    | with_reducible refine po_cond (fun _ => ?_) (fun _ => ?_)
    | with_reducible refine po_bind_cond (fun _ => ?_) (fun _ => ?_)
    | with_reducible refine po_bl (fun _ _ => ?_))
end H9ez4a
