/-! the reference's ways: what they leave as it was (printed by wip/frames.py with wip/nt/rules.f) -/
section H9fg
variable {Fr : Nat → Int32} {Ar : Nat → Nat → Int32}
def FW (Fr : Nat → Int32) (Ar : Nat → Nat → Int32) (F : Nat → Int32) (A : Nat → Nat → Int32) : Prop := F = Fr ∧ ∀ q, q ≠ 49 → A q = Ar q
theorem FW.rfl' {F : Nat → Int32} {A : Nat → Nat → Int32} : FW F A F A := ⟨rfl, fun _ _ => rfl⟩
theorem fw_st {γ : Type} {j n : Nat} {i x : Int32} {F : Nat → Int32} {A : Nat → Nat → Int32} {g : (Nat → Nat → Int32) → Option γ} {Q : γ → Prop} (h : FW Fr Ar F A) (hj : j = 49) (kk : ∀ A', FW Fr Ar F A' → po (g A') Q) : po ((m_st A j n i x).bind g) Q :=
  po_bl (fun A' e => kk A' ⟨h.1, fun q hq => ((gg_st e).2.2.1 q (by omega)).trans (h.2 q hq)⟩)
theorem fw_d_fillsWays_263 {K170 : (Nat → Int32) → (Nat → Nat → Int32) → (Nat → Nat → Int64) → Int32 → Option (Unit × (Nat → Int32) × (Nat → Nat → Int32) × (Nat → Nat → Int64))} {K178 : (Nat → Int32) → (Nat → Nat → Int32) → (Nat → Nat → Int64) → Int32 → Int32 → Option (Unit × (Nat → Int32) × (Nat → Nat → Int32) × (Nat → Nat → Int64))} {K186 : (Nat → Int32) → (Nat → Nat → Int32) → (Nat → Nat → Int64) → Int32 → Int32 → Int32 → Option (Unit × (Nat → Int32) × (Nat → Nat → Int32) × (Nat → Nat → Int64))} {n : Nat} {F : Nat → Int32} {A : Nat → Nat → Int32} {J : Nat → Nat → Int64} {x1 : Int32} {x2 : Int32} {x3 : Int32} (hK170 : ∀ (a0 : Nat → Int32) (a1 : Nat → Nat → Int32) (a2 : Nat → Nat → Int64) (a3 : Int32), FW Fr Ar a0 a1 → po (K170 a0 a1 a2 a3) (fun r => FW Fr Ar r.2.1 r.2.2.1)) (hK178 : ∀ (a0 : Nat → Int32) (a1 : Nat → Nat → Int32) (a2 : Nat → Nat → Int64) (a3 : Int32) (a4 : Int32), FW Fr Ar a0 a1 → po (K178 a0 a1 a2 a3 a4) (fun r => FW Fr Ar r.2.1 r.2.2.1)) (hK186 : ∀ (a0 : Nat → Int32) (a1 : Nat → Nat → Int32) (a2 : Nat → Nat → Int64) (a3 : Int32) (a4 : Int32) (a5 : Int32), FW Fr Ar a0 a1 → po (K186 a0 a1 a2 a3 a4 a5) (fun r => FW Fr Ar r.2.1 r.2.2.1)) (h : FW Fr Ar F A) : po (d_fillsWays_263 K170 K178 K186 n F A J x1 x2 x3) (fun r => FW Fr Ar r.2.1 r.2.2.1) := by
  unfold d_fillsWays_263
  repeat' (first
    | with_reducible exact po_some (by assumption)
    | (with_reducible refine fw_st (by assumption) (by decide) ?_; intro _ _)
    | with_reducible exact hK170 _ _ _ _ (by assumption)
    | (intros; with_reducible exact hK170 _ _ _ _ (by assumption))
    | with_reducible exact hK178 _ _ _ _ _ (by assumption)
    | (intros; with_reducible exact hK178 _ _ _ _ _ (by assumption))
    | with_reducible exact hK186 _ _ _ _ _ _ (by assumption)
    | (intros; with_reducible exact hK186 _ _ _ _ _ _ (by assumption))
    | with_reducible refine po_cond (fun _ => ?_) (fun _ => ?_)
    | with_reducible refine po_bind_cond (fun _ => ?_) (fun _ => ?_)
    | with_reducible refine po_bl (fun _ _ => ?_))
theorem fw_d_fillsWays_186 {K170 : (Nat → Int32) → (Nat → Nat → Int32) → (Nat → Nat → Int64) → Int32 → Option (Unit × (Nat → Int32) × (Nat → Nat → Int32) × (Nat → Nat → Int64))} {K178 : (Nat → Int32) → (Nat → Nat → Int32) → (Nat → Nat → Int64) → Int32 → Int32 → Option (Unit × (Nat → Int32) × (Nat → Nat → Int32) × (Nat → Nat → Int64))} (hK170 : ∀ (a0 : Nat → Int32) (a1 : Nat → Nat → Int32) (a2 : Nat → Nat → Int64) (a3 : Int32), FW Fr Ar a0 a1 → po (K170 a0 a1 a2 a3) (fun r => FW Fr Ar r.2.1 r.2.2.1)) (hK178 : ∀ (a0 : Nat → Int32) (a1 : Nat → Nat → Int32) (a2 : Nat → Nat → Int64) (a3 : Int32) (a4 : Int32), FW Fr Ar a0 a1 → po (K178 a0 a1 a2 a3 a4) (fun r => FW Fr Ar r.2.1 r.2.2.1)) : ∀ {n : Nat} {F : Nat → Int32} {A : Nat → Nat → Int32} {J : Nat → Nat → Int64} {x1 : Int32} {x2 : Int32} {x3 : Int32}, FW Fr Ar F A → po (d_fillsWays_186 K170 K178 n F A J x1 x2 x3) (fun r => FW Fr Ar r.2.1 r.2.2.1) := by
  intro n
  induction n with
  | zero => intro F A J x1 x2 x3 _ r hr; cases hr
  | succ n ih =>
    intro F A J x1 x2 x3 h
    unfold d_fillsWays_186
    repeat' (first
      | with_reducible exact po_some (by assumption)
      | (with_reducible refine fw_st (by assumption) (by decide) ?_; intro _ _)
      | with_reducible refine fw_d_fillsWays_263 ?_ ?_ ?_ (by assumption)
      | (with_reducible refine po_call (fw_d_fillsWays_263 ?_ ?_ ?_ (by assumption)) ?_)
      | with_reducible exact hK170 _ _ _ _ (by assumption)
      | (intros; with_reducible exact hK170 _ _ _ _ (by assumption))
      | with_reducible exact hK178 _ _ _ _ _ (by assumption)
      | (intros; with_reducible exact hK178 _ _ _ _ _ (by assumption))
      | with_reducible exact ih (by assumption)
      | (with_reducible refine po_call (ih (by assumption)) ?_; rintro ⟨_, _, _, _⟩ _; try dsimp only)
      | (intros; with_reducible exact ih (by assumption))
      | with_reducible refine po_cond (fun _ => ?_) (fun _ => ?_)
      | with_reducible refine po_bind_cond (fun _ => ?_) (fun _ => ?_)
      | with_reducible refine po_bl (fun _ _ => ?_))
theorem fw_d_fillsWays_178 {K170 : (Nat → Int32) → (Nat → Nat → Int32) → (Nat → Nat → Int64) → Int32 → Option (Unit × (Nat → Int32) × (Nat → Nat → Int32) × (Nat → Nat → Int64))} (hK170 : ∀ (a0 : Nat → Int32) (a1 : Nat → Nat → Int32) (a2 : Nat → Nat → Int64) (a3 : Int32), FW Fr Ar a0 a1 → po (K170 a0 a1 a2 a3) (fun r => FW Fr Ar r.2.1 r.2.2.1)) : ∀ {n : Nat} {F : Nat → Int32} {A : Nat → Nat → Int32} {J : Nat → Nat → Int64} {x1 : Int32} {x2 : Int32}, FW Fr Ar F A → po (d_fillsWays_178 K170 n F A J x1 x2) (fun r => FW Fr Ar r.2.1 r.2.2.1) := by
  intro n
  induction n with
  | zero => intro F A J x1 x2 _ r hr; cases hr
  | succ n ih =>
    intro F A J x1 x2 h
    unfold d_fillsWays_178
    repeat' (first
      | with_reducible exact po_some (by assumption)
      | (with_reducible refine fw_st (by assumption) (by decide) ?_; intro _ _)
      | with_reducible refine fw_d_fillsWays_186 ?_ ?_ (by assumption)
      | (with_reducible refine po_call (fw_d_fillsWays_186 ?_ ?_ (by assumption)) ?_)
      | with_reducible exact hK170 _ _ _ _ (by assumption)
      | (intros; with_reducible exact hK170 _ _ _ _ (by assumption))
      | with_reducible exact ih (by assumption)
      | (with_reducible refine po_call (ih (by assumption)) ?_; rintro ⟨_, _, _, _⟩ _; try dsimp only)
      | (intros; with_reducible exact ih (by assumption))
      | with_reducible refine po_cond (fun _ => ?_) (fun _ => ?_)
      | with_reducible refine po_bind_cond (fun _ => ?_) (fun _ => ?_)
      | with_reducible refine po_bl (fun _ _ => ?_))
theorem fw_d_fillsWays_170   : ∀ {n : Nat} {F : Nat → Int32} {A : Nat → Nat → Int32} {J : Nat → Nat → Int64} {x1 : Int32}, FW Fr Ar F A → po (d_fillsWays_170  n F A J x1) (fun r => FW Fr Ar r.2.1 r.2.2.1) := by
  intro n
  induction n with
  | zero => intro F A J x1 _ r hr; cases hr
  | succ n ih =>
    intro F A J x1 h
    unfold d_fillsWays_170
    repeat' (first
      | with_reducible exact po_some (by assumption)
      | (with_reducible refine fw_st (by assumption) (by decide) ?_; intro _ _)
      | with_reducible refine fw_d_fillsWays_178 ?_ (by assumption)
      | (with_reducible refine po_call (fw_d_fillsWays_178 ?_ (by assumption)) ?_)
      | with_reducible exact ih (by assumption)
      | (with_reducible refine po_call (ih (by assumption)) ?_; rintro ⟨_, _, _, _⟩ _; try dsimp only)
      | (intros; with_reducible exact ih (by assumption))
      | with_reducible refine po_cond (fun _ => ?_) (fun _ => ?_)
      | with_reducible refine po_bind_cond (fun _ => ?_) (fun _ => ?_)
      | with_reducible refine po_bl (fun _ _ => ?_))
theorem fw_d_fillsWays_162 {K40 : (Nat → Int32) → (Nat → Nat → Int32) → (Nat → Nat → Int64) → Int32 → Option (Unit × (Nat → Int32) × (Nat → Nat → Int32) × (Nat → Nat → Int64))} {n : Nat} {F : Nat → Int32} {A : Nat → Nat → Int32} {J : Nat → Nat → Int64} {x1 : Int32} (hK40 : ∀ (a0 : Nat → Int32) (a1 : Nat → Nat → Int32) (a2 : Nat → Nat → Int64) (a3 : Int32), FW Fr Ar a0 a1 → po (K40 a0 a1 a2 a3) (fun r => FW Fr Ar r.2.1 r.2.2.1)) (h : FW Fr Ar F A) : po (d_fillsWays_162 K40 n F A J x1) (fun r => FW Fr Ar r.2.1 r.2.2.1) := by
  unfold d_fillsWays_162
  repeat' (first
    | with_reducible exact po_some (by assumption)
    | (with_reducible refine fw_st (by assumption) (by decide) ?_; intro _ _)
    | with_reducible exact hK40 _ _ _ _ (by assumption)
    | (intros; with_reducible exact hK40 _ _ _ _ (by assumption))
    | with_reducible refine po_cond (fun _ => ?_) (fun _ => ?_)
    | with_reducible refine po_bind_cond (fun _ => ?_) (fun _ => ?_)
    | with_reducible refine po_bl (fun _ _ => ?_))
theorem fw_d_fillsWays_40   : ∀ {n : Nat} {F : Nat → Int32} {A : Nat → Nat → Int32} {J : Nat → Nat → Int64} {x1 : Int32}, FW Fr Ar F A → po (d_fillsWays_40  n F A J x1) (fun r => FW Fr Ar r.2.1 r.2.2.1) := by
  intro n
  induction n with
  | zero => intro F A J x1 _ r hr; cases hr
  | succ n ih =>
    intro F A J x1 h
    unfold d_fillsWays_40
    repeat' (first
      | with_reducible exact po_some (by assumption)
      | (with_reducible refine fw_st (by assumption) (by decide) ?_; intro _ _)
      | with_reducible exact fw_d_fillsWays_170 (by assumption)
      | (with_reducible refine po_call (fw_d_fillsWays_170 (by assumption)) ?_; rintro ⟨_, _, _, _⟩ _; try dsimp only)
      | with_reducible refine fw_d_fillsWays_162 ?_ (by assumption)
      | (with_reducible refine po_call (fw_d_fillsWays_162 ?_ (by assumption)) ?_)
      | with_reducible exact ih (by assumption)
      | (with_reducible refine po_call (ih (by assumption)) ?_; rintro ⟨_, _, _, _⟩ _; try dsimp only)
      | (intros; with_reducible exact ih (by assumption))
      | with_reducible refine po_cond (fun _ => ?_) (fun _ => ?_)
      | with_reducible refine po_bind_cond (fun _ => ?_) (fun _ => ?_)
      | with_reducible refine po_bl (fun _ _ => ?_))
theorem fw_d_fillsWays_31 {K2 : (Nat → Int32) → (Nat → Nat → Int32) → (Nat → Nat → Int64) → Int32 → Option (Unit × (Nat → Int32) × (Nat → Nat → Int32) × (Nat → Nat → Int64))} {n : Nat} {F : Nat → Int32} {A : Nat → Nat → Int32} {J : Nat → Nat → Int64} {x1 : Int32} {s1 : Int32} {s2 : Int32} (hK2 : ∀ (a0 : Nat → Int32) (a1 : Nat → Nat → Int32) (a2 : Nat → Nat → Int64) (a3 : Int32), FW Fr Ar a0 a1 → po (K2 a0 a1 a2 a3) (fun r => FW Fr Ar r.2.1 r.2.2.1)) (h : FW Fr Ar F A) : po (d_fillsWays_31 K2 n F A J x1 s1 s2) (fun r => FW Fr Ar r.2.1 r.2.2.1) := by
  unfold d_fillsWays_31
  repeat' (first
    | with_reducible exact po_some (by assumption)
    | (with_reducible refine fw_st (by assumption) (by decide) ?_; intro _ _)
    | with_reducible exact hK2 _ _ _ _ (by assumption)
    | (intros; with_reducible exact hK2 _ _ _ _ (by assumption))
    | with_reducible refine po_cond (fun _ => ?_) (fun _ => ?_)
    | with_reducible refine po_bind_cond (fun _ => ?_) (fun _ => ?_)
    | with_reducible refine po_bl (fun _ _ => ?_))
theorem fw_d_fillsWays_2   : ∀ {n : Nat} {F : Nat → Int32} {A : Nat → Nat → Int32} {J : Nat → Nat → Int64} {x1 : Int32}, FW Fr Ar F A → po (d_fillsWays_2  n F A J x1) (fun r => FW Fr Ar r.2.1 r.2.2.1) := by
  intro n
  induction n with
  | zero => intro F A J x1 _ r hr; cases hr
  | succ n ih =>
    intro F A J x1 h
    unfold d_fillsWays_2
    repeat' (first
      | with_reducible exact po_some (by assumption)
      | (with_reducible refine fw_st (by assumption) (by decide) ?_; intro _ _)
      | with_reducible exact fw_d_fillsWays_40 (by assumption)
      | (with_reducible refine po_call (fw_d_fillsWays_40 (by assumption)) ?_; rintro ⟨_, _, _, _⟩ _; try dsimp only)
      | with_reducible refine fw_d_fillsWays_31 ?_ (by assumption)
      | (with_reducible refine po_call (fw_d_fillsWays_31 ?_ (by assumption)) ?_)
      | with_reducible exact ih (by assumption)
      | (with_reducible refine po_call (ih (by assumption)) ?_; rintro ⟨_, _, _, _⟩ _; try dsimp only)
      | (intros; with_reducible exact ih (by assumption))
      | with_reducible refine po_cond (fun _ => ?_) (fun _ => ?_)
      | with_reducible refine po_bind_cond (fun _ => ?_) (fun _ => ?_)
      | with_reducible refine po_bl (fun _ _ => ?_))
theorem fw_d_fillsWays {n : Nat} {F : Nat → Int32} {A : Nat → Nat → Int32} {J : Nat → Nat → Int64}  (h : FW Fr Ar F A) : po (d_fillsWays n F A J) (fun r => FW Fr Ar r.2.1 r.2.2.1) := by
  unfold d_fillsWays
  repeat' (first
    | with_reducible exact po_some (by assumption)
    | (with_reducible refine fw_st (by assumption) (by decide) ?_; intro _ _)
    | with_reducible exact fw_d_fillsWays_2 (by assumption)
    | (with_reducible refine po_call (fw_d_fillsWays_2 (by assumption)) ?_; rintro ⟨_, _, _, _⟩ _; try dsimp only)
    | with_reducible refine po_cond (fun _ => ?_) (fun _ => ?_)
    | with_reducible refine po_bind_cond (fun _ => ?_) (fun _ => ?_)
    | with_reducible refine po_bl (fun _ _ => ?_))
end H9fg
