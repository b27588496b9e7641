/-! what the reference's laws leave as it was (printed by wip/frames.py) -/
section H9ez3a
variable {Fr : Nat → Int32} {Ar : Nat → Nat → Int32}
def TNx (Fr : Nat → Int32) (Ar : Nat → Nat → Int32) (F : Nat → Int32) (A : Nat → Nat → Int32) : Prop := (∀ k, k ≠ 63 → F k = Fr k) ∧ ∀ j, j ≠ 45 → j ≠ 46 → A j = Ar j
theorem TNx.rfl' {F : Nat → Int32} {A : Nat → Nat → Int32} : TNx F A F A := ⟨fun _ _ => rfl, fun _ _ _ => rfl⟩
theorem tn_pz {γ : Type} {x : Int32} {F : Nat → Int32} {A : Nat → Nat → Int32} {g : (Nat → Int32) → Option γ} {Q : γ → Prop} (h : TNx Fr Ar F A) (kk : ∀ F', TNx Fr Ar F' A → po (g F') Q) : po ((m_pfz F 63 x).bind g) Q :=
  po_bl (fun F' e => kk F' ⟨fun k hk => ((gg_pfz e).2 k hk).trans (h.1 k hk), h.2⟩)
theorem tn_st {γ : Type} {j n : Nat} {i x : Int32} {F : Nat → Int32} {A : Nat → Nat → Int32} {g : (Nat → Nat → Int32) → Option γ} {Q : γ → Prop} (h : TNx Fr Ar F A) (hj : j = 45 ∨ j = 46) (kk : ∀ A', TNx Fr Ar F A' → po (g A') Q) : po ((m_st A j n i x).bind g) Q :=
  po_bl (fun A' e => kk A' ⟨h.1, fun q h1 h2 => ((gg_st e).2.2.1 q (by omega)).trans (h.2 q h1 h2)⟩)
theorem tn_d_termOf_158 {K5 : (Nat → Int32) → (Nat → Nat → Int32) → (Nat → Nat → Int64) → Int32 → Int32 → Int32 → Option (Int32 × (Nat → Int32) × (Nat → Nat → Int32) × (Nat → Nat → Int64))} {n : Nat} {F : Nat → Int32} {A : Nat → Nat → Int32} {J : Nat → Nat → Int64} {x2 : Int32} {x3 : Int32} {x4 : Int32} {s1 : Int32} {s2 : Int32} (hK5 : ∀ (a0 : Nat → Int32) (a1 : Nat → Nat → Int32) (a2 : Nat → Nat → Int64) (a3 : Int32) (a4 : Int32) (a5 : Int32), TNx Fr Ar a0 a1 → po (K5 a0 a1 a2 a3 a4 a5) (fun r => TNx Fr Ar r.2.1 r.2.2.1)) (h : TNx Fr Ar F A) : po (d_termOf_158 K5 n F A J x2 x3 x4 s1 s2) (fun r => TNx Fr Ar r.2.1 r.2.2.1) := by
  unfold d_termOf_158
  repeat' (first
    | with_reducible exact po_some (by assumption)
    | (with_reducible refine tn_pz (by assumption) ?_; intro _ _)
    | (with_reducible refine tn_st (by assumption) (by decide) ?_; intro _ _)
    | with_reducible exact hK5 _ _ _ _ _ _ (by assumption)
    | (intros; with_reducible exact hK5 _ _ _ _ _ _ (by assumption))
    | with_reducible refine po_cond (fun _ => ?_) (fun _ => ?_)
    | with_reducible refine po_bind_cond (fun _ => ?_) (fun _ => ?_)
    | with_reducible refine po_bl (fun _ _ => ?_))
theorem tn_d_termOf_104 {K5 : (Nat → Int32) → (Nat → Nat → Int32) → (Nat → Nat → Int64) → Int32 → Int32 → Int32 → Option (Int32 × (Nat → Int32) × (Nat → Nat → Int32) × (Nat → Nat → Int64))} {n : Nat} {F : Nat → Int32} {A : Nat → Nat → Int32} {J : Nat → Nat → Int64} {x2 : Int32} {x3 : Int32} {x4 : Int32} {x5 : Int32} {x6 : Int32} {x7 : Int32} (hK5 : ∀ (a0 : Nat → Int32) (a1 : Nat → Nat → Int32) (a2 : Nat → Nat → Int64) (a3 : Int32) (a4 : Int32) (a5 : Int32), TNx Fr Ar a0 a1 → po (K5 a0 a1 a2 a3 a4 a5) (fun r => TNx Fr Ar r.2.1 r.2.2.1)) (h : TNx Fr Ar F A) : po (d_termOf_104 K5 n F A J x2 x3 x4 x5 x6 x7) (fun r => TNx Fr Ar r.2.1 r.2.2.1) := by
  unfold d_termOf_104
  repeat' (first
    | with_reducible exact po_some (by assumption)
    | (with_reducible refine tn_pz (by assumption) ?_; intro _ _)
    | (with_reducible refine tn_st (by assumption) (by decide) ?_; intro _ _)
    | with_reducible refine tn_d_termOf_158 ?_ (by assumption)
    | (with_reducible refine po_call (tn_d_termOf_158 ?_ (by assumption)) ?_)
    | with_reducible exact hK5 _ _ _ _ _ _ (by assumption)
    | (intros; with_reducible exact hK5 _ _ _ _ _ _ (by assumption))
    | with_reducible refine po_cond (fun _ => ?_) (fun _ => ?_)
    | with_reducible refine po_bind_cond (fun _ => ?_) (fun _ => ?_)
    | with_reducible refine po_bl (fun _ _ => ?_))
theorem tn_d_termOf_159 {K5 : (Nat → Int32) → (Nat → Nat → Int32) → (Nat → Nat → Int64) → Int32 → Int32 → Int32 → Option (Int32 × (Nat → Int32) × (Nat → Nat → Int32) × (Nat → Nat → Int64))} {n : Nat} {F : Nat → Int32} {A : Nat → Nat → Int32} {J : Nat → Nat → Int64} {x2 : Int32} {x3 : Int32} {x4 : Int32} (hK5 : ∀ (a0 : Nat → Int32) (a1 : Nat → Nat → Int32) (a2 : Nat → Nat → Int64) (a3 : Int32) (a4 : Int32) (a5 : Int32), TNx Fr Ar a0 a1 → po (K5 a0 a1 a2 a3 a4 a5) (fun r => TNx Fr Ar r.2.1 r.2.2.1)) (h : TNx Fr Ar F A) : po (d_termOf_159 K5 n F A J x2 x3 x4) (fun r => TNx Fr Ar r.2.1 r.2.2.1) := by
  unfold d_termOf_159
  repeat' (first
    | with_reducible exact po_some (by assumption)
    | (with_reducible refine tn_pz (by assumption) ?_; intro _ _)
    | (with_reducible refine tn_st (by assumption) (by decide) ?_; intro _ _)
    | with_reducible exact hK5 _ _ _ _ _ _ (by assumption)
    | (intros; with_reducible exact hK5 _ _ _ _ _ _ (by assumption))
    | with_reducible refine po_cond (fun _ => ?_) (fun _ => ?_)
    | with_reducible refine po_bind_cond (fun _ => ?_) (fun _ => ?_)
    | with_reducible refine po_bl (fun _ _ => ?_))
theorem tn_d_termOf_58 {K5 : (Nat → Int32) → (Nat → Nat → Int32) → (Nat → Nat → Int64) → Int32 → Int32 → Int32 → Option (Int32 × (Nat → Int32) × (Nat → Nat → Int32) × (Nat → Nat → Int64))} {n : Nat} {F : Nat → Int32} {A : Nat → Nat → Int32} {J : Nat → Nat → Int64} {x2 : Int32} {x3 : Int32} {x4 : Int32} {s1 : Int32} {s2 : Int32} (hK5 : ∀ (a0 : Nat → Int32) (a1 : Nat → Nat → Int32) (a2 : Nat → Nat → Int64) (a3 : Int32) (a4 : Int32) (a5 : Int32), TNx Fr Ar a0 a1 → po (K5 a0 a1 a2 a3 a4 a5) (fun r => TNx Fr Ar r.2.1 r.2.2.1)) (h : TNx Fr Ar F A) : po (d_termOf_58 K5 n F A J x2 x3 x4 s1 s2) (fun r => TNx Fr Ar r.2.1 r.2.2.1) := by
  unfold d_termOf_58
  repeat' (first
    | with_reducible exact po_some (by assumption)
    | (with_reducible refine tn_pz (by assumption) ?_; intro _ _)
    | (with_reducible refine tn_st (by assumption) (by decide) ?_; intro _ _)
    | with_reducible refine tn_d_termOf_159 ?_ (by assumption)
    | (with_reducible refine po_call (tn_d_termOf_159 ?_ (by assumption)) ?_)
    | with_reducible exact hK5 _ _ _ _ _ _ (by assumption)
    | (intros; with_reducible exact hK5 _ _ _ _ _ _ (by assumption))
    | with_reducible refine po_cond (fun _ => ?_) (fun _ => ?_)
    | with_reducible refine po_bind_cond (fun _ => ?_) (fun _ => ?_)
    | with_reducible refine po_bl (fun _ _ => ?_))
theorem tn_d_termOf_5   : ∀ {n : Nat} {F : Nat → Int32} {A : Nat → Nat → Int32} {J : Nat → Nat → Int64} {x2 : Int32} {x3 : Int32} {x4 : Int32}, TNx Fr Ar F A → po (d_termOf_5  n F A J x2 x3 x4) (fun r => TNx Fr Ar r.2.1 r.2.2.1) := by
  intro n
  induction n with
  | zero => intro F A J x2 x3 x4 _ r hr; cases hr
  | succ n ih =>
    intro F A J x2 x3 x4 h
    unfold d_termOf_5
    repeat' (first
      | with_reducible exact po_some (by assumption)
      | (with_reducible refine tn_pz (by assumption) ?_; intro _ _)
      | (with_reducible refine tn_st (by assumption) (by decide) ?_; intro _ _)
      | with_reducible refine tn_d_termOf_104 ?_ (by assumption)
      | (with_reducible refine po_call (tn_d_termOf_104 ?_ (by assumption)) ?_)
      | with_reducible refine tn_d_termOf_159 ?_ (by assumption)
      | (with_reducible refine po_call (tn_d_termOf_159 ?_ (by assumption)) ?_)
      | with_reducible refine tn_d_termOf_58 ?_ (by assumption)
      | (with_reducible refine po_call (tn_d_termOf_58 ?_ (by assumption)) ?_)
      | with_reducible exact ih (by assumption)
      | (with_reducible refine po_call (ih (by assumption)) ?_; rintro ⟨_, _, _, _⟩ _; try dsimp only)
      | (intros; with_reducible exact ih (by assumption))
      | with_reducible refine po_cond (fun _ => ?_) (fun _ => ?_)
      | with_reducible refine po_bind_cond (fun _ => ?_) (fun _ => ?_)
      | with_reducible refine po_bl (fun _ _ => ?_))
theorem tn_d_termOf {n : Nat} {F : Nat → Int32} {A : Nat → Nat → Int32} {J : Nat → Nat → Int64} {x1 : Int32} {x2 : Int32}  (h : TNx Fr Ar F A) : po (d_termOf n F A J x1 x2) (fun r => TNx Fr Ar r.2.1 r.2.2.1) := by
  unfold d_termOf
  repeat' (first
    | with_reducible exact po_some (by assumption)
    | (with_reducible refine tn_pz (by assumption) ?_; intro _ _)
    | (with_reducible refine tn_st (by assumption) (by decide) ?_; intro _ _)
    | with_reducible exact tn_d_termOf_5 (by assumption)
    | (with_reducible refine po_call (tn_d_termOf_5 (by assumption)) ?_; rintro ⟨_, _, _, _⟩ _; try dsimp only)
    | with_reducible refine po_cond (fun _ => ?_) (fun _ => ?_)
    | with_reducible refine po_bind_cond (fun _ => ?_) (fun _ => ?_)
    | with_reducible refine po_bl (fun _ _ => ?_))
theorem tn_d_tells_211 {n : Nat} {F : Nat → Int32} {A : Nat → Nat → Int32} {J : Nat → Nat → Int64} {x1 : Int32} {x3 : Int32} {x6 : Int32}  (h : TNx Fr Ar F A) : po (d_tells_211 n F A J x1 x3 x6) (fun r => TNx Fr Ar r.2.1 r.2.2.1) := by
  unfold d_tells_211
  repeat' (first
    | with_reducible exact po_some (by assumption)
    | (with_reducible refine tn_pz (by assumption) ?_; intro _ _)
    | (with_reducible refine tn_st (by assumption) (by decide) ?_; intro _ _)
    | with_reducible exact tn_d_termOf (by assumption)
    | (with_reducible refine po_call (tn_d_termOf (by assumption)) ?_; rintro ⟨_, _, _, _⟩ _; try dsimp only)
    | with_reducible refine po_cond (fun _ => ?_) (fun _ => ?_)
    | with_reducible refine po_bind_cond (fun _ => ?_) (fun _ => ?_)
    | with_reducible refine po_bl (fun _ _ => ?_))
theorem tn_d_tells_130   : ∀ {n : Nat} {F : Nat → Int32} {A : Nat → Nat → Int32} {J : Nat → Nat → Int64} {x1 : Int32} {x3 : Int32} {x5 : Int32} {x6 : Int32}, TNx Fr Ar F A → po (d_tells_130  n F A J x1 x3 x5 x6) (fun r => TNx Fr Ar r.2.1 r.2.2.1) := by
  intro n
  induction n with
  | zero => intro F A J x1 x3 x5 x6 _ r hr; cases hr
  | succ n ih =>
    intro F A J x1 x3 x5 x6 h
    unfold d_tells_130
    repeat' (first
      | with_reducible exact po_some (by assumption)
      | (with_reducible refine tn_pz (by assumption) ?_; intro _ _)
      | (with_reducible refine tn_st (by assumption) (by decide) ?_; intro _ _)
      | with_reducible exact tn_d_tells_211 (by assumption)
      | (with_reducible refine po_call (tn_d_tells_211 (by assumption)) ?_; rintro ⟨_, _, _, _⟩ _; try dsimp only)
      | with_reducible exact tn_d_termOf (by assumption)
      | (with_reducible refine po_call (tn_d_termOf (by assumption)) ?_; rintro ⟨_, _, _, _⟩ _; try dsimp only)
      | with_reducible exact ih (by assumption)
      | (with_reducible refine po_call (ih (by assumption)) ?_; rintro ⟨_, _, _, _⟩ _; try dsimp only)
      | (intros; with_reducible exact ih (by assumption))
      | with_reducible refine po_cond (fun _ => ?_) (fun _ => ?_)
      | with_reducible refine po_bind_cond (fun _ => ?_) (fun _ => ?_)
      | with_reducible refine po_bl (fun _ _ => ?_))
theorem tn_d_tells {n : Nat} {F : Nat → Int32} {A : Nat → Nat → Int32} {J : Nat → Nat → Int64} {x1 : Int32} {x2 : Int32}  (h : TNx Fr Ar F A) : po (d_tells n F A J x1 x2) (fun r => TNx Fr Ar r.2.1 r.2.2.1) := by
  unfold d_tells
  repeat' (first
    | with_reducible exact po_some (by assumption)
    | (with_reducible refine tn_pz (by assumption) ?_; intro _ _)
    | (with_reducible refine tn_st (by assumption) (by decide) ?_; intro _ _)
    | with_reducible exact tn_d_tells_130 (by assumption)
    | (with_reducible refine po_call (tn_d_tells_130 (by assumption)) ?_; rintro ⟨_, _, _, _⟩ _; try dsimp only)
    | with_reducible refine po_cond (fun _ => ?_) (fun _ => ?_)
    | with_reducible refine po_bind_cond (fun _ => ?_) (fun _ => ?_)
    | with_reducible refine po_bl (fun _ _ => ?_))
end H9ez3a
