/-! what tries of the reference leave (frames printed by wip/frames.py) -/
section H9f6
variable {Fr : Nat → Int32} {Ar : Nat → Nat → Int32}
/-- a try writes into the rows of a night alone -/
def KT (F0 : Nat → Int32) (A0 : Nat → Nat → Int32) (F : Nat → Int32) (A : Nat → Nat → Int32) : Prop := (∀ k, k ≠ 63 → k ≠ 76 → F k = F0 k) ∧ ∀ q, q < 45 ∨ q = 47 ∨ 57 ≤ q → A q = A0 q
theorem KT.rfl' {F : Nat → Int32} {A : Nat → Nat → Int32} : KT F A F A := ⟨fun _ _ _ => rfl, fun _ _ => rfl⟩
theorem KT.tr {F F1 F2 : Nat → Int32} {A A1 A2 : Nat → Nat → Int32} (h : KT F A F1 A1) (k : KT F1 A1 F2 A2) : KT F A F2 A2 := ⟨fun q a b => (k.1 q a b).trans (h.1 q a b), fun q hq => (k.2 q hq).trans (h.2 q hq)⟩
theorem kt_pf {γ : Type} {k : Nat} {x : Int32} {F : Nat → Int32} {A : Nat → Nat → Int32} {g : (Nat → Int32) → Option γ} {Q : γ → Prop} (h : KT Fr Ar F A) (hk : k = 63 ∨ k = 76) (kk : ∀ F', KT Fr Ar F' A → po (g F') Q) : po ((m_pf F k x).bind g) Q :=
  po_bl (fun F' e => kk F' ⟨fun q a b => ((gg_pf e).2 q (by omega)).trans (h.1 q a b), h.2⟩)
theorem kt_pz {γ : Type} {k : Nat} {x : Int32} {F : Nat → Int32} {A : Nat → Nat → Int32} {g : (Nat → Int32) → Option γ} {Q : γ → Prop} (h : KT Fr Ar F A) (hk : k = 63 ∨ k = 76) (kk : ∀ F', KT Fr Ar F' A → po (g F') Q) : po ((m_pfz F k x).bind g) Q :=
  po_bl (fun F' e => kk F' ⟨fun q a b => ((gg_pz e).2 q (by omega)).trans (h.1 q a b), h.2⟩)
theorem kt_st {γ : Type} {j n : Nat} {i x : Int32} {F : Nat → Int32} {A : Nat → Nat → Int32} {g : (Nat → Nat → Int32) → Option γ} {Q : γ → Prop} (h : KT Fr Ar F A) (hj : ¬ (j < 45 ∨ j = 47 ∨ 57 ≤ j)) (kk : ∀ A', KT Fr Ar F A' → po (g A') Q) : po ((m_st A j n i x).bind g) Q :=
  po_bl (fun A' e => kk A' ⟨h.1, fun q hq => ((gg_st e).2.2.1 q (fun e => hj (by rw [← e]; exact hq))).trans (h.2 q hq)⟩)
theorem kt_d_takes_2   : ∀ {n : Nat} {F : Nat → Int32} {A : Nat → Nat → Int32} {J : Nat → Nat → Int64} {x1 : Int32}, KT Fr Ar F A → po (d_takes_2  n F A J x1) (fun r => KT Fr Ar r.2.1 r.2.2.1) := by
  intro n
  induction n with
  | zero => intro F A J x1 _ r hr; cases hr
  | succ n ih =>
    intro F A J x1 h
    unfold d_takes_2
    repeat' (first
      | with_reducible exact po_some (by assumption)
      | (with_reducible refine kt_pf (by assumption) (by decide) ?_; intro _ _)
      | (with_reducible refine kt_st (by assumption) (by decide) ?_; intro _ _)
      | (with_reducible refine kt_pz (by assumption) (by decide) ?_; intro _ _)
      | with_reducible exact ih (by assumption)
      | (with_reducible refine po_call (ih (by assumption)) ?_; rintro ⟨_, _, _, _⟩ _; try dsimp only)
      | (intros; with_reducible exact ih (by assumption))
      | with_reducible refine po_cond (fun _ => ?_) (fun _ => ?_)
      | with_reducible refine po_bind_cond (fun _ => ?_) (fun _ => ?_)
      | with_reducible refine po_bl (fun _ _ => ?_))
theorem kt_d_takes {n : Nat} {F : Nat → Int32} {A : Nat → Nat → Int32} {J : Nat → Nat → Int64}  (h : KT Fr Ar F A) : po (d_takes n F A J) (fun r => KT Fr Ar r.2.1 r.2.2.1) := by
  unfold d_takes
  repeat' (first
    | with_reducible exact po_some (by assumption)
    | (with_reducible refine kt_pf (by assumption) (by decide) ?_; intro _ _)
    | (with_reducible refine kt_st (by assumption) (by decide) ?_; intro _ _)
    | (with_reducible refine kt_pz (by assumption) (by decide) ?_; intro _ _)
    | with_reducible exact kt_d_takes_2 (by assumption)
    | (with_reducible refine po_call (kt_d_takes_2 (by assumption)) ?_; rintro ⟨_, _, _, _⟩ _; try dsimp only)
    | with_reducible refine po_cond (fun _ => ?_) (fun _ => ?_)
    | with_reducible refine po_bind_cond (fun _ => ?_) (fun _ => ?_)
    | with_reducible refine po_bl (fun _ _ => ?_))
theorem kt_d_fillsWays_263 {K170 : (Nat → Int32) → (Nat → Nat → Int32) → (Nat → Nat → Int64) → Int32 → Option (Unit × (Nat → Int32) × (Nat → Nat → Int32) × (Nat → Nat → Int64))} {K178 : (Nat → Int32) → (Nat → Nat → Int32) → (Nat → Nat → Int64) → Int32 → Int32 → Option (Unit × (Nat → Int32) × (Nat → Nat → Int32) × (Nat → Nat → Int64))} {K186 : (Nat → Int32) → (Nat → Nat → Int32) → (Nat → Nat → Int64) → Int32 → Int32 → Int32 → Option (Unit × (Nat → Int32) × (Nat → Nat → Int32) × (Nat → Nat → Int64))} {n : Nat} {F : Nat → Int32} {A : Nat → Nat → Int32} {J : Nat → Nat → Int64} {x1 : Int32} {x2 : Int32} {x3 : Int32} (hK170 : ∀ (a0 : Nat → Int32) (a1 : Nat → Nat → Int32) (a2 : Nat → Nat → Int64) (a3 : Int32), KT Fr Ar a0 a1 → po (K170 a0 a1 a2 a3) (fun r => KT Fr Ar r.2.1 r.2.2.1)) (hK178 : ∀ (a0 : Nat → Int32) (a1 : Nat → Nat → Int32) (a2 : Nat → Nat → Int64) (a3 : Int32) (a4 : Int32), KT Fr Ar a0 a1 → po (K178 a0 a1 a2 a3 a4) (fun r => KT Fr Ar r.2.1 r.2.2.1)) (hK186 : ∀ (a0 : Nat → Int32) (a1 : Nat → Nat → Int32) (a2 : Nat → Nat → Int64) (a3 : Int32) (a4 : Int32) (a5 : Int32), KT Fr Ar a0 a1 → po (K186 a0 a1 a2 a3 a4 a5) (fun r => KT Fr Ar r.2.1 r.2.2.1)) (h : KT Fr Ar F A) : po (d_fillsWays_263 K170 K178 K186 n F A J x1 x2 x3) (fun r => KT Fr Ar r.2.1 r.2.2.1) := by
  unfold d_fillsWays_263
  repeat' (first
    | with_reducible exact po_some (by assumption)
    | (with_reducible refine kt_pf (by assumption) (by decide) ?_; intro _ _)
    | (with_reducible refine kt_st (by assumption) (by decide) ?_; intro _ _)
    | (with_reducible refine kt_pz (by assumption) (by decide) ?_; intro _ _)
    | with_reducible exact hK170 _ _ _ _ (by assumption)
    | (intros; with_reducible exact hK170 _ _ _ _ (by assumption))
    | with_reducible exact hK178 _ _ _ _ _ (by assumption)
    | (intros; with_reducible exact hK178 _ _ _ _ _ (by assumption))
    | with_reducible exact hK186 _ _ _ _ _ _ (by assumption)
    | (intros; with_reducible exact hK186 _ _ _ _ _ _ (by assumption))
    | with_reducible refine po_cond (fun _ => ?_) (fun _ => ?_)
    | with_reducible refine po_bind_cond (fun _ => ?_) (fun _ => ?_)
    | with_reducible refine po_bl (fun _ _ => ?_))
theorem kt_d_fillsWays_186 {K170 : (Nat → Int32) → (Nat → Nat → Int32) → (Nat → Nat → Int64) → Int32 → Option (Unit × (Nat → Int32) × (Nat → Nat → Int32) × (Nat → Nat → Int64))} {K178 : (Nat → Int32) → (Nat → Nat → Int32) → (Nat → Nat → Int64) → Int32 → Int32 → Option (Unit × (Nat → Int32) × (Nat → Nat → Int32) × (Nat → Nat → Int64))} (hK170 : ∀ (a0 : Nat → Int32) (a1 : Nat → Nat → Int32) (a2 : Nat → Nat → Int64) (a3 : Int32), KT Fr Ar a0 a1 → po (K170 a0 a1 a2 a3) (fun r => KT Fr Ar r.2.1 r.2.2.1)) (hK178 : ∀ (a0 : Nat → Int32) (a1 : Nat → Nat → Int32) (a2 : Nat → Nat → Int64) (a3 : Int32) (a4 : Int32), KT Fr Ar a0 a1 → po (K178 a0 a1 a2 a3 a4) (fun r => KT Fr Ar r.2.1 r.2.2.1)) : ∀ {n : Nat} {F : Nat → Int32} {A : Nat → Nat → Int32} {J : Nat → Nat → Int64} {x1 : Int32} {x2 : Int32} {x3 : Int32}, KT Fr Ar F A → po (d_fillsWays_186 K170 K178 n F A J x1 x2 x3) (fun r => KT Fr Ar r.2.1 r.2.2.1) := by
  intro n
  induction n with
  | zero => intro F A J x1 x2 x3 _ r hr; cases hr
  | succ n ih =>
    intro F A J x1 x2 x3 h
    unfold d_fillsWays_186
    repeat' (first
      | with_reducible exact po_some (by assumption)
      | (with_reducible refine kt_pf (by assumption) (by decide) ?_; intro _ _)
      | (with_reducible refine kt_st (by assumption) (by decide) ?_; intro _ _)
      | (with_reducible refine kt_pz (by assumption) (by decide) ?_; intro _ _)
      | with_reducible refine kt_d_fillsWays_263 ?_ ?_ ?_ (by assumption)
      | (with_reducible refine po_call (kt_d_fillsWays_263 ?_ ?_ ?_ (by assumption)) ?_)
      | with_reducible exact hK170 _ _ _ _ (by assumption)
      | (intros; with_reducible exact hK170 _ _ _ _ (by assumption))
      | with_reducible exact hK178 _ _ _ _ _ (by assumption)
      | (intros; with_reducible exact hK178 _ _ _ _ _ (by assumption))
      | with_reducible exact ih (by assumption)
      | (with_reducible refine po_call (ih (by assumption)) ?_; rintro ⟨_, _, _, _⟩ _; try dsimp only)
      | (intros; with_reducible exact ih (by assumption))
      | with_reducible refine po_cond (fun _ => ?_) (fun _ => ?_)
      | with_reducible refine po_bind_cond (fun _ => ?_) (fun _ => ?_)
      | with_reducible refine po_bl (fun _ _ => ?_))
theorem kt_d_fillsWays_178 {K170 : (Nat → Int32) → (Nat → Nat → Int32) → (Nat → Nat → Int64) → Int32 → Option (Unit × (Nat → Int32) × (Nat → Nat → Int32) × (Nat → Nat → Int64))} (hK170 : ∀ (a0 : Nat → Int32) (a1 : Nat → Nat → Int32) (a2 : Nat → Nat → Int64) (a3 : Int32), KT Fr Ar a0 a1 → po (K170 a0 a1 a2 a3) (fun r => KT Fr Ar r.2.1 r.2.2.1)) : ∀ {n : Nat} {F : Nat → Int32} {A : Nat → Nat → Int32} {J : Nat → Nat → Int64} {x1 : Int32} {x2 : Int32}, KT Fr Ar F A → po (d_fillsWays_178 K170 n F A J x1 x2) (fun r => KT Fr Ar r.2.1 r.2.2.1) := by
  intro n
  induction n with
  | zero => intro F A J x1 x2 _ r hr; cases hr
  | succ n ih =>
    intro F A J x1 x2 h
    unfold d_fillsWays_178
    repeat' (first
      | with_reducible exact po_some (by assumption)
      | (with_reducible refine kt_pf (by assumption) (by decide) ?_; intro _ _)
      | (with_reducible refine kt_st (by assumption) (by decide) ?_; intro _ _)
      | (with_reducible refine kt_pz (by assumption) (by decide) ?_; intro _ _)
      | with_reducible refine kt_d_fillsWays_186 ?_ ?_ (by assumption)
      | (with_reducible refine po_call (kt_d_fillsWays_186 ?_ ?_ (by assumption)) ?_)
      | with_reducible exact hK170 _ _ _ _ (by assumption)
      | (intros; with_reducible exact hK170 _ _ _ _ (by assumption))
      | with_reducible exact ih (by assumption)
      | (with_reducible refine po_call (ih (by assumption)) ?_; rintro ⟨_, _, _, _⟩ _; try dsimp only)
      | (intros; with_reducible exact ih (by assumption))
      | with_reducible refine po_cond (fun _ => ?_) (fun _ => ?_)
      | with_reducible refine po_bind_cond (fun _ => ?_) (fun _ => ?_)
      | with_reducible refine po_bl (fun _ _ => ?_))
theorem kt_d_fillsWays_170   : ∀ {n : Nat} {F : Nat → Int32} {A : Nat → Nat → Int32} {J : Nat → Nat → Int64} {x1 : Int32}, KT Fr Ar F A → po (d_fillsWays_170  n F A J x1) (fun r => KT Fr Ar r.2.1 r.2.2.1) := by
  intro n
  induction n with
  | zero => intro F A J x1 _ r hr; cases hr
  | succ n ih =>
    intro F A J x1 h
    unfold d_fillsWays_170
    repeat' (first
      | with_reducible exact po_some (by assumption)
      | (with_reducible refine kt_pf (by assumption) (by decide) ?_; intro _ _)
      | (with_reducible refine kt_st (by assumption) (by decide) ?_; intro _ _)
      | (with_reducible refine kt_pz (by assumption) (by decide) ?_; intro _ _)
      | with_reducible refine kt_d_fillsWays_178 ?_ (by assumption)
      | (with_reducible refine po_call (kt_d_fillsWays_178 ?_ (by assumption)) ?_)
      | with_reducible exact ih (by assumption)
      | (with_reducible refine po_call (ih (by assumption)) ?_; rintro ⟨_, _, _, _⟩ _; try dsimp only)
      | (intros; with_reducible exact ih (by assumption))
      | with_reducible refine po_cond (fun _ => ?_) (fun _ => ?_)
      | with_reducible refine po_bind_cond (fun _ => ?_) (fun _ => ?_)
      | with_reducible refine po_bl (fun _ _ => ?_))
theorem kt_d_fillsWays_162 {K40 : (Nat → Int32) → (Nat → Nat → Int32) → (Nat → Nat → Int64) → Int32 → Option (Unit × (Nat → Int32) × (Nat → Nat → Int32) × (Nat → Nat → Int64))} {n : Nat} {F : Nat → Int32} {A : Nat → Nat → Int32} {J : Nat → Nat → Int64} {x1 : Int32} (hK40 : ∀ (a0 : Nat → Int32) (a1 : Nat → Nat → Int32) (a2 : Nat → Nat → Int64) (a3 : Int32), KT Fr Ar a0 a1 → po (K40 a0 a1 a2 a3) (fun r => KT Fr Ar r.2.1 r.2.2.1)) (h : KT Fr Ar F A) : po (d_fillsWays_162 K40 n F A J x1) (fun r => KT Fr Ar r.2.1 r.2.2.1) := by
  unfold d_fillsWays_162
  repeat' (first
    | with_reducible exact po_some (by assumption)
    | (with_reducible refine kt_pf (by assumption) (by decide) ?_; intro _ _)
    | (with_reducible refine kt_st (by assumption) (by decide) ?_; intro _ _)
    | (with_reducible refine kt_pz (by assumption) (by decide) ?_; intro _ _)
    | with_reducible exact hK40 _ _ _ _ (by assumption)
    | (intros; with_reducible exact hK40 _ _ _ _ (by assumption))
    | with_reducible refine po_cond (fun _ => ?_) (fun _ => ?_)
    | with_reducible refine po_bind_cond (fun _ => ?_) (fun _ => ?_)
    | with_reducible refine po_bl (fun _ _ => ?_))
theorem kt_d_fillsWays_40   : ∀ {n : Nat} {F : Nat → Int32} {A : Nat → Nat → Int32} {J : Nat → Nat → Int64} {x1 : Int32}, KT Fr Ar F A → po (d_fillsWays_40  n F A J x1) (fun r => KT Fr Ar r.2.1 r.2.2.1) := by
  intro n
  induction n with
  | zero => intro F A J x1 _ r hr; cases hr
  | succ n ih =>
    intro F A J x1 h
    unfold d_fillsWays_40
    repeat' (first
      | with_reducible exact po_some (by assumption)
      | (with_reducible refine kt_pf (by assumption) (by decide) ?_; intro _ _)
      | (with_reducible refine kt_st (by assumption) (by decide) ?_; intro _ _)
      | (with_reducible refine kt_pz (by assumption) (by decide) ?_; intro _ _)
      | with_reducible exact kt_d_fillsWays_170 (by assumption)
      | (with_reducible refine po_call (kt_d_fillsWays_170 (by assumption)) ?_; rintro ⟨_, _, _, _⟩ _; try dsimp only)
      | with_reducible refine kt_d_fillsWays_162 ?_ (by assumption)
      | (with_reducible refine po_call (kt_d_fillsWays_162 ?_ (by assumption)) ?_)
      | with_reducible exact ih (by assumption)
      | (with_reducible refine po_call (ih (by assumption)) ?_; rintro ⟨_, _, _, _⟩ _; try dsimp only)
      | (intros; with_reducible exact ih (by assumption))
      | with_reducible refine po_cond (fun _ => ?_) (fun _ => ?_)
      | with_reducible refine po_bind_cond (fun _ => ?_) (fun _ => ?_)
      | with_reducible refine po_bl (fun _ _ => ?_))
theorem kt_d_fillsWays_31 {K2 : (Nat → Int32) → (Nat → Nat → Int32) → (Nat → Nat → Int64) → Int32 → Option (Unit × (Nat → Int32) × (Nat → Nat → Int32) × (Nat → Nat → Int64))} {n : Nat} {F : Nat → Int32} {A : Nat → Nat → Int32} {J : Nat → Nat → Int64} {x1 : Int32} {s1 : Int32} {s2 : Int32} (hK2 : ∀ (a0 : Nat → Int32) (a1 : Nat → Nat → Int32) (a2 : Nat → Nat → Int64) (a3 : Int32), KT Fr Ar a0 a1 → po (K2 a0 a1 a2 a3) (fun r => KT Fr Ar r.2.1 r.2.2.1)) (h : KT Fr Ar F A) : po (d_fillsWays_31 K2 n F A J x1 s1 s2) (fun r => KT Fr Ar r.2.1 r.2.2.1) := by
  unfold d_fillsWays_31
  repeat' (first
    | with_reducible exact po_some (by assumption)
    | (with_reducible refine kt_pf (by assumption) (by decide) ?_; intro _ _)
    | (with_reducible refine kt_st (by assumption) (by decide) ?_; intro _ _)
    | (with_reducible refine kt_pz (by assumption) (by decide) ?_; intro _ _)
    | with_reducible exact hK2 _ _ _ _ (by assumption)
    | (intros; with_reducible exact hK2 _ _ _ _ (by assumption))
    | with_reducible refine po_cond (fun _ => ?_) (fun _ => ?_)
    | with_reducible refine po_bind_cond (fun _ => ?_) (fun _ => ?_)
    | with_reducible refine po_bl (fun _ _ => ?_))
theorem kt_d_fillsWays_2   : ∀ {n : Nat} {F : Nat → Int32} {A : Nat → Nat → Int32} {J : Nat → Nat → Int64} {x1 : Int32}, KT Fr Ar F A → po (d_fillsWays_2  n F A J x1) (fun r => KT Fr Ar r.2.1 r.2.2.1) := by
  intro n
  induction n with
  | zero => intro F A J x1 _ r hr; cases hr
  | succ n ih =>
    intro F A J x1 h
    unfold d_fillsWays_2
    repeat' (first
      | with_reducible exact po_some (by assumption)
      | (with_reducible refine kt_pf (by assumption) (by decide) ?_; intro _ _)
      | (with_reducible refine kt_st (by assumption) (by decide) ?_; intro _ _)
      | (with_reducible refine kt_pz (by assumption) (by decide) ?_; intro _ _)
      | with_reducible exact kt_d_fillsWays_40 (by assumption)
      | (with_reducible refine po_call (kt_d_fillsWays_40 (by assumption)) ?_; rintro ⟨_, _, _, _⟩ _; try dsimp only)
      | with_reducible refine kt_d_fillsWays_31 ?_ (by assumption)
      | (with_reducible refine po_call (kt_d_fillsWays_31 ?_ (by assumption)) ?_)
      | with_reducible exact ih (by assumption)
      | (with_reducible refine po_call (ih (by assumption)) ?_; rintro ⟨_, _, _, _⟩ _; try dsimp only)
      | (intros; with_reducible exact ih (by assumption))
      | with_reducible refine po_cond (fun _ => ?_) (fun _ => ?_)
      | with_reducible refine po_bind_cond (fun _ => ?_) (fun _ => ?_)
      | with_reducible refine po_bl (fun _ _ => ?_))
theorem kt_d_fillsWays {n : Nat} {F : Nat → Int32} {A : Nat → Nat → Int32} {J : Nat → Nat → Int64}  (h : KT Fr Ar F A) : po (d_fillsWays n F A J) (fun r => KT Fr Ar r.2.1 r.2.2.1) := by
  unfold d_fillsWays
  repeat' (first
    | with_reducible exact po_some (by assumption)
    | (with_reducible refine kt_pf (by assumption) (by decide) ?_; intro _ _)
    | (with_reducible refine kt_st (by assumption) (by decide) ?_; intro _ _)
    | (with_reducible refine kt_pz (by assumption) (by decide) ?_; intro _ _)
    | with_reducible exact kt_d_fillsWays_2 (by assumption)
    | (with_reducible refine po_call (kt_d_fillsWays_2 (by assumption)) ?_; rintro ⟨_, _, _, _⟩ _; try dsimp only)
    | with_reducible refine po_cond (fun _ => ?_) (fun _ => ?_)
    | with_reducible refine po_bind_cond (fun _ => ?_) (fun _ => ?_)
    | with_reducible refine po_bl (fun _ _ => ?_))
theorem kt_d_goesTill_128 {K27 : (Nat → Int32) → (Nat → Nat → Int32) → (Nat → Nat → Int64) → Int32 → Int32 → Option (Unit × (Nat → Int32) × (Nat → Nat → Int32) × (Nat → Nat → Int64))} {n : Nat} {F : Nat → Int32} {A : Nat → Nat → Int32} {J : Nat → Nat → Int64} {x1 : Int32} {x2 : Int32} (hK27 : ∀ (a0 : Nat → Int32) (a1 : Nat → Nat → Int32) (a2 : Nat → Nat → Int64) (a3 : Int32) (a4 : Int32), KT Fr Ar a0 a1 → po (K27 a0 a1 a2 a3 a4) (fun r => KT Fr Ar r.2.1 r.2.2.1)) (h : KT Fr Ar F A) : po (d_goesTill_128 K27 n F A J x1 x2) (fun r => KT Fr Ar r.2.1 r.2.2.1) := by
  unfold d_goesTill_128
  repeat' (first
    | with_reducible exact po_some (by assumption)
    | (with_reducible refine kt_pf (by assumption) (by decide) ?_; intro _ _)
    | (with_reducible refine kt_st (by assumption) (by decide) ?_; intro _ _)
    | (with_reducible refine kt_pz (by assumption) (by decide) ?_; intro _ _)
    | with_reducible exact hK27 _ _ _ _ _ (by assumption)
    | (intros; with_reducible exact hK27 _ _ _ _ _ (by assumption))
    | with_reducible refine po_cond (fun _ => ?_) (fun _ => ?_)
    | with_reducible refine po_bind_cond (fun _ => ?_) (fun _ => ?_)
    | with_reducible refine po_bl (fun _ _ => ?_))
theorem kt_d_goesTill_122 {K27 : (Nat → Int32) → (Nat → Nat → Int32) → (Nat → Nat → Int64) → Int32 → Int32 → Option (Unit × (Nat → Int32) × (Nat → Nat → Int32) × (Nat → Nat → Int64))} {K75 : (Nat → Int32) → (Nat → Nat → Int32) → (Nat → Nat → Int64) → Int32 → Int32 → Int32 → Option (Unit × (Nat → Int32) × (Nat → Nat → Int32) × (Nat → Nat → Int64))} {n : Nat} {F : Nat → Int32} {A : Nat → Nat → Int32} {J : Nat → Nat → Int64} {x1 : Int32} {x2 : Int32} {x3 : Int32} (hK27 : ∀ (a0 : Nat → Int32) (a1 : Nat → Nat → Int32) (a2 : Nat → Nat → Int64) (a3 : Int32) (a4 : Int32), KT Fr Ar a0 a1 → po (K27 a0 a1 a2 a3 a4) (fun r => KT Fr Ar r.2.1 r.2.2.1)) (hK75 : ∀ (a0 : Nat → Int32) (a1 : Nat → Nat → Int32) (a2 : Nat → Nat → Int64) (a3 : Int32) (a4 : Int32) (a5 : Int32), KT Fr Ar a0 a1 → po (K75 a0 a1 a2 a3 a4 a5) (fun r => KT Fr Ar r.2.1 r.2.2.1)) (h : KT Fr Ar F A) : po (d_goesTill_122 K27 K75 n F A J x1 x2 x3) (fun r => KT Fr Ar r.2.1 r.2.2.1) := by
  unfold d_goesTill_122
  repeat' (first
    | with_reducible exact po_some (by assumption)
    | (with_reducible refine kt_pf (by assumption) (by decide) ?_; intro _ _)
    | (with_reducible refine kt_st (by assumption) (by decide) ?_; intro _ _)
    | (with_reducible refine kt_pz (by assumption) (by decide) ?_; intro _ _)
    | with_reducible exact hK27 _ _ _ _ _ (by assumption)
    | (intros; with_reducible exact hK27 _ _ _ _ _ (by assumption))
    | with_reducible exact hK75 _ _ _ _ _ _ (by assumption)
    | (intros; with_reducible exact hK75 _ _ _ _ _ _ (by assumption))
    | with_reducible refine po_cond (fun _ => ?_) (fun _ => ?_)
    | with_reducible refine po_bind_cond (fun _ => ?_) (fun _ => ?_)
    | with_reducible refine po_bl (fun _ _ => ?_))
theorem kt_d_termOf_158 {K5 : (Nat → Int32) → (Nat → Nat → Int32) → (Nat → Nat → Int64) → Int32 → Int32 → Int32 → Option (Int32 × (Nat → Int32) × (Nat → Nat → Int32) × (Nat → Nat → Int64))} {n : Nat} {F : Nat → Int32} {A : Nat → Nat → Int32} {J : Nat → Nat → Int64} {x2 : Int32} {x3 : Int32} {x4 : Int32} {s1 : Int32} {s2 : Int32} (hK5 : ∀ (a0 : Nat → Int32) (a1 : Nat → Nat → Int32) (a2 : Nat → Nat → Int64) (a3 : Int32) (a4 : Int32) (a5 : Int32), KT Fr Ar a0 a1 → po (K5 a0 a1 a2 a3 a4 a5) (fun r => KT Fr Ar r.2.1 r.2.2.1)) (h : KT Fr Ar F A) : po (d_termOf_158 K5 n F A J x2 x3 x4 s1 s2) (fun r => KT Fr Ar r.2.1 r.2.2.1) := by
  unfold d_termOf_158
  repeat' (first
    | with_reducible exact po_some (by assumption)
    | (with_reducible refine kt_pf (by assumption) (by decide) ?_; intro _ _)
    | (with_reducible refine kt_st (by assumption) (by decide) ?_; intro _ _)
    | (with_reducible refine kt_pz (by assumption) (by decide) ?_; intro _ _)
    | with_reducible exact hK5 _ _ _ _ _ _ (by assumption)
    | (intros; with_reducible exact hK5 _ _ _ _ _ _ (by assumption))
    | with_reducible refine po_cond (fun _ => ?_) (fun _ => ?_)
    | with_reducible refine po_bind_cond (fun _ => ?_) (fun _ => ?_)
    | with_reducible refine po_bl (fun _ _ => ?_))
theorem kt_d_termOf_104 {K5 : (Nat → Int32) → (Nat → Nat → Int32) → (Nat → Nat → Int64) → Int32 → Int32 → Int32 → Option (Int32 × (Nat → Int32) × (Nat → Nat → Int32) × (Nat → Nat → Int64))} {n : Nat} {F : Nat → Int32} {A : Nat → Nat → Int32} {J : Nat → Nat → Int64} {x2 : Int32} {x3 : Int32} {x4 : Int32} {x5 : Int32} {x6 : Int32} {x7 : Int32} (hK5 : ∀ (a0 : Nat → Int32) (a1 : Nat → Nat → Int32) (a2 : Nat → Nat → Int64) (a3 : Int32) (a4 : Int32) (a5 : Int32), KT Fr Ar a0 a1 → po (K5 a0 a1 a2 a3 a4 a5) (fun r => KT Fr Ar r.2.1 r.2.2.1)) (h : KT Fr Ar F A) : po (d_termOf_104 K5 n F A J x2 x3 x4 x5 x6 x7) (fun r => KT Fr Ar r.2.1 r.2.2.1) := by
  unfold d_termOf_104
  repeat' (first
    | with_reducible exact po_some (by assumption)
    | (with_reducible refine kt_pf (by assumption) (by decide) ?_; intro _ _)
    | (with_reducible refine kt_st (by assumption) (by decide) ?_; intro _ _)
    | (with_reducible refine kt_pz (by assumption) (by decide) ?_; intro _ _)
    | with_reducible refine kt_d_termOf_158 ?_ (by assumption)
    | (with_reducible refine po_call (kt_d_termOf_158 ?_ (by assumption)) ?_)
    | with_reducible exact hK5 _ _ _ _ _ _ (by assumption)
    | (intros; with_reducible exact hK5 _ _ _ _ _ _ (by assumption))
    | with_reducible refine po_cond (fun _ => ?_) (fun _ => ?_)
    | with_reducible refine po_bind_cond (fun _ => ?_) (fun _ => ?_)
    | with_reducible refine po_bl (fun _ _ => ?_))
theorem kt_d_termOf_159 {K5 : (Nat → Int32) → (Nat → Nat → Int32) → (Nat → Nat → Int64) → Int32 → Int32 → Int32 → Option (Int32 × (Nat → Int32) × (Nat → Nat → Int32) × (Nat → Nat → Int64))} {n : Nat} {F : Nat → Int32} {A : Nat → Nat → Int32} {J : Nat → Nat → Int64} {x2 : Int32} {x3 : Int32} {x4 : Int32} (hK5 : ∀ (a0 : Nat → Int32) (a1 : Nat → Nat → Int32) (a2 : Nat → Nat → Int64) (a3 : Int32) (a4 : Int32) (a5 : Int32), KT Fr Ar a0 a1 → po (K5 a0 a1 a2 a3 a4 a5) (fun r => KT Fr Ar r.2.1 r.2.2.1)) (h : KT Fr Ar F A) : po (d_termOf_159 K5 n F A J x2 x3 x4) (fun r => KT Fr Ar r.2.1 r.2.2.1) := by
  unfold d_termOf_159
  repeat' (first
    | with_reducible exact po_some (by assumption)
    | (with_reducible refine kt_pf (by assumption) (by decide) ?_; intro _ _)
    | (with_reducible refine kt_st (by assumption) (by decide) ?_; intro _ _)
    | (with_reducible refine kt_pz (by assumption) (by decide) ?_; intro _ _)
    | with_reducible exact hK5 _ _ _ _ _ _ (by assumption)
    | (intros; with_reducible exact hK5 _ _ _ _ _ _ (by assumption))
    | with_reducible refine po_cond (fun _ => ?_) (fun _ => ?_)
    | with_reducible refine po_bind_cond (fun _ => ?_) (fun _ => ?_)
    | with_reducible refine po_bl (fun _ _ => ?_))
theorem kt_d_termOf_58 {K5 : (Nat → Int32) → (Nat → Nat → Int32) → (Nat → Nat → Int64) → Int32 → Int32 → Int32 → Option (Int32 × (Nat → Int32) × (Nat → Nat → Int32) × (Nat → Nat → Int64))} {n : Nat} {F : Nat → Int32} {A : Nat → Nat → Int32} {J : Nat → Nat → Int64} {x2 : Int32} {x3 : Int32} {x4 : Int32} {s1 : Int32} {s2 : Int32} (hK5 : ∀ (a0 : Nat → Int32) (a1 : Nat → Nat → Int32) (a2 : Nat → Nat → Int64) (a3 : Int32) (a4 : Int32) (a5 : Int32), KT Fr Ar a0 a1 → po (K5 a0 a1 a2 a3 a4 a5) (fun r => KT Fr Ar r.2.1 r.2.2.1)) (h : KT Fr Ar F A) : po (d_termOf_58 K5 n F A J x2 x3 x4 s1 s2) (fun r => KT Fr Ar r.2.1 r.2.2.1) := by
  unfold d_termOf_58
  repeat' (first
    | with_reducible exact po_some (by assumption)
    | (with_reducible refine kt_pf (by assumption) (by decide) ?_; intro _ _)
    | (with_reducible refine kt_st (by assumption) (by decide) ?_; intro _ _)
    | (with_reducible refine kt_pz (by assumption) (by decide) ?_; intro _ _)
    | with_reducible refine kt_d_termOf_159 ?_ (by assumption)
    | (with_reducible refine po_call (kt_d_termOf_159 ?_ (by assumption)) ?_)
    | with_reducible exact hK5 _ _ _ _ _ _ (by assumption)
    | (intros; with_reducible exact hK5 _ _ _ _ _ _ (by assumption))
    | with_reducible refine po_cond (fun _ => ?_) (fun _ => ?_)
    | with_reducible refine po_bind_cond (fun _ => ?_) (fun _ => ?_)
    | with_reducible refine po_bl (fun _ _ => ?_))
theorem kt_d_termOf_5   : ∀ {n : Nat} {F : Nat → Int32} {A : Nat → Nat → Int32} {J : Nat → Nat → Int64} {x2 : Int32} {x3 : Int32} {x4 : Int32}, KT Fr Ar F A → po (d_termOf_5  n F A J x2 x3 x4) (fun r => KT Fr Ar r.2.1 r.2.2.1) := by
  intro n
  induction n with
  | zero => intro F A J x2 x3 x4 _ r hr; cases hr
  | succ n ih =>
    intro F A J x2 x3 x4 h
    unfold d_termOf_5
    repeat' (first
      | with_reducible exact po_some (by assumption)
      | (with_reducible refine kt_pf (by assumption) (by decide) ?_; intro _ _)
      | (with_reducible refine kt_st (by assumption) (by decide) ?_; intro _ _)
      | (with_reducible refine kt_pz (by assumption) (by decide) ?_; intro _ _)
      | with_reducible refine kt_d_termOf_104 ?_ (by assumption)
      | (with_reducible refine po_call (kt_d_termOf_104 ?_ (by assumption)) ?_)
      | with_reducible refine kt_d_termOf_159 ?_ (by assumption)
      | (with_reducible refine po_call (kt_d_termOf_159 ?_ (by assumption)) ?_)
      | with_reducible refine kt_d_termOf_58 ?_ (by assumption)
      | (with_reducible refine po_call (kt_d_termOf_58 ?_ (by assumption)) ?_)
      | with_reducible exact ih (by assumption)
      | (with_reducible refine po_call (ih (by assumption)) ?_; rintro ⟨_, _, _, _⟩ _; try dsimp only)
      | (intros; with_reducible exact ih (by assumption))
      | with_reducible refine po_cond (fun _ => ?_) (fun _ => ?_)
      | with_reducible refine po_bind_cond (fun _ => ?_) (fun _ => ?_)
      | with_reducible refine po_bl (fun _ _ => ?_))
theorem kt_d_termOf {n : Nat} {F : Nat → Int32} {A : Nat → Nat → Int32} {J : Nat → Nat → Int64} {x1 : Int32} {x2 : Int32}  (h : KT Fr Ar F A) : po (d_termOf n F A J x1 x2) (fun r => KT Fr Ar r.2.1 r.2.2.1) := by
  unfold d_termOf
  repeat' (first
    | with_reducible exact po_some (by assumption)
    | (with_reducible refine kt_pf (by assumption) (by decide) ?_; intro _ _)
    | (with_reducible refine kt_st (by assumption) (by decide) ?_; intro _ _)
    | (with_reducible refine kt_pz (by assumption) (by decide) ?_; intro _ _)
    | with_reducible exact kt_d_termOf_5 (by assumption)
    | (with_reducible refine po_call (kt_d_termOf_5 (by assumption)) ?_; rintro ⟨_, _, _, _⟩ _; try dsimp only)
    | with_reducible refine po_cond (fun _ => ?_) (fun _ => ?_)
    | with_reducible refine po_bind_cond (fun _ => ?_) (fun _ => ?_)
    | with_reducible refine po_bl (fun _ _ => ?_))
theorem kt_d_tells_211 {n : Nat} {F : Nat → Int32} {A : Nat → Nat → Int32} {J : Nat → Nat → Int64} {x1 : Int32} {x3 : Int32} {x6 : Int32}  (h : KT Fr Ar F A) : po (d_tells_211 n F A J x1 x3 x6) (fun r => KT Fr Ar r.2.1 r.2.2.1) := by
  unfold d_tells_211
  repeat' (first
    | with_reducible exact po_some (by assumption)
    | (with_reducible refine kt_pf (by assumption) (by decide) ?_; intro _ _)
    | (with_reducible refine kt_st (by assumption) (by decide) ?_; intro _ _)
    | (with_reducible refine kt_pz (by assumption) (by decide) ?_; intro _ _)
    | with_reducible exact kt_d_termOf (by assumption)
    | (with_reducible refine po_call (kt_d_termOf (by assumption)) ?_; rintro ⟨_, _, _, _⟩ _; try dsimp only)
    | with_reducible refine po_cond (fun _ => ?_) (fun _ => ?_)
    | with_reducible refine po_bind_cond (fun _ => ?_) (fun _ => ?_)
    | with_reducible refine po_bl (fun _ _ => ?_))
theorem kt_d_tells_130   : ∀ {n : Nat} {F : Nat → Int32} {A : Nat → Nat → Int32} {J : Nat → Nat → Int64} {x1 : Int32} {x3 : Int32} {x5 : Int32} {x6 : Int32}, KT Fr Ar F A → po (d_tells_130  n F A J x1 x3 x5 x6) (fun r => KT Fr Ar r.2.1 r.2.2.1) := by
  intro n
  induction n with
  | zero => intro F A J x1 x3 x5 x6 _ r hr; cases hr
  | succ n ih =>
    intro F A J x1 x3 x5 x6 h
    unfold d_tells_130
    repeat' (first
      | with_reducible exact po_some (by assumption)
      | (with_reducible refine kt_pf (by assumption) (by decide) ?_; intro _ _)
      | (with_reducible refine kt_st (by assumption) (by decide) ?_; intro _ _)
      | (with_reducible refine kt_pz (by assumption) (by decide) ?_; intro _ _)
      | with_reducible exact kt_d_tells_211 (by assumption)
      | (with_reducible refine po_call (kt_d_tells_211 (by assumption)) ?_; rintro ⟨_, _, _, _⟩ _; try dsimp only)
      | with_reducible exact kt_d_termOf (by assumption)
      | (with_reducible refine po_call (kt_d_termOf (by assumption)) ?_; rintro ⟨_, _, _, _⟩ _; try dsimp only)
      | with_reducible exact ih (by assumption)
      | (with_reducible refine po_call (ih (by assumption)) ?_; rintro ⟨_, _, _, _⟩ _; try dsimp only)
      | (intros; with_reducible exact ih (by assumption))
      | with_reducible refine po_cond (fun _ => ?_) (fun _ => ?_)
      | with_reducible refine po_bind_cond (fun _ => ?_) (fun _ => ?_)
      | with_reducible refine po_bl (fun _ _ => ?_))
theorem kt_d_tells {n : Nat} {F : Nat → Int32} {A : Nat → Nat → Int32} {J : Nat → Nat → Int64} {x1 : Int32} {x2 : Int32}  (h : KT Fr Ar F A) : po (d_tells n F A J x1 x2) (fun r => KT Fr Ar r.2.1 r.2.2.1) := by
  unfold d_tells
  repeat' (first
    | with_reducible exact po_some (by assumption)
    | (with_reducible refine kt_pf (by assumption) (by decide) ?_; intro _ _)
    | (with_reducible refine kt_st (by assumption) (by decide) ?_; intro _ _)
    | (with_reducible refine kt_pz (by assumption) (by decide) ?_; intro _ _)
    | with_reducible exact kt_d_tells_130 (by assumption)
    | (with_reducible refine po_call (kt_d_tells_130 (by assumption)) ?_; rintro ⟨_, _, _, _⟩ _; try dsimp only)
    | with_reducible refine po_cond (fun _ => ?_) (fun _ => ?_)
    | with_reducible refine po_bind_cond (fun _ => ?_) (fun _ => ?_)
    | with_reducible refine po_bl (fun _ _ => ?_))
theorem kt_d_lies {F : Nat → Int32} {A : Nat → Nat → Int32} {J : Nat → Nat → Int64} {x1 : Int32} {x2 : Int32}  (h : KT Fr Ar F A) : po (d_lies F A J x1 x2) (fun r => KT Fr Ar r.2.1 r.2.2.1) := by
  unfold d_lies
  repeat' (first
    | with_reducible exact po_some (by assumption)
    | (with_reducible refine kt_pf (by assumption) (by decide) ?_; intro _ _)
    | (with_reducible refine kt_st (by assumption) (by decide) ?_; intro _ _)
    | (with_reducible refine kt_pz (by assumption) (by decide) ?_; intro _ _)
    | with_reducible refine po_cond (fun _ => ?_) (fun _ => ?_)
    | with_reducible refine po_bind_cond (fun _ => ?_) (fun _ => ?_)
    | with_reducible refine po_bl (fun _ _ => ?_))
theorem kt_d_begins1_124 {n : Nat} {F : Nat → Int32} {A : Nat → Nat → Int32} {J : Nat → Nat → Int64} {x1 : Int32} {x2 : Int32}  (h : KT Fr Ar F A) : po (d_begins1_124 n F A J x1 x2) (fun r => KT Fr Ar r.2.1 r.2.2.1) := by
  unfold d_begins1_124
  repeat' (first
    | with_reducible exact po_some (by assumption)
    | (with_reducible refine kt_pf (by assumption) (by decide) ?_; intro _ _)
    | (with_reducible refine kt_st (by assumption) (by decide) ?_; intro _ _)
    | (with_reducible refine kt_pz (by assumption) (by decide) ?_; intro _ _)
    | with_reducible exact kt_d_lies (by assumption)
    | (with_reducible refine po_call (kt_d_lies (by assumption)) ?_; rintro ⟨_, _, _, _⟩ _; try dsimp only)
    | with_reducible refine po_cond (fun _ => ?_) (fun _ => ?_)
    | with_reducible refine po_bind_cond (fun _ => ?_) (fun _ => ?_)
    | with_reducible refine po_bl (fun _ _ => ?_))
theorem kt_d_begins1_147 {n : Nat} {F : Nat → Int32} {A : Nat → Nat → Int32} {J : Nat → Nat → Int64} {x1 : Int32} {x2 : Int32} {x3 : Int32} {x4 : Int32}  (h : KT Fr Ar F A) : po (d_begins1_147 n F A J x1 x2 x3 x4) (fun r => KT Fr Ar r.2.1 r.2.2.1) := by
  unfold d_begins1_147
  repeat' (first
    | with_reducible exact po_some (by assumption)
    | (with_reducible refine kt_pf (by assumption) (by decide) ?_; intro _ _)
    | (with_reducible refine kt_st (by assumption) (by decide) ?_; intro _ _)
    | (with_reducible refine kt_pz (by assumption) (by decide) ?_; intro _ _)
    | with_reducible refine po_cond (fun _ => ?_) (fun _ => ?_)
    | with_reducible refine po_bind_cond (fun _ => ?_) (fun _ => ?_)
    | with_reducible refine po_bl (fun _ _ => ?_))
theorem kt_d_begins1_131 {n : Nat} {F : Nat → Int32} {A : Nat → Nat → Int32} {J : Nat → Nat → Int64} {x1 : Int32} {x2 : Int32} {x3 : Int32} {x4 : Int32} {x5 : Int32} {x6 : Int32}  (h : KT Fr Ar F A) : po (d_begins1_131 n F A J x1 x2 x3 x4 x5 x6) (fun r => KT Fr Ar r.2.1 r.2.2.1) := by
  unfold d_begins1_131
  repeat' (first
    | with_reducible exact po_some (by assumption)
    | (with_reducible refine kt_pf (by assumption) (by decide) ?_; intro _ _)
    | (with_reducible refine kt_st (by assumption) (by decide) ?_; intro _ _)
    | (with_reducible refine kt_pz (by assumption) (by decide) ?_; intro _ _)
    | with_reducible exact kt_d_begins1_147 (by assumption)
    | (with_reducible refine po_call (kt_d_begins1_147 (by assumption)) ?_; rintro ⟨_, _, _, _⟩ _; try dsimp only)
    | with_reducible refine po_cond (fun _ => ?_) (fun _ => ?_)
    | with_reducible refine po_bind_cond (fun _ => ?_) (fun _ => ?_)
    | with_reducible refine po_bl (fun _ _ => ?_))
theorem kt_d_begins1_81 {n : Nat} {F : Nat → Int32} {A : Nat → Nat → Int32} {J : Nat → Nat → Int64} {x1 : Int32} {x2 : Int32} {x3 : Int32} {x4 : Int32} {x5 : Int32} {s0 : Int32}  (h : KT Fr Ar F A) : po (d_begins1_81 n F A J x1 x2 x3 x4 x5 s0) (fun r => KT Fr Ar r.2.1 r.2.2.1) := by
  unfold d_begins1_81
  repeat' (first
    | with_reducible exact po_some (by assumption)
    | (with_reducible refine kt_pf (by assumption) (by decide) ?_; intro _ _)
    | (with_reducible refine kt_st (by assumption) (by decide) ?_; intro _ _)
    | (with_reducible refine kt_pz (by assumption) (by decide) ?_; intro _ _)
    | with_reducible exact kt_d_begins1_124 (by assumption)
    | (with_reducible refine po_call (kt_d_begins1_124 (by assumption)) ?_; rintro ⟨_, _, _, _⟩ _; try dsimp only)
    | with_reducible exact kt_d_begins1_131 (by assumption)
    | (with_reducible refine po_call (kt_d_begins1_131 (by assumption)) ?_; rintro ⟨_, _, _, _⟩ _; try dsimp only)
    | with_reducible refine po_cond (fun _ => ?_) (fun _ => ?_)
    | with_reducible refine po_bind_cond (fun _ => ?_) (fun _ => ?_)
    | with_reducible refine po_bl (fun _ _ => ?_))
theorem kt_d_begins1_76 {n : Nat} {F : Nat → Int32} {A : Nat → Nat → Int32} {J : Nat → Nat → Int64} {x1 : Int32} {x2 : Int32} {x3 : Int32} {x4 : Int32} {x5 : Int32}  (h : KT Fr Ar F A) : po (d_begins1_76 n F A J x1 x2 x3 x4 x5) (fun r => KT Fr Ar r.2.1 r.2.2.1) := by
  unfold d_begins1_76
  repeat' (first
    | with_reducible exact po_some (by assumption)
    | (with_reducible refine kt_pf (by assumption) (by decide) ?_; intro _ _)
    | (with_reducible refine kt_st (by assumption) (by decide) ?_; intro _ _)
    | (with_reducible refine kt_pz (by assumption) (by decide) ?_; intro _ _)
    | with_reducible exact kt_d_begins1_81 (by assumption)
    | (with_reducible refine po_call (kt_d_begins1_81 (by assumption)) ?_; rintro ⟨_, _, _, _⟩ _; try dsimp only)
    | with_reducible refine po_cond (fun _ => ?_) (fun _ => ?_)
    | with_reducible refine po_bind_cond (fun _ => ?_) (fun _ => ?_)
    | with_reducible refine po_bl (fun _ _ => ?_))
theorem kt_d_begins1 {n : Nat} {F : Nat → Int32} {A : Nat → Nat → Int32} {J : Nat → Nat → Int64} {x1 : Int32} {x2 : Int32}  (h : KT Fr Ar F A) : po (d_begins1 n F A J x1 x2) (fun r => KT Fr Ar r.2.1 r.2.2.1) := by
  unfold d_begins1
  repeat' (first
    | with_reducible exact po_some (by assumption)
    | (with_reducible refine kt_pf (by assumption) (by decide) ?_; intro _ _)
    | (with_reducible refine kt_st (by assumption) (by decide) ?_; intro _ _)
    | (with_reducible refine kt_pz (by assumption) (by decide) ?_; intro _ _)
    | with_reducible exact kt_d_tells (by assumption)
    | (with_reducible refine po_call (kt_d_tells (by assumption)) ?_; rintro ⟨_, _, _, _⟩ _; try dsimp only)
    | with_reducible exact kt_d_begins1_76 (by assumption)
    | (with_reducible refine po_call (kt_d_begins1_76 (by assumption)) ?_; rintro ⟨_, _, _, _⟩ _; try dsimp only)
    | with_reducible exact kt_d_begins1_81 (by assumption)
    | (with_reducible refine po_call (kt_d_begins1_81 (by assumption)) ?_; rintro ⟨_, _, _, _⟩ _; try dsimp only)
    | with_reducible exact kt_d_lies (by assumption)
    | (with_reducible refine po_call (kt_d_lies (by assumption)) ?_; rintro ⟨_, _, _, _⟩ _; try dsimp only)
    | with_reducible refine po_cond (fun _ => ?_) (fun _ => ?_)
    | with_reducible refine po_bind_cond (fun _ => ?_) (fun _ => ?_)
    | with_reducible refine po_bl (fun _ _ => ?_))
theorem kt_d_goesTill_75 {K27 : (Nat → Int32) → (Nat → Nat → Int32) → (Nat → Nat → Int64) → Int32 → Int32 → Option (Unit × (Nat → Int32) × (Nat → Nat → Int32) × (Nat → Nat → Int64))} (hK27 : ∀ (a0 : Nat → Int32) (a1 : Nat → Nat → Int32) (a2 : Nat → Nat → Int64) (a3 : Int32) (a4 : Int32), KT Fr Ar a0 a1 → po (K27 a0 a1 a2 a3 a4) (fun r => KT Fr Ar r.2.1 r.2.2.1)) : ∀ {n : Nat} {F : Nat → Int32} {A : Nat → Nat → Int32} {J : Nat → Nat → Int64} {x1 : Int32} {x2 : Int32} {x3 : Int32}, KT Fr Ar F A → po (d_goesTill_75 K27 n F A J x1 x2 x3) (fun r => KT Fr Ar r.2.1 r.2.2.1) := by
  intro n
  induction n with
  | zero => intro F A J x1 x2 x3 _ r hr; cases hr
  | succ n ih =>
    intro F A J x1 x2 x3 h
    unfold d_goesTill_75
    repeat' (first
      | with_reducible exact po_some (by assumption)
      | (with_reducible refine kt_pf (by assumption) (by decide) ?_; intro _ _)
      | (with_reducible refine kt_st (by assumption) (by decide) ?_; intro _ _)
      | (with_reducible refine kt_pz (by assumption) (by decide) ?_; intro _ _)
      | with_reducible refine kt_d_goesTill_128 ?_ (by assumption)
      | (with_reducible refine po_call (kt_d_goesTill_128 ?_ (by assumption)) ?_)
      | with_reducible refine kt_d_goesTill_122 ?_ ?_ (by assumption)
      | (with_reducible refine po_call (kt_d_goesTill_122 ?_ ?_ (by assumption)) ?_)
      | with_reducible exact kt_d_begins1 (by assumption)
      | (with_reducible refine po_call (kt_d_begins1 (by assumption)) ?_; rintro ⟨_, _, _, _⟩ _; try dsimp only)
      | with_reducible exact hK27 _ _ _ _ _ (by assumption)
      | (intros; with_reducible exact hK27 _ _ _ _ _ (by assumption))
      | with_reducible exact ih (by assumption)
      | (with_reducible refine po_call (ih (by assumption)) ?_; rintro ⟨_, _, _, _⟩ _; try dsimp only)
      | (intros; with_reducible exact ih (by assumption))
      | with_reducible refine po_cond (fun _ => ?_) (fun _ => ?_)
      | with_reducible refine po_bind_cond (fun _ => ?_) (fun _ => ?_)
      | with_reducible refine po_bl (fun _ _ => ?_))
theorem kt_d_goesTill_67 {K27 : (Nat → Int32) → (Nat → Nat → Int32) → (Nat → Nat → Int64) → Int32 → Int32 → Option (Unit × (Nat → Int32) × (Nat → Nat → Int32) × (Nat → Nat → Int64))} {K34 : (Nat → Int32) → (Nat → Nat → Int32) → (Nat → Nat → Int64) → Int32 → Int32 → Int32 → Option (Unit × (Nat → Int32) × (Nat → Nat → Int32) × (Nat → Nat → Int64))} {n : Nat} {F : Nat → Int32} {A : Nat → Nat → Int32} {J : Nat → Nat → Int64} {x1 : Int32} {x2 : Int32} {x3 : Int32} (hK27 : ∀ (a0 : Nat → Int32) (a1 : Nat → Nat → Int32) (a2 : Nat → Nat → Int64) (a3 : Int32) (a4 : Int32), KT Fr Ar a0 a1 → po (K27 a0 a1 a2 a3 a4) (fun r => KT Fr Ar r.2.1 r.2.2.1)) (hK34 : ∀ (a0 : Nat → Int32) (a1 : Nat → Nat → Int32) (a2 : Nat → Nat → Int64) (a3 : Int32) (a4 : Int32) (a5 : Int32), KT Fr Ar a0 a1 → po (K34 a0 a1 a2 a3 a4 a5) (fun r => KT Fr Ar r.2.1 r.2.2.1)) (h : KT Fr Ar F A) : po (d_goesTill_67 K27 K34 n F A J x1 x2 x3) (fun r => KT Fr Ar r.2.1 r.2.2.1) := by
  unfold d_goesTill_67
  repeat' (first
    | with_reducible exact po_some (by assumption)
    | (with_reducible refine kt_pf (by assumption) (by decide) ?_; intro _ _)
    | (with_reducible refine kt_st (by assumption) (by decide) ?_; intro _ _)
    | (with_reducible refine kt_pz (by assumption) (by decide) ?_; intro _ _)
    | with_reducible exact hK27 _ _ _ _ _ (by assumption)
    | (intros; with_reducible exact hK27 _ _ _ _ _ (by assumption))
    | with_reducible exact hK34 _ _ _ _ _ _ (by assumption)
    | (intros; with_reducible exact hK34 _ _ _ _ _ _ (by assumption))
    | with_reducible refine po_cond (fun _ => ?_) (fun _ => ?_)
    | with_reducible refine po_bind_cond (fun _ => ?_) (fun _ => ?_)
    | with_reducible refine po_bl (fun _ _ => ?_))
theorem kt_d_does {F : Nat → Int32} {A : Nat → Nat → Int32} {J : Nat → Nat → Int64} {x1 : Int32} {x2 : Int32}  (h : KT Fr Ar F A) : po (d_does F A J x1 x2) (fun r => KT Fr Ar r.2.1 r.2.2.1) := by
  unfold d_does
  repeat' (first
    | with_reducible exact po_some (by assumption)
    | (with_reducible refine kt_pf (by assumption) (by decide) ?_; intro _ _)
    | (with_reducible refine kt_st (by assumption) (by decide) ?_; intro _ _)
    | (with_reducible refine kt_pz (by assumption) (by decide) ?_; intro _ _)
    | with_reducible refine po_cond (fun _ => ?_) (fun _ => ?_)
    | with_reducible refine po_bind_cond (fun _ => ?_) (fun _ => ?_)
    | with_reducible refine po_bl (fun _ _ => ?_))
theorem kt_d_isOver {F : Nat → Int32} {A : Nat → Nat → Int32} {J : Nat → Nat → Int64} {x1 : Int32}  (h : KT Fr Ar F A) : po (d_isOver F A J x1) (fun r => KT Fr Ar r.2.1 r.2.2.1) := by
  unfold d_isOver
  repeat' (first
    | with_reducible exact po_some (by assumption)
    | (with_reducible refine kt_pf (by assumption) (by decide) ?_; intro _ _)
    | (with_reducible refine kt_st (by assumption) (by decide) ?_; intro _ _)
    | (with_reducible refine kt_pz (by assumption) (by decide) ?_; intro _ _)
    | with_reducible exact kt_d_does (by assumption)
    | (with_reducible refine po_call (kt_d_does (by assumption)) ?_; rintro ⟨_, _, _, _⟩ _; try dsimp only)
    | with_reducible refine po_cond (fun _ => ?_) (fun _ => ?_)
    | with_reducible refine po_bind_cond (fun _ => ?_) (fun _ => ?_)
    | with_reducible refine po_bl (fun _ _ => ?_))
theorem kt_d_goesTill_34 {K27 : (Nat → Int32) → (Nat → Nat → Int32) → (Nat → Nat → Int64) → Int32 → Int32 → Option (Unit × (Nat → Int32) × (Nat → Nat → Int32) × (Nat → Nat → Int64))} (hK27 : ∀ (a0 : Nat → Int32) (a1 : Nat → Nat → Int32) (a2 : Nat → Nat → Int64) (a3 : Int32) (a4 : Int32), KT Fr Ar a0 a1 → po (K27 a0 a1 a2 a3 a4) (fun r => KT Fr Ar r.2.1 r.2.2.1)) : ∀ {n : Nat} {F : Nat → Int32} {A : Nat → Nat → Int32} {J : Nat → Nat → Int64} {x1 : Int32} {x2 : Int32} {x3 : Int32}, KT Fr Ar F A → po (d_goesTill_34 K27 n F A J x1 x2 x3) (fun r => KT Fr Ar r.2.1 r.2.2.1) := by
  intro n
  induction n with
  | zero => intro F A J x1 x2 x3 _ r hr; cases hr
  | succ n ih =>
    intro F A J x1 x2 x3 h
    unfold d_goesTill_34
    repeat' (first
      | with_reducible exact po_some (by assumption)
      | (with_reducible refine kt_pf (by assumption) (by decide) ?_; intro _ _)
      | (with_reducible refine kt_st (by assumption) (by decide) ?_; intro _ _)
      | (with_reducible refine kt_pz (by assumption) (by decide) ?_; intro _ _)
      | with_reducible refine kt_d_goesTill_75 ?_ (by assumption)
      | (with_reducible refine po_call (kt_d_goesTill_75 ?_ (by assumption)) ?_)
      | with_reducible refine kt_d_goesTill_67 ?_ ?_ (by assumption)
      | (with_reducible refine po_call (kt_d_goesTill_67 ?_ ?_ (by assumption)) ?_)
      | with_reducible exact kt_d_isOver (by assumption)
      | (with_reducible refine po_call (kt_d_isOver (by assumption)) ?_; rintro ⟨_, _, _, _⟩ _; try dsimp only)
      | with_reducible exact hK27 _ _ _ _ _ (by assumption)
      | (intros; with_reducible exact hK27 _ _ _ _ _ (by assumption))
      | with_reducible exact ih (by assumption)
      | (with_reducible refine po_call (ih (by assumption)) ?_; rintro ⟨_, _, _, _⟩ _; try dsimp only)
      | (intros; with_reducible exact ih (by assumption))
      | with_reducible refine po_cond (fun _ => ?_) (fun _ => ?_)
      | with_reducible refine po_bind_cond (fun _ => ?_) (fun _ => ?_)
      | with_reducible refine po_bl (fun _ _ => ?_))
theorem kt_d_goesTill_27   : ∀ {n : Nat} {F : Nat → Int32} {A : Nat → Nat → Int32} {J : Nat → Nat → Int64} {x1 : Int32} {x2 : Int32}, KT Fr Ar F A → po (d_goesTill_27  n F A J x1 x2) (fun r => KT Fr Ar r.2.1 r.2.2.1) := by
  intro n
  induction n with
  | zero => intro F A J x1 x2 _ r hr; cases hr
  | succ n ih =>
    intro F A J x1 x2 h
    unfold d_goesTill_27
    repeat' (first
      | with_reducible exact po_some (by assumption)
      | (with_reducible refine kt_pf (by assumption) (by decide) ?_; intro _ _)
      | (with_reducible refine kt_st (by assumption) (by decide) ?_; intro _ _)
      | (with_reducible refine kt_pz (by assumption) (by decide) ?_; intro _ _)
      | with_reducible refine kt_d_goesTill_34 ?_ (by assumption)
      | (with_reducible refine po_call (kt_d_goesTill_34 ?_ (by assumption)) ?_)
      | with_reducible exact ih (by assumption)
      | (with_reducible refine po_call (ih (by assumption)) ?_; rintro ⟨_, _, _, _⟩ _; try dsimp only)
      | (intros; with_reducible exact ih (by assumption))
      | with_reducible refine po_cond (fun _ => ?_) (fun _ => ?_)
      | with_reducible refine po_bind_cond (fun _ => ?_) (fun _ => ?_)
      | with_reducible refine po_bl (fun _ _ => ?_))
theorem kt_d_getsUp_117 {F : Nat → Int32} {A : Nat → Nat → Int32} {J : Nat → Nat → Int64} {x1 : Int32} {x3 : Int32} {s1 : Int32} {s2 : Int32}  (h : KT Fr Ar F A) : po (d_getsUp_117 F A J x1 x3 s1 s2) (fun r => KT Fr Ar r.2.1 r.2.2.1) := by
  unfold d_getsUp_117
  repeat' (first
    | with_reducible exact po_some (by assumption)
    | (with_reducible refine kt_pf (by assumption) (by decide) ?_; intro _ _)
    | (with_reducible refine kt_st (by assumption) (by decide) ?_; intro _ _)
    | (with_reducible refine kt_pz (by assumption) (by decide) ?_; intro _ _)
    | with_reducible refine po_cond (fun _ => ?_) (fun _ => ?_)
    | with_reducible refine po_bind_cond (fun _ => ?_) (fun _ => ?_)
    | with_reducible refine po_bl (fun _ _ => ?_))
theorem kt_d_getsUp {F : Nat → Int32} {A : Nat → Nat → Int32} {J : Nat → Nat → Int64} {x1 : Int32}  (h : KT Fr Ar F A) : po (d_getsUp F A J x1) (fun r => KT Fr Ar r.2.1 r.2.2.1) := by
  unfold d_getsUp
  repeat' (first
    | with_reducible exact po_some (by assumption)
    | (with_reducible refine kt_pf (by assumption) (by decide) ?_; intro _ _)
    | (with_reducible refine kt_st (by assumption) (by decide) ?_; intro _ _)
    | (with_reducible refine kt_pz (by assumption) (by decide) ?_; intro _ _)
    | with_reducible exact kt_d_getsUp_117 (by assumption)
    | (with_reducible refine po_call (kt_d_getsUp_117 (by assumption)) ?_; rintro ⟨_, _, _, _⟩ _; try dsimp only)
    | with_reducible refine po_cond (fun _ => ?_) (fun _ => ?_)
    | with_reducible refine po_bind_cond (fun _ => ?_) (fun _ => ?_)
    | with_reducible refine po_bl (fun _ _ => ?_))
theorem kt_d_goesTill_6   : ∀ {n : Nat} {F : Nat → Int32} {A : Nat → Nat → Int32} {J : Nat → Nat → Int64} {x1 : Int32} {x2 : Int32}, KT Fr Ar F A → po (d_goesTill_6  n F A J x1 x2) (fun r => KT Fr Ar r.2.1 r.2.2.1) := by
  intro n
  induction n with
  | zero => intro F A J x1 x2 _ r hr; cases hr
  | succ n ih =>
    intro F A J x1 x2 h
    unfold d_goesTill_6
    repeat' (first
      | with_reducible exact po_some (by assumption)
      | (with_reducible refine kt_pf (by assumption) (by decide) ?_; intro _ _)
      | (with_reducible refine kt_st (by assumption) (by decide) ?_; intro _ _)
      | (with_reducible refine kt_pz (by assumption) (by decide) ?_; intro _ _)
      | with_reducible exact kt_d_goesTill_27 (by assumption)
      | (with_reducible refine po_call (kt_d_goesTill_27 (by assumption)) ?_; rintro ⟨_, _, _, _⟩ _; try dsimp only)
      | with_reducible exact kt_d_getsUp (by assumption)
      | (with_reducible refine po_call (kt_d_getsUp (by assumption)) ?_; rintro ⟨_, _, _, _⟩ _; try dsimp only)
      | with_reducible exact ih (by assumption)
      | (with_reducible refine po_call (ih (by assumption)) ?_; rintro ⟨_, _, _, _⟩ _; try dsimp only)
      | (intros; with_reducible exact ih (by assumption))
      | with_reducible refine po_cond (fun _ => ?_) (fun _ => ?_)
      | with_reducible refine po_bind_cond (fun _ => ?_) (fun _ => ?_)
      | with_reducible refine po_bl (fun _ _ => ?_))
theorem kt_d_goesTill {n : Nat} {F : Nat → Int32} {A : Nat → Nat → Int32} {J : Nat → Nat → Int64} {x1 : Int32}  (h : KT Fr Ar F A) : po (d_goesTill n F A J x1) (fun r => KT Fr Ar r.2.1 r.2.2.1) := by
  unfold d_goesTill
  repeat' (first
    | with_reducible exact po_some (by assumption)
    | (with_reducible refine kt_pf (by assumption) (by decide) ?_; intro _ _)
    | (with_reducible refine kt_st (by assumption) (by decide) ?_; intro _ _)
    | (with_reducible refine kt_pz (by assumption) (by decide) ?_; intro _ _)
    | with_reducible exact kt_d_fillsWays (by assumption)
    | (with_reducible refine po_call (kt_d_fillsWays (by assumption)) ?_; rintro ⟨_, _, _, _⟩ _; try dsimp only)
    | with_reducible exact kt_d_goesTill_6 (by assumption)
    | (with_reducible refine po_call (kt_d_goesTill_6 (by assumption)) ?_; rintro ⟨_, _, _, _⟩ _; try dsimp only)
    | with_reducible refine po_cond (fun _ => ?_) (fun _ => ?_)
    | with_reducible refine po_bind_cond (fun _ => ?_) (fun _ => ?_)
    | with_reducible refine po_bl (fun _ _ => ?_))
theorem kt_d_wholeNight_108 {K20 : (Nat → Int32) → (Nat → Nat → Int32) → (Nat → Nat → Int64) → Int32 → Int32 → Option (Int32 × (Nat → Int32) × (Nat → Nat → Int32) × (Nat → Nat → Int64))} {n : Nat} {F : Nat → Int32} {A : Nat → Nat → Int32} {J : Nat → Nat → Int64} {x1 : Int32} {x2 : Int32} (hK20 : ∀ (a0 : Nat → Int32) (a1 : Nat → Nat → Int32) (a2 : Nat → Nat → Int64) (a3 : Int32) (a4 : Int32), KT Fr Ar a0 a1 → po (K20 a0 a1 a2 a3 a4) (fun r => KT Fr Ar r.2.1 r.2.2.1)) (h : KT Fr Ar F A) : po (d_wholeNight_108 K20 n F A J x1 x2) (fun r => KT Fr Ar r.2.1 r.2.2.1) := by
  unfold d_wholeNight_108
  repeat' (first
    | with_reducible exact po_some (by assumption)
    | (with_reducible refine kt_pf (by assumption) (by decide) ?_; intro _ _)
    | (with_reducible refine kt_st (by assumption) (by decide) ?_; intro _ _)
    | (with_reducible refine kt_pz (by assumption) (by decide) ?_; intro _ _)
    | with_reducible exact hK20 _ _ _ _ _ (by assumption)
    | (intros; with_reducible exact hK20 _ _ _ _ _ (by assumption))
    | with_reducible refine po_cond (fun _ => ?_) (fun _ => ?_)
    | with_reducible refine po_bind_cond (fun _ => ?_) (fun _ => ?_)
    | with_reducible refine po_bl (fun _ _ => ?_))
theorem kt_d_wholeNight_20   : ∀ {n : Nat} {F : Nat → Int32} {A : Nat → Nat → Int32} {J : Nat → Nat → Int64} {x1 : Int32} {x2 : Int32}, KT Fr Ar F A → po (d_wholeNight_20  n F A J x1 x2) (fun r => KT Fr Ar r.2.1 r.2.2.1) := by
  intro n
  induction n with
  | zero => intro F A J x1 x2 _ r hr; cases hr
  | succ n ih =>
    intro F A J x1 x2 h
    unfold d_wholeNight_20
    repeat' (first
      | with_reducible exact po_some (by assumption)
      | (with_reducible refine kt_pf (by assumption) (by decide) ?_; intro _ _)
      | (with_reducible refine kt_st (by assumption) (by decide) ?_; intro _ _)
      | (with_reducible refine kt_pz (by assumption) (by decide) ?_; intro _ _)
      | with_reducible refine kt_d_wholeNight_108 ?_ (by assumption)
      | (with_reducible refine po_call (kt_d_wholeNight_108 ?_ (by assumption)) ?_)
      | with_reducible exact ih (by assumption)
      | (with_reducible refine po_call (ih (by assumption)) ?_; rintro ⟨_, _, _, _⟩ _; try dsimp only)
      | (intros; with_reducible exact ih (by assumption))
      | with_reducible refine po_cond (fun _ => ?_) (fun _ => ?_)
      | with_reducible refine po_bind_cond (fun _ => ?_) (fun _ => ?_)
      | with_reducible refine po_bl (fun _ _ => ?_))
theorem kt_d_wholeNight {n : Nat} {F : Nat → Int32} {A : Nat → Nat → Int32} {J : Nat → Nat → Int64}  (h : KT Fr Ar F A) : po (d_wholeNight n F A J) (fun r => KT Fr Ar r.2.1 r.2.2.1) := by
  unfold d_wholeNight
  repeat' (first
    | with_reducible exact po_some (by assumption)
    | (with_reducible refine kt_pf (by assumption) (by decide) ?_; intro _ _)
    | (with_reducible refine kt_st (by assumption) (by decide) ?_; intro _ _)
    | (with_reducible refine kt_pz (by assumption) (by decide) ?_; intro _ _)
    | with_reducible exact kt_d_goesTill (by assumption)
    | (with_reducible refine po_call (kt_d_goesTill (by assumption)) ?_; rintro ⟨_, _, _, _⟩ _; try dsimp only)
    | with_reducible exact kt_d_wholeNight_20 (by assumption)
    | (with_reducible refine po_call (kt_d_wholeNight_20 (by assumption)) ?_; rintro ⟨_, _, _, _⟩ _; try dsimp only)
    | with_reducible refine po_cond (fun _ => ?_) (fun _ => ?_)
    | with_reducible refine po_bind_cond (fun _ => ?_) (fun _ => ?_)
    | with_reducible refine po_bl (fun _ _ => ?_))
theorem kt_d_gain {n : Nat} {F : Nat → Int32} {A : Nat → Nat → Int32} {J : Nat → Nat → Int64}  (h : KT Fr Ar F A) : po (d_gain n F A J) (fun r => KT Fr Ar r.2.1 r.2.2.1) := by
  unfold d_gain
  repeat' (first
    | with_reducible exact po_some (by assumption)
    | (with_reducible refine kt_pf (by assumption) (by decide) ?_; intro _ _)
    | (with_reducible refine kt_st (by assumption) (by decide) ?_; intro _ _)
    | (with_reducible refine kt_pz (by assumption) (by decide) ?_; intro _ _)
    | with_reducible exact kt_d_takes (by assumption)
    | (with_reducible refine po_call (kt_d_takes (by assumption)) ?_; rintro ⟨_, _, _, _⟩ _; try dsimp only)
    | with_reducible exact kt_d_wholeNight (by assumption)
    | (with_reducible refine po_call (kt_d_wholeNight (by assumption)) ?_; rintro ⟨_, _, _, _⟩ _; try dsimp only)
    | with_reducible refine po_cond (fun _ => ?_) (fun _ => ?_)
    | with_reducible refine po_bind_cond (fun _ => ?_) (fun _ => ?_)
    | with_reducible refine po_bl (fun _ _ => ?_))
theorem kt_d_leaves_96 {n : Nat} {F : Nat → Int32} {A : Nat → Nat → Int32} {J : Nat → Nat → Int64} {s1 : Int32} {s2 : Int32}  (h : KT Fr Ar F A) : po (d_leaves_96 n F A J s1 s2) (fun r => KT Fr Ar r.2.1 r.2.2.1) := by
  unfold d_leaves_96
  repeat' (first
    | with_reducible exact po_some (by assumption)
    | (with_reducible refine kt_pf (by assumption) (by decide) ?_; intro _ _)
    | (with_reducible refine kt_st (by assumption) (by decide) ?_; intro _ _)
    | (with_reducible refine kt_pz (by assumption) (by decide) ?_; intro _ _)
    | with_reducible refine po_cond (fun _ => ?_) (fun _ => ?_)
    | with_reducible refine po_bind_cond (fun _ => ?_) (fun _ => ?_)
    | with_reducible refine po_bl (fun _ _ => ?_))
theorem kt_d_leaves_78 {n : Nat} {F : Nat → Int32} {A : Nat → Nat → Int32} {J : Nat → Nat → Int64} {x1 : Int32} {x3 : Int32} {s1 : Int32} {s2 : Int32}  (h : KT Fr Ar F A) : po (d_leaves_78 n F A J x1 x3 s1 s2) (fun r => KT Fr Ar r.2.1 r.2.2.1) := by
  unfold d_leaves_78
  repeat' (first
    | with_reducible exact po_some (by assumption)
    | (with_reducible refine kt_pf (by assumption) (by decide) ?_; intro _ _)
    | (with_reducible refine kt_st (by assumption) (by decide) ?_; intro _ _)
    | (with_reducible refine kt_pz (by assumption) (by decide) ?_; intro _ _)
    | with_reducible exact kt_d_leaves_96 (by assumption)
    | (with_reducible refine po_call (kt_d_leaves_96 (by assumption)) ?_; rintro ⟨_, _, _, _⟩ _; try dsimp only)
    | with_reducible refine po_cond (fun _ => ?_) (fun _ => ?_)
    | with_reducible refine po_bind_cond (fun _ => ?_) (fun _ => ?_)
    | with_reducible refine po_bl (fun _ _ => ?_))
theorem kt_d_leaves_60 {n : Nat} {F : Nat → Int32} {A : Nat → Nat → Int32} {J : Nat → Nat → Int64} {x1 : Int32} {x3 : Int32} {x4 : Int32}  (h : KT Fr Ar F A) : po (d_leaves_60 n F A J x1 x3 x4) (fun r => KT Fr Ar r.2.1 r.2.2.1) := by
  unfold d_leaves_60
  repeat' (first
    | with_reducible exact po_some (by assumption)
    | (with_reducible refine kt_pf (by assumption) (by decide) ?_; intro _ _)
    | (with_reducible refine kt_st (by assumption) (by decide) ?_; intro _ _)
    | (with_reducible refine kt_pz (by assumption) (by decide) ?_; intro _ _)
    | with_reducible exact kt_d_leaves_78 (by assumption)
    | (with_reducible refine po_call (kt_d_leaves_78 (by assumption)) ?_; rintro ⟨_, _, _, _⟩ _; try dsimp only)
    | with_reducible refine po_cond (fun _ => ?_) (fun _ => ?_)
    | with_reducible refine po_bind_cond (fun _ => ?_) (fun _ => ?_)
    | with_reducible refine po_bl (fun _ _ => ?_))
theorem kt_d_leaves_45 {n : Nat} {F : Nat → Int32} {A : Nat → Nat → Int32} {J : Nat → Nat → Int64} {x1 : Int32} {x3 : Int32} {x4 : Int32}  (h : KT Fr Ar F A) : po (d_leaves_45 n F A J x1 x3 x4) (fun r => KT Fr Ar r.2.1 r.2.2.1) := by
  unfold d_leaves_45
  repeat' (first
    | with_reducible exact po_some (by assumption)
    | (with_reducible refine kt_pf (by assumption) (by decide) ?_; intro _ _)
    | (with_reducible refine kt_st (by assumption) (by decide) ?_; intro _ _)
    | (with_reducible refine kt_pz (by assumption) (by decide) ?_; intro _ _)
    | with_reducible exact kt_d_leaves_60 (by assumption)
    | (with_reducible refine po_call (kt_d_leaves_60 (by assumption)) ?_; rintro ⟨_, _, _, _⟩ _; try dsimp only)
    | with_reducible refine po_cond (fun _ => ?_) (fun _ => ?_)
    | with_reducible refine po_bind_cond (fun _ => ?_) (fun _ => ?_)
    | with_reducible refine po_bl (fun _ _ => ?_))
theorem kt_d_leaves_7   : ∀ {n : Nat} {F : Nat → Int32} {A : Nat → Nat → Int32} {J : Nat → Nat → Int64} {x1 : Int32} {x3 : Int32} {x4 : Int32}, KT Fr Ar F A → po (d_leaves_7  n F A J x1 x3 x4) (fun r => KT Fr Ar r.2.1 r.2.2.1) := by
  intro n
  induction n with
  | zero => intro F A J x1 x3 x4 _ r hr; cases hr
  | succ n ih =>
    intro F A J x1 x3 x4 h
    unfold d_leaves_7
    repeat' (first
      | with_reducible exact po_some (by assumption)
      | (with_reducible refine kt_pf (by assumption) (by decide) ?_; intro _ _)
      | (with_reducible refine kt_st (by assumption) (by decide) ?_; intro _ _)
      | (with_reducible refine kt_pz (by assumption) (by decide) ?_; intro _ _)
      | with_reducible exact kt_d_leaves_45 (by assumption)
      | (with_reducible refine po_call (kt_d_leaves_45 (by assumption)) ?_; rintro ⟨_, _, _, _⟩ _; try dsimp only)
      | with_reducible exact ih (by assumption)
      | (with_reducible refine po_call (ih (by assumption)) ?_; rintro ⟨_, _, _, _⟩ _; try dsimp only)
      | (intros; with_reducible exact ih (by assumption))
      | with_reducible refine po_cond (fun _ => ?_) (fun _ => ?_)
      | with_reducible refine po_bind_cond (fun _ => ?_) (fun _ => ?_)
      | with_reducible refine po_bl (fun _ _ => ?_))
theorem kt_d_leaves {n : Nat} {F : Nat → Int32} {A : Nat → Nat → Int32} {J : Nat → Nat → Int64} {x1 : Int32} {x2 : Int32}  (h : KT Fr Ar F A) : po (d_leaves n F A J x1 x2) (fun r => KT Fr Ar r.2.1 r.2.2.1) := by
  unfold d_leaves
  repeat' (first
    | with_reducible exact po_some (by assumption)
    | (with_reducible refine kt_pf (by assumption) (by decide) ?_; intro _ _)
    | (with_reducible refine kt_st (by assumption) (by decide) ?_; intro _ _)
    | (with_reducible refine kt_pz (by assumption) (by decide) ?_; intro _ _)
    | with_reducible exact kt_d_leaves_7 (by assumption)
    | (with_reducible refine po_call (kt_d_leaves_7 (by assumption)) ?_; rintro ⟨_, _, _, _⟩ _; try dsimp only)
    | with_reducible refine po_cond (fun _ => ?_) (fun _ => ?_)
    | with_reducible refine po_bind_cond (fun _ => ?_) (fun _ => ?_)
    | with_reducible refine po_bl (fun _ _ => ?_))
theorem kt_d_gainBy {n : Nat} {F : Nat → Int32} {A : Nat → Nat → Int32} {J : Nat → Nat → Int64} {x1 : Int32} {x2 : Int32}  (h : KT Fr Ar F A) : po (d_gainBy n F A J x1 x2) (fun r => KT Fr Ar r.2.1 r.2.2.1) := by
  unfold d_gainBy
  repeat' (first
    | with_reducible exact po_some (by assumption)
    | (with_reducible refine kt_pf (by assumption) (by decide) ?_; intro _ _)
    | (with_reducible refine kt_st (by assumption) (by decide) ?_; intro _ _)
    | (with_reducible refine kt_pz (by assumption) (by decide) ?_; intro _ _)
    | with_reducible exact kt_d_takes (by assumption)
    | (with_reducible refine po_call (kt_d_takes (by assumption)) ?_; rintro ⟨_, _, _, _⟩ _; try dsimp only)
    | with_reducible exact kt_d_leaves (by assumption)
    | (with_reducible refine po_call (kt_d_leaves (by assumption)) ?_; rintro ⟨_, _, _, _⟩ _; try dsimp only)
    | with_reducible exact kt_d_wholeNight (by assumption)
    | (with_reducible refine po_call (kt_d_wholeNight (by assumption)) ?_; rintro ⟨_, _, _, _⟩ _; try dsimp only)
    | with_reducible refine po_cond (fun _ => ?_) (fun _ => ?_)
    | with_reducible refine po_bind_cond (fun _ => ?_) (fun _ => ?_)
    | with_reducible refine po_bl (fun _ _ => ?_))
theorem kt_d_bestOption_50 {K14 : (Nat → Int32) → (Nat → Nat → Int32) → (Nat → Nat → Int64) → Int32 → Int32 → Int32 → Option (Int32 × (Nat → Int32) × (Nat → Nat → Int32) × (Nat → Nat → Int64))} {n : Nat} {F : Nat → Int32} {A : Nat → Nat → Int32} {J : Nat → Nat → Int64} {x1 : Int32} {x2 : Int32} {x3 : Int32} (hK14 : ∀ (a0 : Nat → Int32) (a1 : Nat → Nat → Int32) (a2 : Nat → Nat → Int64) (a3 : Int32) (a4 : Int32) (a5 : Int32), KT Fr Ar a0 a1 → po (K14 a0 a1 a2 a3 a4 a5) (fun r => KT Fr Ar r.2.1 r.2.2.1)) (h : KT Fr Ar F A) : po (d_bestOption_50 K14 n F A J x1 x2 x3) (fun r => KT Fr Ar r.2.1 r.2.2.1) := by
  unfold d_bestOption_50
  repeat' (first
    | with_reducible exact po_some (by assumption)
    | (with_reducible refine kt_pf (by assumption) (by decide) ?_; intro _ _)
    | (with_reducible refine kt_st (by assumption) (by decide) ?_; intro _ _)
    | (with_reducible refine kt_pz (by assumption) (by decide) ?_; intro _ _)
    | with_reducible exact hK14 _ _ _ _ _ _ (by assumption)
    | (intros; with_reducible exact hK14 _ _ _ _ _ _ (by assumption))
    | with_reducible refine po_cond (fun _ => ?_) (fun _ => ?_)
    | with_reducible refine po_bind_cond (fun _ => ?_) (fun _ => ?_)
    | with_reducible refine po_bl (fun _ _ => ?_))
theorem kt_d_bestOption_14   : ∀ {n : Nat} {F : Nat → Int32} {A : Nat → Nat → Int32} {J : Nat → Nat → Int64} {x1 : Int32} {x2 : Int32} {x3 : Int32}, KT Fr Ar F A → po (d_bestOption_14  n F A J x1 x2 x3) (fun r => KT Fr Ar r.2.1 r.2.2.1) := by
  intro n
  induction n with
  | zero => intro F A J x1 x2 x3 _ r hr; cases hr
  | succ n ih =>
    intro F A J x1 x2 x3 h
    unfold d_bestOption_14
    repeat' (first
      | with_reducible exact po_some (by assumption)
      | (with_reducible refine kt_pf (by assumption) (by decide) ?_; intro _ _)
      | (with_reducible refine kt_st (by assumption) (by decide) ?_; intro _ _)
      | (with_reducible refine kt_pz (by assumption) (by decide) ?_; intro _ _)
      | with_reducible exact kt_d_gainBy (by assumption)
      | (with_reducible refine po_call (kt_d_gainBy (by assumption)) ?_; rintro ⟨_, _, _, _⟩ _; try dsimp only)
      | with_reducible refine kt_d_bestOption_50 ?_ (by assumption)
      | (with_reducible refine po_call (kt_d_bestOption_50 ?_ (by assumption)) ?_)
      | with_reducible exact ih (by assumption)
      | (with_reducible refine po_call (ih (by assumption)) ?_; rintro ⟨_, _, _, _⟩ _; try dsimp only)
      | (intros; with_reducible exact ih (by assumption))
      | with_reducible refine po_cond (fun _ => ?_) (fun _ => ?_)
      | with_reducible refine po_bind_cond (fun _ => ?_) (fun _ => ?_)
      | with_reducible refine po_bl (fun _ _ => ?_))
theorem kt_d_bestOption {n : Nat} {F : Nat → Int32} {A : Nat → Nat → Int32} {J : Nat → Nat → Int64} {x1 : Int32}  (h : KT Fr Ar F A) : po (d_bestOption n F A J x1) (fun r => KT Fr Ar r.2.1 r.2.2.1) := by
  unfold d_bestOption
  repeat' (first
    | with_reducible exact po_some (by assumption)
    | (with_reducible refine kt_pf (by assumption) (by decide) ?_; intro _ _)
    | (with_reducible refine kt_st (by assumption) (by decide) ?_; intro _ _)
    | (with_reducible refine kt_pz (by assumption) (by decide) ?_; intro _ _)
    | with_reducible exact kt_d_gainBy (by assumption)
    | (with_reducible refine po_call (kt_d_gainBy (by assumption)) ?_; rintro ⟨_, _, _, _⟩ _; try dsimp only)
    | with_reducible exact kt_d_bestOption_14 (by assumption)
    | (with_reducible refine po_call (kt_d_bestOption_14 (by assumption)) ?_; rintro ⟨_, _, _, _⟩ _; try dsimp only)
    | with_reducible refine po_cond (fun _ => ?_) (fun _ => ?_)
    | with_reducible refine po_bind_cond (fun _ => ?_) (fun _ => ?_)
    | with_reducible refine po_bl (fun _ _ => ?_))
theorem kt_d_codeOf {n : Nat} {F : Nat → Int32} {A : Nat → Nat → Int32} {J : Nat → Nat → Int64} {x1 : Int32} {x2 : Int32}  (h : KT Fr Ar F A) : po (d_codeOf n F A J x1 x2) (fun r => KT Fr Ar r.2.1 r.2.2.1) := by
  unfold d_codeOf
  repeat' (first
    | with_reducible exact po_some (by assumption)
    | (with_reducible refine kt_pf (by assumption) (by decide) ?_; intro _ _)
    | (with_reducible refine kt_st (by assumption) (by decide) ?_; intro _ _)
    | (with_reducible refine kt_pz (by assumption) (by decide) ?_; intro _ _)
    | with_reducible exact kt_d_leaves (by assumption)
    | (with_reducible refine po_call (kt_d_leaves (by assumption)) ?_; rintro ⟨_, _, _, _⟩ _; try dsimp only)
    | with_reducible refine po_cond (fun _ => ?_) (fun _ => ?_)
    | with_reducible refine po_bind_cond (fun _ => ?_) (fun _ => ?_)
    | with_reducible refine po_bl (fun _ _ => ?_))
theorem kt_d_best {n : Nat} {F : Nat → Int32} {A : Nat → Nat → Int32} {J : Nat → Nat → Int64} {x1 : Int32} {x2 : Int32}  (h : KT Fr Ar F A) : po (d_best n F A J x1 x2) (fun r => KT Fr Ar r.2.1 r.2.2.1) := by
  unfold d_best
  repeat' (first
    | with_reducible exact po_some (by assumption)
    | (with_reducible refine kt_pf (by assumption) (by decide) ?_; intro _ _)
    | (with_reducible refine kt_st (by assumption) (by decide) ?_; intro _ _)
    | (with_reducible refine kt_pz (by assumption) (by decide) ?_; intro _ _)
    | with_reducible exact kt_d_bestOption (by assumption)
    | (with_reducible refine po_call (kt_d_bestOption (by assumption)) ?_; rintro ⟨_, _, _, _⟩ _; try dsimp only)
    | with_reducible exact kt_d_codeOf (by assumption)
    | (with_reducible refine po_call (kt_d_codeOf (by assumption)) ?_; rintro ⟨_, _, _, _⟩ _; try dsimp only)
    | with_reducible refine po_cond (fun _ => ?_) (fun _ => ?_)
    | with_reducible refine po_bind_cond (fun _ => ?_) (fun _ => ?_)
    | with_reducible refine po_bl (fun _ _ => ?_))
theorem kt_d_bestOfTwo_118 {K44 : (Nat → Int32) → (Nat → Nat → Int32) → (Nat → Nat → Int64) → Int32 → Int32 → Int32 → Int32 → Int32 → Int32 → Int32 → Option (Int32 × (Nat → Int32) × (Nat → Nat → Int32) × (Nat → Nat → Int64))} {K56 : (Nat → Int32) → (Nat → Nat → Int32) → (Nat → Nat → Int64) → Int32 → Int32 → Int32 → Int32 → Int32 → Int32 → Int32 → Int32 → Option (Int32 × (Nat → Int32) × (Nat → Nat → Int32) × (Nat → Nat → Int64))} {n : Nat} {F : Nat → Int32} {A : Nat → Nat → Int32} {J : Nat → Nat → Int64} {x1 : Int32} {x2 : Int32} {x3 : Int32} {x4 : Int32} {x5 : Int32} {x6 : Int32} {x7 : Int32} {x8 : Int32} (hK44 : ∀ (a0 : Nat → Int32) (a1 : Nat → Nat → Int32) (a2 : Nat → Nat → Int64) (a3 : Int32) (a4 : Int32) (a5 : Int32) (a6 : Int32) (a7 : Int32) (a8 : Int32) (a9 : Int32), KT Fr Ar a0 a1 → po (K44 a0 a1 a2 a3 a4 a5 a6 a7 a8 a9) (fun r => KT Fr Ar r.2.1 r.2.2.1)) (hK56 : ∀ (a0 : Nat → Int32) (a1 : Nat → Nat → Int32) (a2 : Nat → Nat → Int64) (a3 : Int32) (a4 : Int32) (a5 : Int32) (a6 : Int32) (a7 : Int32) (a8 : Int32) (a9 : Int32) (a10 : Int32), KT Fr Ar a0 a1 → po (K56 a0 a1 a2 a3 a4 a5 a6 a7 a8 a9 a10) (fun r => KT Fr Ar r.2.1 r.2.2.1)) (h : KT Fr Ar F A) : po (d_bestOfTwo_118 K44 K56 n F A J x1 x2 x3 x4 x5 x6 x7 x8) (fun r => KT Fr Ar r.2.1 r.2.2.1) := by
  unfold d_bestOfTwo_118
  repeat' (first
    | with_reducible exact po_some (by assumption)
    | (with_reducible refine kt_pf (by assumption) (by decide) ?_; intro _ _)
    | (with_reducible refine kt_st (by assumption) (by decide) ?_; intro _ _)
    | (with_reducible refine kt_pz (by assumption) (by decide) ?_; intro _ _)
    | with_reducible exact hK44 _ _ _ _ _ _ _ _ _ _ (by assumption)
    | (intros; with_reducible exact hK44 _ _ _ _ _ _ _ _ _ _ (by assumption))
    | with_reducible exact hK56 _ _ _ _ _ _ _ _ _ _ _ (by assumption)
    | (intros; with_reducible exact hK56 _ _ _ _ _ _ _ _ _ _ _ (by assumption))
    | with_reducible refine po_cond (fun _ => ?_) (fun _ => ?_)
    | with_reducible refine po_bind_cond (fun _ => ?_) (fun _ => ?_)
    | with_reducible refine po_bl (fun _ _ => ?_))
theorem kt_d_bestOfTwo_106 {K44 : (Nat → Int32) → (Nat → Nat → Int32) → (Nat → Nat → Int64) → Int32 → Int32 → Int32 → Int32 → Int32 → Int32 → Int32 → Option (Int32 × (Nat → Int32) × (Nat → Nat → Int32) × (Nat → Nat → Int64))} {K56 : (Nat → Int32) → (Nat → Nat → Int32) → (Nat → Nat → Int64) → Int32 → Int32 → Int32 → Int32 → Int32 → Int32 → Int32 → Int32 → Option (Int32 × (Nat → Int32) × (Nat → Nat → Int32) × (Nat → Nat → Int64))} {n : Nat} {F : Nat → Int32} {A : Nat → Nat → Int32} {J : Nat → Nat → Int64} {x1 : Int32} {x2 : Int32} {x3 : Int32} {x7 : Int32} {x8 : Int32} {x9 : Int32} (hK44 : ∀ (a0 : Nat → Int32) (a1 : Nat → Nat → Int32) (a2 : Nat → Nat → Int64) (a3 : Int32) (a4 : Int32) (a5 : Int32) (a6 : Int32) (a7 : Int32) (a8 : Int32) (a9 : Int32), KT Fr Ar a0 a1 → po (K44 a0 a1 a2 a3 a4 a5 a6 a7 a8 a9) (fun r => KT Fr Ar r.2.1 r.2.2.1)) (hK56 : ∀ (a0 : Nat → Int32) (a1 : Nat → Nat → Int32) (a2 : Nat → Nat → Int64) (a3 : Int32) (a4 : Int32) (a5 : Int32) (a6 : Int32) (a7 : Int32) (a8 : Int32) (a9 : Int32) (a10 : Int32), KT Fr Ar a0 a1 → po (K56 a0 a1 a2 a3 a4 a5 a6 a7 a8 a9 a10) (fun r => KT Fr Ar r.2.1 r.2.2.1)) (h : KT Fr Ar F A) : po (d_bestOfTwo_106 K44 K56 n F A J x1 x2 x3 x7 x8 x9) (fun r => KT Fr Ar r.2.1 r.2.2.1) := by
  unfold d_bestOfTwo_106
  repeat' (first
    | with_reducible exact po_some (by assumption)
    | (with_reducible refine kt_pf (by assumption) (by decide) ?_; intro _ _)
    | (with_reducible refine kt_st (by assumption) (by decide) ?_; intro _ _)
    | (with_reducible refine kt_pz (by assumption) (by decide) ?_; intro _ _)
    | with_reducible refine kt_d_bestOfTwo_118 ?_ ?_ (by assumption)
    | (with_reducible refine po_call (kt_d_bestOfTwo_118 ?_ ?_ (by assumption)) ?_)
    | with_reducible exact hK44 _ _ _ _ _ _ _ _ _ _ (by assumption)
    | (intros; with_reducible exact hK44 _ _ _ _ _ _ _ _ _ _ (by assumption))
    | with_reducible exact hK56 _ _ _ _ _ _ _ _ _ _ _ (by assumption)
    | (intros; with_reducible exact hK56 _ _ _ _ _ _ _ _ _ _ _ (by assumption))
    | with_reducible refine po_cond (fun _ => ?_) (fun _ => ?_)
    | with_reducible refine po_bind_cond (fun _ => ?_) (fun _ => ?_)
    | with_reducible refine po_bl (fun _ _ => ?_))
theorem kt_d_bestOfTwo_56 {K44 : (Nat → Int32) → (Nat → Nat → Int32) → (Nat → Nat → Int64) → Int32 → Int32 → Int32 → Int32 → Int32 → Int32 → Int32 → Option (Int32 × (Nat → Int32) × (Nat → Nat → Int32) × (Nat → Nat → Int64))} (hK44 : ∀ (a0 : Nat → Int32) (a1 : Nat → Nat → Int32) (a2 : Nat → Nat → Int64) (a3 : Int32) (a4 : Int32) (a5 : Int32) (a6 : Int32) (a7 : Int32) (a8 : Int32) (a9 : Int32), KT Fr Ar a0 a1 → po (K44 a0 a1 a2 a3 a4 a5 a6 a7 a8 a9) (fun r => KT Fr Ar r.2.1 r.2.2.1)) : ∀ {n : Nat} {F : Nat → Int32} {A : Nat → Nat → Int32} {J : Nat → Nat → Int64} {x1 : Int32} {x2 : Int32} {x3 : Int32} {x4 : Int32} {x5 : Int32} {x6 : Int32} {x7 : Int32} {x8 : Int32}, KT Fr Ar F A → po (d_bestOfTwo_56 K44 n F A J x1 x2 x3 x4 x5 x6 x7 x8) (fun r => KT Fr Ar r.2.1 r.2.2.1) := by
  intro n
  induction n with
  | zero => intro F A J x1 x2 x3 x4 x5 x6 x7 x8 _ r hr; cases hr
  | succ n ih =>
    intro F A J x1 x2 x3 x4 x5 x6 x7 x8 h
    unfold d_bestOfTwo_56
    repeat' (first
      | with_reducible exact po_some (by assumption)
      | (with_reducible refine kt_pf (by assumption) (by decide) ?_; intro _ _)
      | (with_reducible refine kt_st (by assumption) (by decide) ?_; intro _ _)
      | (with_reducible refine kt_pz (by assumption) (by decide) ?_; intro _ _)
      | with_reducible exact kt_d_takes (by assumption)
      | (with_reducible refine po_call (kt_d_takes (by assumption)) ?_; rintro ⟨_, _, _, _⟩ _; try dsimp only)
      | with_reducible exact kt_d_leaves (by assumption)
      | (with_reducible refine po_call (kt_d_leaves (by assumption)) ?_; rintro ⟨_, _, _, _⟩ _; try dsimp only)
      | with_reducible exact kt_d_wholeNight (by assumption)
      | (with_reducible refine po_call (kt_d_wholeNight (by assumption)) ?_; rintro ⟨_, _, _, _⟩ _; try dsimp only)
      | with_reducible refine kt_d_bestOfTwo_106 ?_ ?_ (by assumption)
      | (with_reducible refine po_call (kt_d_bestOfTwo_106 ?_ ?_ (by assumption)) ?_)
      | with_reducible refine kt_d_bestOfTwo_118 ?_ ?_ (by assumption)
      | (with_reducible refine po_call (kt_d_bestOfTwo_118 ?_ ?_ (by assumption)) ?_)
      | with_reducible exact hK44 _ _ _ _ _ _ _ _ _ _ (by assumption)
      | (intros; with_reducible exact hK44 _ _ _ _ _ _ _ _ _ _ (by assumption))
      | with_reducible exact ih (by assumption)
      | (with_reducible refine po_call (ih (by assumption)) ?_; rintro ⟨_, _, _, _⟩ _; try dsimp only)
      | (intros; with_reducible exact ih (by assumption))
      | with_reducible refine po_cond (fun _ => ?_) (fun _ => ?_)
      | with_reducible refine po_bind_cond (fun _ => ?_) (fun _ => ?_)
      | with_reducible refine po_bl (fun _ _ => ?_))
theorem kt_d_bestOfTwo_44   : ∀ {n : Nat} {F : Nat → Int32} {A : Nat → Nat → Int32} {J : Nat → Nat → Int64} {x1 : Int32} {x2 : Int32} {x3 : Int32} {x4 : Int32} {x5 : Int32} {x6 : Int32} {x7 : Int32}, KT Fr Ar F A → po (d_bestOfTwo_44  n F A J x1 x2 x3 x4 x5 x6 x7) (fun r => KT Fr Ar r.2.1 r.2.2.1) := by
  intro n
  induction n with
  | zero => intro F A J x1 x2 x3 x4 x5 x6 x7 _ r hr; cases hr
  | succ n ih =>
    intro F A J x1 x2 x3 x4 x5 x6 x7 h
    unfold d_bestOfTwo_44
    repeat' (first
      | with_reducible exact po_some (by assumption)
      | (with_reducible refine kt_pf (by assumption) (by decide) ?_; intro _ _)
      | (with_reducible refine kt_st (by assumption) (by decide) ?_; intro _ _)
      | (with_reducible refine kt_pz (by assumption) (by decide) ?_; intro _ _)
      | with_reducible exact kt_d_codeOf (by assumption)
      | (with_reducible refine po_call (kt_d_codeOf (by assumption)) ?_; rintro ⟨_, _, _, _⟩ _; try dsimp only)
      | with_reducible refine kt_d_bestOfTwo_56 ?_ (by assumption)
      | (with_reducible refine po_call (kt_d_bestOfTwo_56 ?_ (by assumption)) ?_)
      | with_reducible exact ih (by assumption)
      | (with_reducible refine po_call (ih (by assumption)) ?_; rintro ⟨_, _, _, _⟩ _; try dsimp only)
      | (intros; with_reducible exact ih (by assumption))
      | with_reducible refine po_cond (fun _ => ?_) (fun _ => ?_)
      | with_reducible refine po_bind_cond (fun _ => ?_) (fun _ => ?_)
      | with_reducible refine po_bl (fun _ _ => ?_))
theorem kt_d_bestOfTwo {n : Nat} {F : Nat → Int32} {A : Nat → Nat → Int32} {J : Nat → Nat → Int64} {x1 : Int32} {x2 : Int32} {x3 : Int32}  (h : KT Fr Ar F A) : po (d_bestOfTwo n F A J x1 x2 x3) (fun r => KT Fr Ar r.2.1 r.2.2.1) := by
  unfold d_bestOfTwo
  repeat' (first
    | with_reducible exact po_some (by assumption)
    | (with_reducible refine kt_pf (by assumption) (by decide) ?_; intro _ _)
    | (with_reducible refine kt_st (by assumption) (by decide) ?_; intro _ _)
    | (with_reducible refine kt_pz (by assumption) (by decide) ?_; intro _ _)
    | with_reducible exact kt_d_bestOfTwo_44 (by assumption)
    | (with_reducible refine po_call (kt_d_bestOfTwo_44 (by assumption)) ?_; rintro ⟨_, _, _, _⟩ _; try dsimp only)
    | with_reducible refine po_cond (fun _ => ?_) (fun _ => ?_)
    | with_reducible refine po_bind_cond (fun _ => ?_) (fun _ => ?_)
    | with_reducible refine po_bl (fun _ _ => ?_))
theorem kt_d_hire {n : Nat} {F : Nat → Int32} {A : Nat → Nat → Int32} {J : Nat → Nat → Int64} {x1 : Int32}  (h : KT Fr Ar F A) : po (d_hire n F A J x1) (fun r => KT Fr Ar r.2.1 r.2.2.1) := by
  unfold d_hire
  repeat' (first
    | with_reducible exact po_some (by assumption)
    | (with_reducible refine kt_pf (by assumption) (by decide) ?_; intro _ _)
    | (with_reducible refine kt_st (by assumption) (by decide) ?_; intro _ _)
    | (with_reducible refine kt_pz (by assumption) (by decide) ?_; intro _ _)
    | with_reducible exact kt_d_bestOption (by assumption)
    | (with_reducible refine po_call (kt_d_bestOption (by assumption)) ?_; rintro ⟨_, _, _, _⟩ _; try dsimp only)
    | with_reducible exact kt_d_gainBy (by assumption)
    | (with_reducible refine po_call (kt_d_gainBy (by assumption)) ?_; rintro ⟨_, _, _, _⟩ _; try dsimp only)
    | with_reducible refine po_cond (fun _ => ?_) (fun _ => ?_)
    | with_reducible refine po_bind_cond (fun _ => ?_) (fun _ => ?_)
    | with_reducible refine po_bl (fun _ _ => ?_))
theorem kt_d_hide_136 {K39 : (Nat → Int32) → (Nat → Nat → Int32) → (Nat → Nat → Int64) → Int32 → Int32 → Int32 → Int32 → Int32 → Option (Int32 × (Nat → Int32) × (Nat → Nat → Int32) × (Nat → Nat → Int64))} {n : Nat} {F : Nat → Int32} {A : Nat → Nat → Int32} {J : Nat → Nat → Int64} {x1 : Int32} {x2 : Int32} {x3 : Int32} {x4 : Int32} {x5 : Int32} (hK39 : ∀ (a0 : Nat → Int32) (a1 : Nat → Nat → Int32) (a2 : Nat → Nat → Int64) (a3 : Int32) (a4 : Int32) (a5 : Int32) (a6 : Int32) (a7 : Int32), KT Fr Ar a0 a1 → po (K39 a0 a1 a2 a3 a4 a5 a6 a7) (fun r => KT Fr Ar r.2.1 r.2.2.1)) (h : KT Fr Ar F A) : po (d_hide_136 K39 n F A J x1 x2 x3 x4 x5) (fun r => KT Fr Ar r.2.1 r.2.2.1) := by
  unfold d_hide_136
  repeat' (first
    | with_reducible exact po_some (by assumption)
    | (with_reducible refine kt_pf (by assumption) (by decide) ?_; intro _ _)
    | (with_reducible refine kt_st (by assumption) (by decide) ?_; intro _ _)
    | (with_reducible refine kt_pz (by assumption) (by decide) ?_; intro _ _)
    | with_reducible exact hK39 _ _ _ _ _ _ _ _ (by assumption)
    | (intros; with_reducible exact hK39 _ _ _ _ _ _ _ _ (by assumption))
    | with_reducible refine po_cond (fun _ => ?_) (fun _ => ?_)
    | with_reducible refine po_bind_cond (fun _ => ?_) (fun _ => ?_)
    | with_reducible refine po_bl (fun _ _ => ?_))
theorem kt_d_hide_129 {K39 : (Nat → Int32) → (Nat → Nat → Int32) → (Nat → Nat → Int64) → Int32 → Int32 → Int32 → Int32 → Int32 → Option (Int32 × (Nat → Int32) × (Nat → Nat → Int32) × (Nat → Nat → Int64))} {n : Nat} {F : Nat → Int32} {A : Nat → Nat → Int32} {J : Nat → Nat → Int64} {x1 : Int32} {x2 : Int32} {x5 : Int32} {x6 : Int32} {x7 : Int32} (hK39 : ∀ (a0 : Nat → Int32) (a1 : Nat → Nat → Int32) (a2 : Nat → Nat → Int64) (a3 : Int32) (a4 : Int32) (a5 : Int32) (a6 : Int32) (a7 : Int32), KT Fr Ar a0 a1 → po (K39 a0 a1 a2 a3 a4 a5 a6 a7) (fun r => KT Fr Ar r.2.1 r.2.2.1)) (h : KT Fr Ar F A) : po (d_hide_129 K39 n F A J x1 x2 x5 x6 x7) (fun r => KT Fr Ar r.2.1 r.2.2.1) := by
  unfold d_hide_129
  repeat' (first
    | with_reducible exact po_some (by assumption)
    | (with_reducible refine kt_pf (by assumption) (by decide) ?_; intro _ _)
    | (with_reducible refine kt_st (by assumption) (by decide) ?_; intro _ _)
    | (with_reducible refine kt_pz (by assumption) (by decide) ?_; intro _ _)
    | with_reducible refine kt_d_hide_136 ?_ (by assumption)
    | (with_reducible refine po_call (kt_d_hide_136 ?_ (by assumption)) ?_)
    | with_reducible exact hK39 _ _ _ _ _ _ _ _ (by assumption)
    | (intros; with_reducible exact hK39 _ _ _ _ _ _ _ _ (by assumption))
    | with_reducible refine po_cond (fun _ => ?_) (fun _ => ?_)
    | with_reducible refine po_bind_cond (fun _ => ?_) (fun _ => ?_)
    | with_reducible refine po_bl (fun _ _ => ?_))
theorem kt_d_hide_92 {K39 : (Nat → Int32) → (Nat → Nat → Int32) → (Nat → Nat → Int64) → Int32 → Int32 → Int32 → Int32 → Int32 → Option (Int32 × (Nat → Int32) × (Nat → Nat → Int32) × (Nat → Nat → Int64))} {n : Nat} {F : Nat → Int32} {A : Nat → Nat → Int32} {J : Nat → Nat → Int64} {x1 : Int32} {x2 : Int32} {x3 : Int32} {x4 : Int32} {x5 : Int32} {s0 : Int32} (hK39 : ∀ (a0 : Nat → Int32) (a1 : Nat → Nat → Int32) (a2 : Nat → Nat → Int64) (a3 : Int32) (a4 : Int32) (a5 : Int32) (a6 : Int32) (a7 : Int32), KT Fr Ar a0 a1 → po (K39 a0 a1 a2 a3 a4 a5 a6 a7) (fun r => KT Fr Ar r.2.1 r.2.2.1)) (h : KT Fr Ar F A) : po (d_hide_92 K39 n F A J x1 x2 x3 x4 x5 s0) (fun r => KT Fr Ar r.2.1 r.2.2.1) := by
  unfold d_hide_92
  repeat' (first
    | with_reducible exact po_some (by assumption)
    | (with_reducible refine kt_pf (by assumption) (by decide) ?_; intro _ _)
    | (with_reducible refine kt_st (by assumption) (by decide) ?_; intro _ _)
    | (with_reducible refine kt_pz (by assumption) (by decide) ?_; intro _ _)
    | with_reducible exact kt_d_takes (by assumption)
    | (with_reducible refine po_call (kt_d_takes (by assumption)) ?_; rintro ⟨_, _, _, _⟩ _; try dsimp only)
    | with_reducible exact kt_d_wholeNight (by assumption)
    | (with_reducible refine po_call (kt_d_wholeNight (by assumption)) ?_; rintro ⟨_, _, _, _⟩ _; try dsimp only)
    | with_reducible refine kt_d_hide_129 ?_ (by assumption)
    | (with_reducible refine po_call (kt_d_hide_129 ?_ (by assumption)) ?_)
    | with_reducible refine kt_d_hide_136 ?_ (by assumption)
    | (with_reducible refine po_call (kt_d_hide_136 ?_ (by assumption)) ?_)
    | with_reducible exact hK39 _ _ _ _ _ _ _ _ (by assumption)
    | (intros; with_reducible exact hK39 _ _ _ _ _ _ _ _ (by assumption))
    | with_reducible refine po_cond (fun _ => ?_) (fun _ => ?_)
    | with_reducible refine po_bind_cond (fun _ => ?_) (fun _ => ?_)
    | with_reducible refine po_bl (fun _ _ => ?_))
theorem kt_d_hide_39   : ∀ {n : Nat} {F : Nat → Int32} {A : Nat → Nat → Int32} {J : Nat → Nat → Int64} {x1 : Int32} {x2 : Int32} {x3 : Int32} {x4 : Int32} {x5 : Int32}, KT Fr Ar F A → po (d_hide_39  n F A J x1 x2 x3 x4 x5) (fun r => KT Fr Ar r.2.1 r.2.2.1) := by
  intro n
  induction n with
  | zero => intro F A J x1 x2 x3 x4 x5 _ r hr; cases hr
  | succ n ih =>
    intro F A J x1 x2 x3 x4 x5 h
    unfold d_hide_39
    repeat' (first
      | with_reducible exact po_some (by assumption)
      | (with_reducible refine kt_pf (by assumption) (by decide) ?_; intro _ _)
      | (with_reducible refine kt_st (by assumption) (by decide) ?_; intro _ _)
      | (with_reducible refine kt_pz (by assumption) (by decide) ?_; intro _ _)
      | with_reducible refine kt_d_hide_92 ?_ (by assumption)
      | (with_reducible refine po_call (kt_d_hide_92 ?_ (by assumption)) ?_)
      | with_reducible exact ih (by assumption)
      | (with_reducible refine po_call (ih (by assumption)) ?_; rintro ⟨_, _, _, _⟩ _; try dsimp only)
      | (intros; with_reducible exact ih (by assumption))
      | with_reducible refine po_cond (fun _ => ?_) (fun _ => ?_)
      | with_reducible refine po_bind_cond (fun _ => ?_) (fun _ => ?_)
      | with_reducible refine po_bl (fun _ _ => ?_))
theorem kt_d_hide {n : Nat} {F : Nat → Int32} {A : Nat → Nat → Int32} {J : Nat → Nat → Int64} {x1 : Int32} {x2 : Int32}  (h : KT Fr Ar F A) : po (d_hide n F A J x1 x2) (fun r => KT Fr Ar r.2.1 r.2.2.1) := by
  unfold d_hide
  repeat' (first
    | with_reducible exact po_some (by assumption)
    | (with_reducible refine kt_pf (by assumption) (by decide) ?_; intro _ _)
    | (with_reducible refine kt_st (by assumption) (by decide) ?_; intro _ _)
    | (with_reducible refine kt_pz (by assumption) (by decide) ?_; intro _ _)
    | with_reducible exact kt_d_hide_39 (by assumption)
    | (with_reducible refine po_call (kt_d_hide_39 (by assumption)) ?_; rintro ⟨_, _, _, _⟩ _; try dsimp only)
    | with_reducible refine po_cond (fun _ => ?_) (fun _ => ?_)
    | with_reducible refine po_bind_cond (fun _ => ?_) (fun _ => ?_)
    | with_reducible refine po_bl (fun _ _ => ?_))
theorem kt_d_bars_90 {K18 : (Nat → Int32) → (Nat → Nat → Int32) → (Nat → Nat → Int64) → Int32 → Int32 → Int32 → Int32 → Option (Int32 × (Nat → Int32) × (Nat → Nat → Int32) × (Nat → Nat → Int64))} {n : Nat} {F : Nat → Int32} {A : Nat → Nat → Int32} {J : Nat → Nat → Int64} {x1 : Int32} {x2 : Int32} {x3 : Int32} {x4 : Int32} (hK18 : ∀ (a0 : Nat → Int32) (a1 : Nat → Nat → Int32) (a2 : Nat → Nat → Int64) (a3 : Int32) (a4 : Int32) (a5 : Int32) (a6 : Int32), KT Fr Ar a0 a1 → po (K18 a0 a1 a2 a3 a4 a5 a6) (fun r => KT Fr Ar r.2.1 r.2.2.1)) (h : KT Fr Ar F A) : po (d_bars_90 K18 n F A J x1 x2 x3 x4) (fun r => KT Fr Ar r.2.1 r.2.2.1) := by
  unfold d_bars_90
  repeat' (first
    | with_reducible exact po_some (by assumption)
    | (with_reducible refine kt_pf (by assumption) (by decide) ?_; intro _ _)
    | (with_reducible refine kt_st (by assumption) (by decide) ?_; intro _ _)
    | (with_reducible refine kt_pz (by assumption) (by decide) ?_; intro _ _)
    | with_reducible exact hK18 _ _ _ _ _ _ _ (by assumption)
    | (intros; with_reducible exact hK18 _ _ _ _ _ _ _ (by assumption))
    | with_reducible refine po_cond (fun _ => ?_) (fun _ => ?_)
    | with_reducible refine po_bind_cond (fun _ => ?_) (fun _ => ?_)
    | with_reducible refine po_bl (fun _ _ => ?_))
theorem kt_d_bars_84 {K18 : (Nat → Int32) → (Nat → Nat → Int32) → (Nat → Nat → Int64) → Int32 → Int32 → Int32 → Int32 → Option (Int32 × (Nat → Int32) × (Nat → Nat → Int32) × (Nat → Nat → Int64))} {n : Nat} {F : Nat → Int32} {A : Nat → Nat → Int32} {J : Nat → Nat → Int64} {x1 : Int32} {x4 : Int32} {x5 : Int32} (hK18 : ∀ (a0 : Nat → Int32) (a1 : Nat → Nat → Int32) (a2 : Nat → Nat → Int64) (a3 : Int32) (a4 : Int32) (a5 : Int32) (a6 : Int32), KT Fr Ar a0 a1 → po (K18 a0 a1 a2 a3 a4 a5 a6) (fun r => KT Fr Ar r.2.1 r.2.2.1)) (h : KT Fr Ar F A) : po (d_bars_84 K18 n F A J x1 x4 x5) (fun r => KT Fr Ar r.2.1 r.2.2.1) := by
  unfold d_bars_84
  repeat' (first
    | with_reducible exact po_some (by assumption)
    | (with_reducible refine kt_pf (by assumption) (by decide) ?_; intro _ _)
    | (with_reducible refine kt_st (by assumption) (by decide) ?_; intro _ _)
    | (with_reducible refine kt_pz (by assumption) (by decide) ?_; intro _ _)
    | with_reducible refine kt_d_bars_90 ?_ (by assumption)
    | (with_reducible refine po_call (kt_d_bars_90 ?_ (by assumption)) ?_)
    | with_reducible exact hK18 _ _ _ _ _ _ _ (by assumption)
    | (intros; with_reducible exact hK18 _ _ _ _ _ _ _ (by assumption))
    | with_reducible refine po_cond (fun _ => ?_) (fun _ => ?_)
    | with_reducible refine po_bind_cond (fun _ => ?_) (fun _ => ?_)
    | with_reducible refine po_bl (fun _ _ => ?_))
theorem kt_d_bars_18   : ∀ {n : Nat} {F : Nat → Int32} {A : Nat → Nat → Int32} {J : Nat → Nat → Int64} {x1 : Int32} {x2 : Int32} {x3 : Int32} {x4 : Int32}, KT Fr Ar F A → po (d_bars_18  n F A J x1 x2 x3 x4) (fun r => KT Fr Ar r.2.1 r.2.2.1) := by
  intro n
  induction n with
  | zero => intro F A J x1 x2 x3 x4 _ r hr; cases hr
  | succ n ih =>
    intro F A J x1 x2 x3 x4 h
    unfold d_bars_18
    repeat' (first
      | with_reducible exact po_some (by assumption)
      | (with_reducible refine kt_pf (by assumption) (by decide) ?_; intro _ _)
      | (with_reducible refine kt_st (by assumption) (by decide) ?_; intro _ _)
      | (with_reducible refine kt_pz (by assumption) (by decide) ?_; intro _ _)
      | with_reducible exact kt_d_takes (by assumption)
      | (with_reducible refine po_call (kt_d_takes (by assumption)) ?_; rintro ⟨_, _, _, _⟩ _; try dsimp only)
      | with_reducible exact kt_d_wholeNight (by assumption)
      | (with_reducible refine po_call (kt_d_wholeNight (by assumption)) ?_; rintro ⟨_, _, _, _⟩ _; try dsimp only)
      | with_reducible refine kt_d_bars_84 ?_ (by assumption)
      | (with_reducible refine po_call (kt_d_bars_84 ?_ (by assumption)) ?_)
      | with_reducible refine kt_d_bars_90 ?_ (by assumption)
      | (with_reducible refine po_call (kt_d_bars_90 ?_ (by assumption)) ?_)
      | with_reducible exact ih (by assumption)
      | (with_reducible refine po_call (ih (by assumption)) ?_; rintro ⟨_, _, _, _⟩ _; try dsimp only)
      | (intros; with_reducible exact ih (by assumption))
      | with_reducible refine po_cond (fun _ => ?_) (fun _ => ?_)
      | with_reducible refine po_bind_cond (fun _ => ?_) (fun _ => ?_)
      | with_reducible refine po_bl (fun _ _ => ?_))
theorem kt_d_bars {n : Nat} {F : Nat → Int32} {A : Nat → Nat → Int32} {J : Nat → Nat → Int64} {x1 : Int32}  (h : KT Fr Ar F A) : po (d_bars n F A J x1) (fun r => KT Fr Ar r.2.1 r.2.2.1) := by
  unfold d_bars
  repeat' (first
    | with_reducible exact po_some (by assumption)
    | (with_reducible refine kt_pf (by assumption) (by decide) ?_; intro _ _)
    | (with_reducible refine kt_st (by assumption) (by decide) ?_; intro _ _)
    | (with_reducible refine kt_pz (by assumption) (by decide) ?_; intro _ _)
    | with_reducible exact kt_d_bars_18 (by assumption)
    | (with_reducible refine po_call (kt_d_bars_18 (by assumption)) ?_; rintro ⟨_, _, _, _⟩ _; try dsimp only)
    | with_reducible refine po_cond (fun _ => ?_) (fun _ => ?_)
    | with_reducible refine po_bind_cond (fun _ => ?_) (fun _ => ?_)
    | with_reducible refine po_bl (fun _ _ => ?_))
theorem kt_d_where {n : Nat} {F : Nat → Int32} {A : Nat → Nat → Int32} {J : Nat → Nat → Int64} {x1 : Int32} {x2 : Int32}  (h : KT Fr Ar F A) : po (d_where n F A J x1 x2) (fun r => KT Fr Ar r.2.1 r.2.2.1) := by
  unfold d_where
  repeat' (first
    | with_reducible exact po_some (by assumption)
    | (with_reducible refine kt_pf (by assumption) (by decide) ?_; intro _ _)
    | (with_reducible refine kt_st (by assumption) (by decide) ?_; intro _ _)
    | (with_reducible refine kt_pz (by assumption) (by decide) ?_; intro _ _)
    | with_reducible exact kt_d_takes (by assumption)
    | (with_reducible refine po_call (kt_d_takes (by assumption)) ?_; rintro ⟨_, _, _, _⟩ _; try dsimp only)
    | with_reducible exact kt_d_fillsWays (by assumption)
    | (with_reducible refine po_call (kt_d_fillsWays (by assumption)) ?_; rintro ⟨_, _, _, _⟩ _; try dsimp only)
    | with_reducible refine po_cond (fun _ => ?_) (fun _ => ?_)
    | with_reducible refine po_bind_cond (fun _ => ?_) (fun _ => ?_)
    | with_reducible refine po_bl (fun _ _ => ?_))
theorem kt_d_strokes {n : Nat} {F : Nat → Int32} {A : Nat → Nat → Int32} {J : Nat → Nat → Int64} {x1 : Int32} {x2 : Int32}  (h : KT Fr Ar F A) : po (d_strokes n F A J x1 x2) (fun r => KT Fr Ar r.2.1 r.2.2.1) := by
  unfold d_strokes
  repeat' (first
    | with_reducible exact po_some (by assumption)
    | (with_reducible refine kt_pf (by assumption) (by decide) ?_; intro _ _)
    | (with_reducible refine kt_st (by assumption) (by decide) ?_; intro _ _)
    | (with_reducible refine kt_pz (by assumption) (by decide) ?_; intro _ _)
    | with_reducible exact kt_d_takes (by assumption)
    | (with_reducible refine po_call (kt_d_takes (by assumption)) ?_; rintro ⟨_, _, _, _⟩ _; try dsimp only)
    | with_reducible exact kt_d_goesTill (by assumption)
    | (with_reducible refine po_call (kt_d_goesTill (by assumption)) ?_; rintro ⟨_, _, _, _⟩ _; try dsimp only)
    | with_reducible refine po_cond (fun _ => ?_) (fun _ => ?_)
    | with_reducible refine po_bind_cond (fun _ => ?_) (fun _ => ?_)
    | with_reducible refine po_bl (fun _ _ => ?_))
theorem kt_d_isSo_7   : ∀ {n : Nat} {F : Nat → Int32} {A : Nat → Nat → Int32} {J : Nat → Nat → Int64} {x1 : Int32} {x2 : Int32}, KT Fr Ar F A → po (d_isSo_7  n F A J x1 x2) (fun r => KT Fr Ar r.2.1 r.2.2.1) := by
  intro n
  induction n with
  | zero => intro F A J x1 x2 _ r hr; cases hr
  | succ n ih =>
    intro F A J x1 x2 h
    unfold d_isSo_7
    repeat' (first
      | with_reducible exact po_some (by assumption)
      | (with_reducible refine kt_pf (by assumption) (by decide) ?_; intro _ _)
      | (with_reducible refine kt_st (by assumption) (by decide) ?_; intro _ _)
      | (with_reducible refine kt_pz (by assumption) (by decide) ?_; intro _ _)
      | with_reducible exact ih (by assumption)
      | (with_reducible refine po_call (ih (by assumption)) ?_; rintro ⟨_, _, _, _⟩ _; try dsimp only)
      | (intros; with_reducible exact ih (by assumption))
      | with_reducible refine po_cond (fun _ => ?_) (fun _ => ?_)
      | with_reducible refine po_bind_cond (fun _ => ?_) (fun _ => ?_)
      | with_reducible refine po_bl (fun _ _ => ?_))
theorem kt_d_isSo {n : Nat} {F : Nat → Int32} {A : Nat → Nat → Int32} {J : Nat → Nat → Int64} {x1 : Int32}  (h : KT Fr Ar F A) : po (d_isSo n F A J x1) (fun r => KT Fr Ar r.2.1 r.2.2.1) := by
  unfold d_isSo
  repeat' (first
    | with_reducible exact po_some (by assumption)
    | (with_reducible refine kt_pf (by assumption) (by decide) ?_; intro _ _)
    | (with_reducible refine kt_st (by assumption) (by decide) ?_; intro _ _)
    | (with_reducible refine kt_pz (by assumption) (by decide) ?_; intro _ _)
    | with_reducible exact kt_d_wholeNight (by assumption)
    | (with_reducible refine po_call (kt_d_wholeNight (by assumption)) ?_; rintro ⟨_, _, _, _⟩ _; try dsimp only)
    | with_reducible exact kt_d_isSo_7 (by assumption)
    | (with_reducible refine po_call (kt_d_isSo_7 (by assumption)) ?_; rintro ⟨_, _, _, _⟩ _; try dsimp only)
    | with_reducible refine po_cond (fun _ => ?_) (fun _ => ?_)
    | with_reducible refine po_bind_cond (fun _ => ?_) (fun _ => ?_)
    | with_reducible refine po_bl (fun _ _ => ?_))
theorem kt_d_fits_82 {K33 : (Nat → Int32) → (Nat → Nat → Int32) → (Nat → Nat → Int64) → Int32 → Int32 → Int32 → Int32 → Int32 → Option (Int32 × (Nat → Int32) × (Nat → Nat → Int32) × (Nat → Nat → Int64))} {n : Nat} {F : Nat → Int32} {A : Nat → Nat → Int32} {J : Nat → Nat → Int64} {x1 : Int32} {x2 : Int32} {x3 : Int32} {x4 : Int32} {x5 : Int32} (hK33 : ∀ (a0 : Nat → Int32) (a1 : Nat → Nat → Int32) (a2 : Nat → Nat → Int64) (a3 : Int32) (a4 : Int32) (a5 : Int32) (a6 : Int32) (a7 : Int32), KT Fr Ar a0 a1 → po (K33 a0 a1 a2 a3 a4 a5 a6 a7) (fun r => KT Fr Ar r.2.1 r.2.2.1)) (h : KT Fr Ar F A) : po (d_fits_82 K33 n F A J x1 x2 x3 x4 x5) (fun r => KT Fr Ar r.2.1 r.2.2.1) := by
  unfold d_fits_82
  repeat' (first
    | with_reducible exact po_some (by assumption)
    | (with_reducible refine kt_pf (by assumption) (by decide) ?_; intro _ _)
    | (with_reducible refine kt_st (by assumption) (by decide) ?_; intro _ _)
    | (with_reducible refine kt_pz (by assumption) (by decide) ?_; intro _ _)
    | with_reducible exact hK33 _ _ _ _ _ _ _ _ (by assumption)
    | (intros; with_reducible exact hK33 _ _ _ _ _ _ _ _ (by assumption))
    | with_reducible refine po_cond (fun _ => ?_) (fun _ => ?_)
    | with_reducible refine po_bind_cond (fun _ => ?_) (fun _ => ?_)
    | with_reducible refine po_bl (fun _ _ => ?_))
theorem kt_d_fits_33   : ∀ {n : Nat} {F : Nat → Int32} {A : Nat → Nat → Int32} {J : Nat → Nat → Int64} {x1 : Int32} {x2 : Int32} {x3 : Int32} {x4 : Int32} {x5 : Int32}, KT Fr Ar F A → po (d_fits_33  n F A J x1 x2 x3 x4 x5) (fun r => KT Fr Ar r.2.1 r.2.2.1) := by
  intro n
  induction n with
  | zero => intro F A J x1 x2 x3 x4 x5 _ r hr; cases hr
  | succ n ih =>
    intro F A J x1 x2 x3 x4 x5 h
    unfold d_fits_33
    repeat' (first
      | with_reducible exact po_some (by assumption)
      | (with_reducible refine kt_pf (by assumption) (by decide) ?_; intro _ _)
      | (with_reducible refine kt_st (by assumption) (by decide) ?_; intro _ _)
      | (with_reducible refine kt_pz (by assumption) (by decide) ?_; intro _ _)
      | with_reducible exact kt_d_takes (by assumption)
      | (with_reducible refine po_call (kt_d_takes (by assumption)) ?_; rintro ⟨_, _, _, _⟩ _; try dsimp only)
      | with_reducible exact kt_d_leaves (by assumption)
      | (with_reducible refine po_call (kt_d_leaves (by assumption)) ?_; rintro ⟨_, _, _, _⟩ _; try dsimp only)
      | with_reducible exact kt_d_isSo (by assumption)
      | (with_reducible refine po_call (kt_d_isSo (by assumption)) ?_; rintro ⟨_, _, _, _⟩ _; try dsimp only)
      | with_reducible refine kt_d_fits_82 ?_ (by assumption)
      | (with_reducible refine po_call (kt_d_fits_82 ?_ (by assumption)) ?_)
      | with_reducible exact kt_d_codeOf (by assumption)
      | (with_reducible refine po_call (kt_d_codeOf (by assumption)) ?_; rintro ⟨_, _, _, _⟩ _; try dsimp only)
      | with_reducible exact ih (by assumption)
      | (with_reducible refine po_call (ih (by assumption)) ?_; rintro ⟨_, _, _, _⟩ _; try dsimp only)
      | (intros; with_reducible exact ih (by assumption))
      | with_reducible refine po_cond (fun _ => ?_) (fun _ => ?_)
      | with_reducible refine po_bind_cond (fun _ => ?_) (fun _ => ?_)
      | with_reducible refine po_bl (fun _ _ => ?_))
theorem kt_d_fits {n : Nat} {F : Nat → Int32} {A : Nat → Nat → Int32} {J : Nat → Nat → Int64} {x1 : Int32} {x2 : Int32} {x3 : Int32}  (h : KT Fr Ar F A) : po (d_fits n F A J x1 x2 x3) (fun r => KT Fr Ar r.2.1 r.2.2.1) := by
  unfold d_fits
  repeat' (first
    | with_reducible exact po_some (by assumption)
    | (with_reducible refine kt_pf (by assumption) (by decide) ?_; intro _ _)
    | (with_reducible refine kt_st (by assumption) (by decide) ?_; intro _ _)
    | (with_reducible refine kt_pz (by assumption) (by decide) ?_; intro _ _)
    | with_reducible exact kt_d_fits_33 (by assumption)
    | (with_reducible refine po_call (kt_d_fits_33 (by assumption)) ?_; rintro ⟨_, _, _, _⟩ _; try dsimp only)
    | with_reducible refine po_cond (fun _ => ?_) (fun _ => ?_)
    | with_reducible refine po_bind_cond (fun _ => ?_) (fun _ => ?_)
    | with_reducible refine po_bl (fun _ _ => ?_))
theorem kt_d_isSuspect_76 {K2 : (Nat → Int32) → (Nat → Nat → Int32) → (Nat → Nat → Int64) → Int32 → Int32 → Int32 → Option (Int32 × (Nat → Int32) × (Nat → Nat → Int32) × (Nat → Nat → Int64))} {n : Nat} {F : Nat → Int32} {A : Nat → Nat → Int32} {J : Nat → Nat → Int64} {x1 : Int32} {x2 : Int32} {x3 : Int32} (hK2 : ∀ (a0 : Nat → Int32) (a1 : Nat → Nat → Int32) (a2 : Nat → Nat → Int64) (a3 : Int32) (a4 : Int32) (a5 : Int32), KT Fr Ar a0 a1 → po (K2 a0 a1 a2 a3 a4 a5) (fun r => KT Fr Ar r.2.1 r.2.2.1)) (h : KT Fr Ar F A) : po (d_isSuspect_76 K2 n F A J x1 x2 x3) (fun r => KT Fr Ar r.2.1 r.2.2.1) := by
  unfold d_isSuspect_76
  repeat' (first
    | with_reducible exact po_some (by assumption)
    | (with_reducible refine kt_pf (by assumption) (by decide) ?_; intro _ _)
    | (with_reducible refine kt_st (by assumption) (by decide) ?_; intro _ _)
    | (with_reducible refine kt_pz (by assumption) (by decide) ?_; intro _ _)
    | with_reducible exact hK2 _ _ _ _ _ _ (by assumption)
    | (intros; with_reducible exact hK2 _ _ _ _ _ _ (by assumption))
    | with_reducible refine po_cond (fun _ => ?_) (fun _ => ?_)
    | with_reducible refine po_bind_cond (fun _ => ?_) (fun _ => ?_)
    | with_reducible refine po_bl (fun _ _ => ?_))
theorem kt_d_isSuspect_66 {K2 : (Nat → Int32) → (Nat → Nat → Int32) → (Nat → Nat → Int64) → Int32 → Int32 → Int32 → Option (Int32 × (Nat → Int32) × (Nat → Nat → Int32) × (Nat → Nat → Int64))} {n : Nat} {F : Nat → Int32} {A : Nat → Nat → Int32} {J : Nat → Nat → Int64} {x1 : Int32} {x2 : Int32} {x3 : Int32} (hK2 : ∀ (a0 : Nat → Int32) (a1 : Nat → Nat → Int32) (a2 : Nat → Nat → Int64) (a3 : Int32) (a4 : Int32) (a5 : Int32), KT Fr Ar a0 a1 → po (K2 a0 a1 a2 a3 a4 a5) (fun r => KT Fr Ar r.2.1 r.2.2.1)) (h : KT Fr Ar F A) : po (d_isSuspect_66 K2 n F A J x1 x2 x3) (fun r => KT Fr Ar r.2.1 r.2.2.1) := by
  unfold d_isSuspect_66
  repeat' (first
    | with_reducible exact po_some (by assumption)
    | (with_reducible refine kt_pf (by assumption) (by decide) ?_; intro _ _)
    | (with_reducible refine kt_st (by assumption) (by decide) ?_; intro _ _)
    | (with_reducible refine kt_pz (by assumption) (by decide) ?_; intro _ _)
    | with_reducible exact kt_d_isSo (by assumption)
    | (with_reducible refine po_call (kt_d_isSo (by assumption)) ?_; rintro ⟨_, _, _, _⟩ _; try dsimp only)
    | with_reducible refine kt_d_isSuspect_76 ?_ (by assumption)
    | (with_reducible refine po_call (kt_d_isSuspect_76 ?_ (by assumption)) ?_)
    | with_reducible exact hK2 _ _ _ _ _ _ (by assumption)
    | (intros; with_reducible exact hK2 _ _ _ _ _ _ (by assumption))
    | with_reducible refine po_cond (fun _ => ?_) (fun _ => ?_)
    | with_reducible refine po_bind_cond (fun _ => ?_) (fun _ => ?_)
    | with_reducible refine po_bl (fun _ _ => ?_))
theorem kt_d_isSuspect_2   : ∀ {n : Nat} {F : Nat → Int32} {A : Nat → Nat → Int32} {J : Nat → Nat → Int64} {x1 : Int32} {x2 : Int32} {x3 : Int32}, KT Fr Ar F A → po (d_isSuspect_2  n F A J x1 x2 x3) (fun r => KT Fr Ar r.2.1 r.2.2.1) := by
  intro n
  induction n with
  | zero => intro F A J x1 x2 x3 _ r hr; cases hr
  | succ n ih =>
    intro F A J x1 x2 x3 h
    unfold d_isSuspect_2
    repeat' (first
      | with_reducible exact po_some (by assumption)
      | (with_reducible refine kt_pf (by assumption) (by decide) ?_; intro _ _)
      | (with_reducible refine kt_st (by assumption) (by decide) ?_; intro _ _)
      | (with_reducible refine kt_pz (by assumption) (by decide) ?_; intro _ _)
      | with_reducible exact kt_d_takes (by assumption)
      | (with_reducible refine po_call (kt_d_takes (by assumption)) ?_; rintro ⟨_, _, _, _⟩ _; try dsimp only)
      | with_reducible exact kt_d_leaves (by assumption)
      | (with_reducible refine po_call (kt_d_leaves (by assumption)) ?_; rintro ⟨_, _, _, _⟩ _; try dsimp only)
      | with_reducible refine kt_d_isSuspect_66 ?_ (by assumption)
      | (with_reducible refine po_call (kt_d_isSuspect_66 ?_ (by assumption)) ?_)
      | with_reducible refine kt_d_isSuspect_76 ?_ (by assumption)
      | (with_reducible refine po_call (kt_d_isSuspect_76 ?_ (by assumption)) ?_)
      | with_reducible exact ih (by assumption)
      | (with_reducible refine po_call (ih (by assumption)) ?_; rintro ⟨_, _, _, _⟩ _; try dsimp only)
      | (intros; with_reducible exact ih (by assumption))
      | with_reducible refine po_cond (fun _ => ?_) (fun _ => ?_)
      | with_reducible refine po_bind_cond (fun _ => ?_) (fun _ => ?_)
      | with_reducible refine po_bl (fun _ _ => ?_))
theorem kt_d_isSuspect {n : Nat} {F : Nat → Int32} {A : Nat → Nat → Int32} {J : Nat → Nat → Int64} {x1 : Int32} {x2 : Int32}  (h : KT Fr Ar F A) : po (d_isSuspect n F A J x1 x2) (fun r => KT Fr Ar r.2.1 r.2.2.1) := by
  unfold d_isSuspect
  repeat' (first
    | with_reducible exact po_some (by assumption)
    | (with_reducible refine kt_pf (by assumption) (by decide) ?_; intro _ _)
    | (with_reducible refine kt_st (by assumption) (by decide) ?_; intro _ _)
    | (with_reducible refine kt_pz (by assumption) (by decide) ?_; intro _ _)
    | with_reducible exact kt_d_isSuspect_2 (by assumption)
    | (with_reducible refine po_call (kt_d_isSuspect_2 (by assumption)) ?_; rintro ⟨_, _, _, _⟩ _; try dsimp only)
    | with_reducible refine po_cond (fun _ => ?_) (fun _ => ?_)
    | with_reducible refine po_bind_cond (fun _ => ?_) (fun _ => ?_)
    | with_reducible refine po_bl (fun _ _ => ?_))
theorem kt_d_suspects_41 {K18 : (Nat → Int32) → (Nat → Nat → Int32) → (Nat → Nat → Int64) → Int32 → Int32 → Int32 → Option (Int32 × (Nat → Int32) × (Nat → Nat → Int32) × (Nat → Nat → Int64))} {n : Nat} {F : Nat → Int32} {A : Nat → Nat → Int32} {J : Nat → Nat → Int64} {x1 : Int32} {x2 : Int32} {x3 : Int32} (hK18 : ∀ (a0 : Nat → Int32) (a1 : Nat → Nat → Int32) (a2 : Nat → Nat → Int64) (a3 : Int32) (a4 : Int32) (a5 : Int32), KT Fr Ar a0 a1 → po (K18 a0 a1 a2 a3 a4 a5) (fun r => KT Fr Ar r.2.1 r.2.2.1)) (h : KT Fr Ar F A) : po (d_suspects_41 K18 n F A J x1 x2 x3) (fun r => KT Fr Ar r.2.1 r.2.2.1) := by
  unfold d_suspects_41
  repeat' (first
    | with_reducible exact po_some (by assumption)
    | (with_reducible refine kt_pf (by assumption) (by decide) ?_; intro _ _)
    | (with_reducible refine kt_st (by assumption) (by decide) ?_; intro _ _)
    | (with_reducible refine kt_pz (by assumption) (by decide) ?_; intro _ _)
    | with_reducible exact hK18 _ _ _ _ _ _ (by assumption)
    | (intros; with_reducible exact hK18 _ _ _ _ _ _ (by assumption))
    | with_reducible refine po_cond (fun _ => ?_) (fun _ => ?_)
    | with_reducible refine po_bind_cond (fun _ => ?_) (fun _ => ?_)
    | with_reducible refine po_bl (fun _ _ => ?_))
theorem kt_d_suspects_18   : ∀ {n : Nat} {F : Nat → Int32} {A : Nat → Nat → Int32} {J : Nat → Nat → Int64} {x1 : Int32} {x2 : Int32} {x3 : Int32}, KT Fr Ar F A → po (d_suspects_18  n F A J x1 x2 x3) (fun r => KT Fr Ar r.2.1 r.2.2.1) := by
  intro n
  induction n with
  | zero => intro F A J x1 x2 x3 _ r hr; cases hr
  | succ n ih =>
    intro F A J x1 x2 x3 h
    unfold d_suspects_18
    repeat' (first
      | with_reducible exact po_some (by assumption)
      | (with_reducible refine kt_pf (by assumption) (by decide) ?_; intro _ _)
      | (with_reducible refine kt_st (by assumption) (by decide) ?_; intro _ _)
      | (with_reducible refine kt_pz (by assumption) (by decide) ?_; intro _ _)
      | with_reducible exact kt_d_isSuspect (by assumption)
      | (with_reducible refine po_call (kt_d_isSuspect (by assumption)) ?_; rintro ⟨_, _, _, _⟩ _; try dsimp only)
      | with_reducible refine kt_d_suspects_41 ?_ (by assumption)
      | (with_reducible refine po_call (kt_d_suspects_41 ?_ (by assumption)) ?_)
      | with_reducible exact ih (by assumption)
      | (with_reducible refine po_call (ih (by assumption)) ?_; rintro ⟨_, _, _, _⟩ _; try dsimp only)
      | (intros; with_reducible exact ih (by assumption))
      | with_reducible refine po_cond (fun _ => ?_) (fun _ => ?_)
      | with_reducible refine po_bind_cond (fun _ => ?_) (fun _ => ?_)
      | with_reducible refine po_bl (fun _ _ => ?_))
theorem kt_d_suspects {n : Nat} {F : Nat → Int32} {A : Nat → Nat → Int32} {J : Nat → Nat → Int64} {x1 : Int32}  (h : KT Fr Ar F A) : po (d_suspects n F A J x1) (fun r => KT Fr Ar r.2.1 r.2.2.1) := by
  unfold d_suspects
  repeat' (first
    | with_reducible exact po_some (by assumption)
    | (with_reducible refine kt_pf (by assumption) (by decide) ?_; intro _ _)
    | (with_reducible refine kt_st (by assumption) (by decide) ?_; intro _ _)
    | (with_reducible refine kt_pz (by assumption) (by decide) ?_; intro _ _)
    | with_reducible exact kt_d_suspects_18 (by assumption)
    | (with_reducible refine po_call (kt_d_suspects_18 (by assumption)) ?_; rintro ⟨_, _, _, _⟩ _; try dsimp only)
    | with_reducible refine po_cond (fun _ => ?_) (fun _ => ?_)
    | with_reducible refine po_bind_cond (fun _ => ?_) (fun _ => ?_)
    | with_reducible refine po_bl (fun _ _ => ?_))
theorem kt_d_pairs_93 {K41 : (Nat → Int32) → (Nat → Nat → Int32) → (Nat → Nat → Int64) → Int32 → Int32 → Int32 → Int32 → Int32 → Option (Int32 × (Nat → Int32) × (Nat → Nat → Int32) × (Nat → Nat → Int64))} {K53 : (Nat → Int32) → (Nat → Nat → Int32) → (Nat → Nat → Int64) → Int32 → Int32 → Int32 → Int32 → Int32 → Int32 → Option (Int32 × (Nat → Int32) × (Nat → Nat → Int32) × (Nat → Nat → Int64))} {n : Nat} {F : Nat → Int32} {A : Nat → Nat → Int32} {J : Nat → Nat → Int64} {x1 : Int32} {x2 : Int32} {x3 : Int32} {x4 : Int32} {x5 : Int32} {x6 : Int32} (hK41 : ∀ (a0 : Nat → Int32) (a1 : Nat → Nat → Int32) (a2 : Nat → Nat → Int64) (a3 : Int32) (a4 : Int32) (a5 : Int32) (a6 : Int32) (a7 : Int32), KT Fr Ar a0 a1 → po (K41 a0 a1 a2 a3 a4 a5 a6 a7) (fun r => KT Fr Ar r.2.1 r.2.2.1)) (hK53 : ∀ (a0 : Nat → Int32) (a1 : Nat → Nat → Int32) (a2 : Nat → Nat → Int64) (a3 : Int32) (a4 : Int32) (a5 : Int32) (a6 : Int32) (a7 : Int32) (a8 : Int32), KT Fr Ar a0 a1 → po (K53 a0 a1 a2 a3 a4 a5 a6 a7 a8) (fun r => KT Fr Ar r.2.1 r.2.2.1)) (h : KT Fr Ar F A) : po (d_pairs_93 K41 K53 n F A J x1 x2 x3 x4 x5 x6) (fun r => KT Fr Ar r.2.1 r.2.2.1) := by
  unfold d_pairs_93
  repeat' (first
    | with_reducible exact po_some (by assumption)
    | (with_reducible refine kt_pf (by assumption) (by decide) ?_; intro _ _)
    | (with_reducible refine kt_st (by assumption) (by decide) ?_; intro _ _)
    | (with_reducible refine kt_pz (by assumption) (by decide) ?_; intro _ _)
    | with_reducible exact hK41 _ _ _ _ _ _ _ _ (by assumption)
    | (intros; with_reducible exact hK41 _ _ _ _ _ _ _ _ (by assumption))
    | with_reducible exact hK53 _ _ _ _ _ _ _ _ _ (by assumption)
    | (intros; with_reducible exact hK53 _ _ _ _ _ _ _ _ _ (by assumption))
    | with_reducible refine po_cond (fun _ => ?_) (fun _ => ?_)
    | with_reducible refine po_bind_cond (fun _ => ?_) (fun _ => ?_)
    | with_reducible refine po_bl (fun _ _ => ?_))
theorem kt_d_pairs_53 {K41 : (Nat → Int32) → (Nat → Nat → Int32) → (Nat → Nat → Int64) → Int32 → Int32 → Int32 → Int32 → Int32 → Option (Int32 × (Nat → Int32) × (Nat → Nat → Int32) × (Nat → Nat → Int64))} (hK41 : ∀ (a0 : Nat → Int32) (a1 : Nat → Nat → Int32) (a2 : Nat → Nat → Int64) (a3 : Int32) (a4 : Int32) (a5 : Int32) (a6 : Int32) (a7 : Int32), KT Fr Ar a0 a1 → po (K41 a0 a1 a2 a3 a4 a5 a6 a7) (fun r => KT Fr Ar r.2.1 r.2.2.1)) : ∀ {n : Nat} {F : Nat → Int32} {A : Nat → Nat → Int32} {J : Nat → Nat → Int64} {x1 : Int32} {x2 : Int32} {x3 : Int32} {x4 : Int32} {x5 : Int32} {x6 : Int32}, KT Fr Ar F A → po (d_pairs_53 K41 n F A J x1 x2 x3 x4 x5 x6) (fun r => KT Fr Ar r.2.1 r.2.2.1) := by
  intro n
  induction n with
  | zero => intro F A J x1 x2 x3 x4 x5 x6 _ r hr; cases hr
  | succ n ih =>
    intro F A J x1 x2 x3 x4 x5 x6 h
    unfold d_pairs_53
    repeat' (first
      | with_reducible exact po_some (by assumption)
      | (with_reducible refine kt_pf (by assumption) (by decide) ?_; intro _ _)
      | (with_reducible refine kt_st (by assumption) (by decide) ?_; intro _ _)
      | (with_reducible refine kt_pz (by assumption) (by decide) ?_; intro _ _)
      | with_reducible exact kt_d_takes (by assumption)
      | (with_reducible refine po_call (kt_d_takes (by assumption)) ?_; rintro ⟨_, _, _, _⟩ _; try dsimp only)
      | with_reducible exact kt_d_leaves (by assumption)
      | (with_reducible refine po_call (kt_d_leaves (by assumption)) ?_; rintro ⟨_, _, _, _⟩ _; try dsimp only)
      | with_reducible exact kt_d_isSo (by assumption)
      | (with_reducible refine po_call (kt_d_isSo (by assumption)) ?_; rintro ⟨_, _, _, _⟩ _; try dsimp only)
      | with_reducible refine kt_d_pairs_93 ?_ ?_ (by assumption)
      | (with_reducible refine po_call (kt_d_pairs_93 ?_ ?_ (by assumption)) ?_)
      | with_reducible exact hK41 _ _ _ _ _ _ _ _ (by assumption)
      | (intros; with_reducible exact hK41 _ _ _ _ _ _ _ _ (by assumption))
      | with_reducible exact ih (by assumption)
      | (with_reducible refine po_call (ih (by assumption)) ?_; rintro ⟨_, _, _, _⟩ _; try dsimp only)
      | (intros; with_reducible exact ih (by assumption))
      | with_reducible refine po_cond (fun _ => ?_) (fun _ => ?_)
      | with_reducible refine po_bind_cond (fun _ => ?_) (fun _ => ?_)
      | with_reducible refine po_bl (fun _ _ => ?_))
theorem kt_d_pairs_41   : ∀ {n : Nat} {F : Nat → Int32} {A : Nat → Nat → Int32} {J : Nat → Nat → Int64} {x1 : Int32} {x2 : Int32} {x3 : Int32} {x4 : Int32} {x5 : Int32}, KT Fr Ar F A → po (d_pairs_41  n F A J x1 x2 x3 x4 x5) (fun r => KT Fr Ar r.2.1 r.2.2.1) := by
  intro n
  induction n with
  | zero => intro F A J x1 x2 x3 x4 x5 _ r hr; cases hr
  | succ n ih =>
    intro F A J x1 x2 x3 x4 x5 h
    unfold d_pairs_41
    repeat' (first
      | with_reducible exact po_some (by assumption)
      | (with_reducible refine kt_pf (by assumption) (by decide) ?_; intro _ _)
      | (with_reducible refine kt_st (by assumption) (by decide) ?_; intro _ _)
      | (with_reducible refine kt_pz (by assumption) (by decide) ?_; intro _ _)
      | with_reducible refine kt_d_pairs_53 ?_ (by assumption)
      | (with_reducible refine po_call (kt_d_pairs_53 ?_ (by assumption)) ?_)
      | with_reducible exact ih (by assumption)
      | (with_reducible refine po_call (ih (by assumption)) ?_; rintro ⟨_, _, _, _⟩ _; try dsimp only)
      | (intros; with_reducible exact ih (by assumption))
      | with_reducible refine po_cond (fun _ => ?_) (fun _ => ?_)
      | with_reducible refine po_bind_cond (fun _ => ?_) (fun _ => ?_)
      | with_reducible refine po_bl (fun _ _ => ?_))
theorem kt_d_pairs {n : Nat} {F : Nat → Int32} {A : Nat → Nat → Int32} {J : Nat → Nat → Int64} {x1 : Int32} {x2 : Int32} {x3 : Int32}  (h : KT Fr Ar F A) : po (d_pairs n F A J x1 x2 x3) (fun r => KT Fr Ar r.2.1 r.2.2.1) := by
  unfold d_pairs
  repeat' (first
    | with_reducible exact po_some (by assumption)
    | (with_reducible refine kt_pf (by assumption) (by decide) ?_; intro _ _)
    | (with_reducible refine kt_st (by assumption) (by decide) ?_; intro _ _)
    | (with_reducible refine kt_pz (by assumption) (by decide) ?_; intro _ _)
    | with_reducible exact kt_d_pairs_41 (by assumption)
    | (with_reducible refine po_call (kt_d_pairs_41 (by assumption)) ?_; rintro ⟨_, _, _, _⟩ _; try dsimp only)
    | with_reducible refine po_cond (fun _ => ?_) (fun _ => ?_)
    | with_reducible refine po_bind_cond (fun _ => ?_) (fun _ => ?_)
    | with_reducible refine po_bl (fun _ _ => ?_))
theorem kt_d_way {n : Nat} {F : Nat → Int32} {A : Nat → Nat → Int32} {J : Nat → Nat → Int64} {x1 : Int32} {x2 : Int32}  (h : KT Fr Ar F A) : po (d_way n F A J x1 x2) (fun r => KT Fr Ar r.2.1 r.2.2.1) := by
  unfold d_way
  repeat' (first
    | with_reducible exact po_some (by assumption)
    | (with_reducible refine kt_pf (by assumption) (by decide) ?_; intro _ _)
    | (with_reducible refine kt_st (by assumption) (by decide) ?_; intro _ _)
    | (with_reducible refine kt_pz (by assumption) (by decide) ?_; intro _ _)
    | with_reducible exact kt_d_takes (by assumption)
    | (with_reducible refine po_call (kt_d_takes (by assumption)) ?_; rintro ⟨_, _, _, _⟩ _; try dsimp only)
    | with_reducible exact kt_d_fillsWays (by assumption)
    | (with_reducible refine po_call (kt_d_fillsWays (by assumption)) ?_; rintro ⟨_, _, _, _⟩ _; try dsimp only)
    | with_reducible refine po_cond (fun _ => ?_) (fun _ => ?_)
    | with_reducible refine po_bind_cond (fun _ => ?_) (fun _ => ?_)
    | with_reducible refine po_bl (fun _ _ => ?_))
end H9f6
