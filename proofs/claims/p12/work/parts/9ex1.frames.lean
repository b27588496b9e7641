/-! what the reference's methods leave of its scalars (printed by wip/frames.py) -/
section H9ex1
variable {Fr : Nat → Int32} {Ar : Nat → Nat → Int32}
theorem km_d_put_3   : ∀ {n : Nat} {F : Nat → Int32} {A : Nat → Nat → Int32} {J : Nat → Nat → Int64} {x1 : Int32} {x2 : Int32}, KM Fr Ar F A → po (d_put_3  n F A J x1 x2) (fun r => KM Fr Ar r.2.1 r.2.2.1) := by
  intro n
  induction n with
  | zero => intro F A J x1 x2 _ r hr; cases hr
  | succ n ih =>
    intro F A J x1 x2 h
    unfold d_put_3
    repeat' (first
      | with_reducible exact po_some (by assumption)
      | (with_reducible refine km_pf (by assumption) (by decide) ?_; intro _ _)
      | (with_reducible refine km_st (by assumption) (by decide) ?_; intro _ _)
      | (with_reducible refine km_pz (by assumption) (by decide) ?_; intro _ _)
      | with_reducible exact ih (by assumption)
      | (with_reducible refine po_call (ih (by assumption)) ?_; rintro ⟨_, _, _, _⟩ _; try dsimp only)
      | (intros; with_reducible exact ih (by assumption))
      | with_reducible refine po_cond (fun _ => ?_) (fun _ => ?_)
      | with_reducible refine po_bind_cond (fun _ => ?_) (fun _ => ?_)
      | with_reducible refine po_bl (fun _ _ => ?_))
theorem km_d_put {n : Nat} {F : Nat → Int32} {A : Nat → Nat → Int32} {J : Nat → Nat → Int64} {x1 : Int32}  (h : KM Fr Ar F A) : po (d_put n F A J x1) (fun r => KM Fr Ar r.2.1 r.2.2.1) := by
  unfold d_put
  repeat' (first
    | with_reducible exact po_some (by assumption)
    | (with_reducible refine km_pf (by assumption) (by decide) ?_; intro _ _)
    | (with_reducible refine km_st (by assumption) (by decide) ?_; intro _ _)
    | (with_reducible refine km_pz (by assumption) (by decide) ?_; intro _ _)
    | with_reducible exact km_d_put_3 (by assumption)
    | (with_reducible refine po_call (km_d_put_3 (by assumption)) ?_; rintro ⟨_, _, _, _⟩ _; try dsimp only)
    | with_reducible refine po_cond (fun _ => ?_) (fun _ => ?_)
    | with_reducible refine po_bind_cond (fun _ => ?_) (fun _ => ?_)
    | with_reducible refine po_bl (fun _ _ => ?_))
theorem km_d_feed {n : Nat} {F : Nat → Int32} {A : Nat → Nat → Int32} {J : Nat → Nat → Int64} {x1 : Int32} {x2 : Int32} {x3 : Int32} {x4 : Int32} {x5 : Int32}  (h : KM Fr Ar F A) : po (d_feed n F A J x1 x2 x3 x4 x5) (fun r => KM Fr Ar r.2.1 r.2.2.1) := by
  unfold d_feed
  repeat' (first
    | with_reducible exact po_some (by assumption)
    | (with_reducible refine km_pf (by assumption) (by decide) ?_; intro _ _)
    | (with_reducible refine km_st (by assumption) (by decide) ?_; intro _ _)
    | (with_reducible refine km_pz (by assumption) (by decide) ?_; intro _ _)
    | with_reducible exact km_d_put (by assumption)
    | (with_reducible refine po_call (km_d_put (by assumption)) ?_; rintro ⟨_, _, _, _⟩ _; try dsimp only)
    | with_reducible refine po_cond (fun _ => ?_) (fun _ => ?_)
    | with_reducible refine po_bind_cond (fun _ => ?_) (fun _ => ?_)
    | with_reducible refine po_bl (fun _ _ => ?_))
theorem km_d_back {F : Nat → Int32} {A : Nat → Nat → Int32} {J : Nat → Nat → Int64} {x1 : Int32}  (h : KM Fr Ar F A) : po (d_back F A J x1) (fun r => KM Fr Ar r.2.1 r.2.2.1) := by
  unfold d_back
  repeat' (first
    | with_reducible exact po_some (by assumption)
    | (with_reducible refine km_pf (by assumption) (by decide) ?_; intro _ _)
    | (with_reducible refine km_st (by assumption) (by decide) ?_; intro _ _)
    | (with_reducible refine km_pz (by assumption) (by decide) ?_; intro _ _)
    | with_reducible refine po_cond (fun _ => ?_) (fun _ => ?_)
    | with_reducible refine po_bind_cond (fun _ => ?_) (fun _ => ?_)
    | with_reducible refine po_bl (fun _ _ => ?_))
theorem km_d_takes_2   : ∀ {n : Nat} {F : Nat → Int32} {A : Nat → Nat → Int32} {J : Nat → Nat → Int64} {x1 : Int32}, KM Fr Ar F A → po (d_takes_2  n F A J x1) (fun r => KM Fr Ar r.2.1 r.2.2.1) := by
  intro n
  induction n with
  | zero => intro F A J x1 _ r hr; cases hr
  | succ n ih =>
    intro F A J x1 h
    unfold d_takes_2
    repeat' (first
      | with_reducible exact po_some (by assumption)
      | (with_reducible refine km_pf (by assumption) (by decide) ?_; intro _ _)
      | (with_reducible refine km_st (by assumption) (by decide) ?_; intro _ _)
      | (with_reducible refine km_pz (by assumption) (by decide) ?_; intro _ _)
      | with_reducible exact ih (by assumption)
      | (with_reducible refine po_call (ih (by assumption)) ?_; rintro ⟨_, _, _, _⟩ _; try dsimp only)
      | (intros; with_reducible exact ih (by assumption))
      | with_reducible refine po_cond (fun _ => ?_) (fun _ => ?_)
      | with_reducible refine po_bind_cond (fun _ => ?_) (fun _ => ?_)
      | with_reducible refine po_bl (fun _ _ => ?_))
theorem km_d_takes {n : Nat} {F : Nat → Int32} {A : Nat → Nat → Int32} {J : Nat → Nat → Int64}  (h : KM Fr Ar F A) : po (d_takes n F A J) (fun r => KM Fr Ar r.2.1 r.2.2.1) := by
  unfold d_takes
  repeat' (first
    | with_reducible exact po_some (by assumption)
    | (with_reducible refine km_pf (by assumption) (by decide) ?_; intro _ _)
    | (with_reducible refine km_st (by assumption) (by decide) ?_; intro _ _)
    | (with_reducible refine km_pz (by assumption) (by decide) ?_; intro _ _)
    | with_reducible exact km_d_takes_2 (by assumption)
    | (with_reducible refine po_call (km_d_takes_2 (by assumption)) ?_; rintro ⟨_, _, _, _⟩ _; try dsimp only)
    | with_reducible refine po_cond (fun _ => ?_) (fun _ => ?_)
    | with_reducible refine po_bind_cond (fun _ => ?_) (fun _ => ?_)
    | with_reducible refine po_bl (fun _ _ => ?_))
theorem km_d_task {n : Nat} {F : Nat → Int32} {A : Nat → Nat → Int32} {J : Nat → Nat → Int64} {x1 : Int32} {x2 : Int32}  (h : KM Fr Ar F A) : po (d_task n F A J x1 x2) (fun r => KM Fr Ar r.2.1 r.2.2.1) := by
  unfold d_task
  repeat' (first
    | with_reducible exact po_some (by assumption)
    | (with_reducible refine km_pf (by assumption) (by decide) ?_; intro _ _)
    | (with_reducible refine km_st (by assumption) (by decide) ?_; intro _ _)
    | (with_reducible refine km_pz (by assumption) (by decide) ?_; intro _ _)
    | with_reducible exact km_d_takes (by assumption)
    | (with_reducible refine po_call (km_d_takes (by assumption)) ?_; rintro ⟨_, _, _, _⟩ _; try dsimp only)
    | with_reducible refine po_cond (fun _ => ?_) (fun _ => ?_)
    | with_reducible refine po_bind_cond (fun _ => ?_) (fun _ => ?_)
    | with_reducible refine po_bl (fun _ _ => ?_))
theorem km_d_fillsWays_263 {K170 : (Nat → Int32) → (Nat → Nat → Int32) → (Nat → Nat → Int64) → Int32 → Option (Unit × (Nat → Int32) × (Nat → Nat → Int32) × (Nat → Nat → Int64))} {K178 : (Nat → Int32) → (Nat → Nat → Int32) → (Nat → Nat → Int64) → Int32 → Int32 → Option (Unit × (Nat → Int32) × (Nat → Nat → Int32) × (Nat → Nat → Int64))} {K186 : (Nat → Int32) → (Nat → Nat → Int32) → (Nat → Nat → Int64) → Int32 → Int32 → Int32 → Option (Unit × (Nat → Int32) × (Nat → Nat → Int32) × (Nat → Nat → Int64))} {n : Nat} {F : Nat → Int32} {A : Nat → Nat → Int32} {J : Nat → Nat → Int64} {x1 : Int32} {x2 : Int32} {x3 : Int32} (hK170 : ∀ (a0 : Nat → Int32) (a1 : Nat → Nat → Int32) (a2 : Nat → Nat → Int64) (a3 : Int32), KM Fr Ar a0 a1 → po (K170 a0 a1 a2 a3) (fun r => KM Fr Ar r.2.1 r.2.2.1)) (hK178 : ∀ (a0 : Nat → Int32) (a1 : Nat → Nat → Int32) (a2 : Nat → Nat → Int64) (a3 : Int32) (a4 : Int32), KM Fr Ar a0 a1 → po (K178 a0 a1 a2 a3 a4) (fun r => KM Fr Ar r.2.1 r.2.2.1)) (hK186 : ∀ (a0 : Nat → Int32) (a1 : Nat → Nat → Int32) (a2 : Nat → Nat → Int64) (a3 : Int32) (a4 : Int32) (a5 : Int32), KM Fr Ar a0 a1 → po (K186 a0 a1 a2 a3 a4 a5) (fun r => KM Fr Ar r.2.1 r.2.2.1)) (h : KM Fr Ar F A) : po (d_fillsWays_263 K170 K178 K186 n F A J x1 x2 x3) (fun r => KM Fr Ar r.2.1 r.2.2.1) := by
  unfold d_fillsWays_263
  repeat' (first
    | with_reducible exact po_some (by assumption)
    | (with_reducible refine km_pf (by assumption) (by decide) ?_; intro _ _)
    | (with_reducible refine km_st (by assumption) (by decide) ?_; intro _ _)
    | (with_reducible refine km_pz (by assumption) (by decide) ?_; intro _ _)
    | with_reducible exact hK170 _ _ _ _ (by assumption)
    | (intros; with_reducible exact hK170 _ _ _ _ (by assumption))
    | with_reducible exact hK178 _ _ _ _ _ (by assumption)
    | (intros; with_reducible exact hK178 _ _ _ _ _ (by assumption))
    | with_reducible exact hK186 _ _ _ _ _ _ (by assumption)
    | (intros; with_reducible exact hK186 _ _ _ _ _ _ (by assumption))
    | with_reducible refine po_cond (fun _ => ?_) (fun _ => ?_)
    | with_reducible refine po_bind_cond (fun _ => ?_) (fun _ => ?_)
    | with_reducible refine po_bl (fun _ _ => ?_))
theorem km_d_fillsWays_186 {K170 : (Nat → Int32) → (Nat → Nat → Int32) → (Nat → Nat → Int64) → Int32 → Option (Unit × (Nat → Int32) × (Nat → Nat → Int32) × (Nat → Nat → Int64))} {K178 : (Nat → Int32) → (Nat → Nat → Int32) → (Nat → Nat → Int64) → Int32 → Int32 → Option (Unit × (Nat → Int32) × (Nat → Nat → Int32) × (Nat → Nat → Int64))} (hK170 : ∀ (a0 : Nat → Int32) (a1 : Nat → Nat → Int32) (a2 : Nat → Nat → Int64) (a3 : Int32), KM Fr Ar a0 a1 → po (K170 a0 a1 a2 a3) (fun r => KM Fr Ar r.2.1 r.2.2.1)) (hK178 : ∀ (a0 : Nat → Int32) (a1 : Nat → Nat → Int32) (a2 : Nat → Nat → Int64) (a3 : Int32) (a4 : Int32), KM Fr Ar a0 a1 → po (K178 a0 a1 a2 a3 a4) (fun r => KM Fr Ar r.2.1 r.2.2.1)) : ∀ {n : Nat} {F : Nat → Int32} {A : Nat → Nat → Int32} {J : Nat → Nat → Int64} {x1 : Int32} {x2 : Int32} {x3 : Int32}, KM Fr Ar F A → po (d_fillsWays_186 K170 K178 n F A J x1 x2 x3) (fun r => KM Fr Ar r.2.1 r.2.2.1) := by
  intro n
  induction n with
  | zero => intro F A J x1 x2 x3 _ r hr; cases hr
  | succ n ih =>
    intro F A J x1 x2 x3 h
    unfold d_fillsWays_186
    repeat' (first
      | with_reducible exact po_some (by assumption)
      | (with_reducible refine km_pf (by assumption) (by decide) ?_; intro _ _)
      | (with_reducible refine km_st (by assumption) (by decide) ?_; intro _ _)
      | (with_reducible refine km_pz (by assumption) (by decide) ?_; intro _ _)
      | with_reducible refine km_d_fillsWays_263 ?_ ?_ ?_ (by assumption)
      | (with_reducible refine po_call (km_d_fillsWays_263 ?_ ?_ ?_ (by assumption)) ?_)
      | with_reducible exact hK170 _ _ _ _ (by assumption)
      | (intros; with_reducible exact hK170 _ _ _ _ (by assumption))
      | with_reducible exact hK178 _ _ _ _ _ (by assumption)
      | (intros; with_reducible exact hK178 _ _ _ _ _ (by assumption))
      | with_reducible exact ih (by assumption)
      | (with_reducible refine po_call (ih (by assumption)) ?_; rintro ⟨_, _, _, _⟩ _; try dsimp only)
      | (intros; with_reducible exact ih (by assumption))
      | with_reducible refine po_cond (fun _ => ?_) (fun _ => ?_)
      | with_reducible refine po_bind_cond (fun _ => ?_) (fun _ => ?_)
      | with_reducible refine po_bl (fun _ _ => ?_))
theorem km_d_fillsWays_178 {K170 : (Nat → Int32) → (Nat → Nat → Int32) → (Nat → Nat → Int64) → Int32 → Option (Unit × (Nat → Int32) × (Nat → Nat → Int32) × (Nat → Nat → Int64))} (hK170 : ∀ (a0 : Nat → Int32) (a1 : Nat → Nat → Int32) (a2 : Nat → Nat → Int64) (a3 : Int32), KM Fr Ar a0 a1 → po (K170 a0 a1 a2 a3) (fun r => KM Fr Ar r.2.1 r.2.2.1)) : ∀ {n : Nat} {F : Nat → Int32} {A : Nat → Nat → Int32} {J : Nat → Nat → Int64} {x1 : Int32} {x2 : Int32}, KM Fr Ar F A → po (d_fillsWays_178 K170 n F A J x1 x2) (fun r => KM Fr Ar r.2.1 r.2.2.1) := by
  intro n
  induction n with
  | zero => intro F A J x1 x2 _ r hr; cases hr
  | succ n ih =>
    intro F A J x1 x2 h
    unfold d_fillsWays_178
    repeat' (first
      | with_reducible exact po_some (by assumption)
      | (with_reducible refine km_pf (by assumption) (by decide) ?_; intro _ _)
      | (with_reducible refine km_st (by assumption) (by decide) ?_; intro _ _)
      | (with_reducible refine km_pz (by assumption) (by decide) ?_; intro _ _)
      | with_reducible refine km_d_fillsWays_186 ?_ ?_ (by assumption)
      | (with_reducible refine po_call (km_d_fillsWays_186 ?_ ?_ (by assumption)) ?_)
      | with_reducible exact hK170 _ _ _ _ (by assumption)
      | (intros; with_reducible exact hK170 _ _ _ _ (by assumption))
      | with_reducible exact ih (by assumption)
      | (with_reducible refine po_call (ih (by assumption)) ?_; rintro ⟨_, _, _, _⟩ _; try dsimp only)
      | (intros; with_reducible exact ih (by assumption))
      | with_reducible refine po_cond (fun _ => ?_) (fun _ => ?_)
      | with_reducible refine po_bind_cond (fun _ => ?_) (fun _ => ?_)
      | with_reducible refine po_bl (fun _ _ => ?_))
theorem km_d_fillsWays_170   : ∀ {n : Nat} {F : Nat → Int32} {A : Nat → Nat → Int32} {J : Nat → Nat → Int64} {x1 : Int32}, KM Fr Ar F A → po (d_fillsWays_170  n F A J x1) (fun r => KM Fr Ar r.2.1 r.2.2.1) := by
  intro n
  induction n with
  | zero => intro F A J x1 _ r hr; cases hr
  | succ n ih =>
    intro F A J x1 h
    unfold d_fillsWays_170
    repeat' (first
      | with_reducible exact po_some (by assumption)
      | (with_reducible refine km_pf (by assumption) (by decide) ?_; intro _ _)
      | (with_reducible refine km_st (by assumption) (by decide) ?_; intro _ _)
      | (with_reducible refine km_pz (by assumption) (by decide) ?_; intro _ _)
      | with_reducible refine km_d_fillsWays_178 ?_ (by assumption)
      | (with_reducible refine po_call (km_d_fillsWays_178 ?_ (by assumption)) ?_)
      | with_reducible exact ih (by assumption)
      | (with_reducible refine po_call (ih (by assumption)) ?_; rintro ⟨_, _, _, _⟩ _; try dsimp only)
      | (intros; with_reducible exact ih (by assumption))
      | with_reducible refine po_cond (fun _ => ?_) (fun _ => ?_)
      | with_reducible refine po_bind_cond (fun _ => ?_) (fun _ => ?_)
      | with_reducible refine po_bl (fun _ _ => ?_))
theorem km_d_fillsWays_162 {K40 : (Nat → Int32) → (Nat → Nat → Int32) → (Nat → Nat → Int64) → Int32 → Option (Unit × (Nat → Int32) × (Nat → Nat → Int32) × (Nat → Nat → Int64))} {n : Nat} {F : Nat → Int32} {A : Nat → Nat → Int32} {J : Nat → Nat → Int64} {x1 : Int32} (hK40 : ∀ (a0 : Nat → Int32) (a1 : Nat → Nat → Int32) (a2 : Nat → Nat → Int64) (a3 : Int32), KM Fr Ar a0 a1 → po (K40 a0 a1 a2 a3) (fun r => KM Fr Ar r.2.1 r.2.2.1)) (h : KM Fr Ar F A) : po (d_fillsWays_162 K40 n F A J x1) (fun r => KM Fr Ar r.2.1 r.2.2.1) := by
  unfold d_fillsWays_162
  repeat' (first
    | with_reducible exact po_some (by assumption)
    | (with_reducible refine km_pf (by assumption) (by decide) ?_; intro _ _)
    | (with_reducible refine km_st (by assumption) (by decide) ?_; intro _ _)
    | (with_reducible refine km_pz (by assumption) (by decide) ?_; intro _ _)
    | with_reducible exact hK40 _ _ _ _ (by assumption)
    | (intros; with_reducible exact hK40 _ _ _ _ (by assumption))
    | with_reducible refine po_cond (fun _ => ?_) (fun _ => ?_)
    | with_reducible refine po_bind_cond (fun _ => ?_) (fun _ => ?_)
    | with_reducible refine po_bl (fun _ _ => ?_))
theorem km_d_fillsWays_40   : ∀ {n : Nat} {F : Nat → Int32} {A : Nat → Nat → Int32} {J : Nat → Nat → Int64} {x1 : Int32}, KM Fr Ar F A → po (d_fillsWays_40  n F A J x1) (fun r => KM Fr Ar r.2.1 r.2.2.1) := by
  intro n
  induction n with
  | zero => intro F A J x1 _ r hr; cases hr
  | succ n ih =>
    intro F A J x1 h
    unfold d_fillsWays_40
    repeat' (first
      | with_reducible exact po_some (by assumption)
      | (with_reducible refine km_pf (by assumption) (by decide) ?_; intro _ _)
      | (with_reducible refine km_st (by assumption) (by decide) ?_; intro _ _)
      | (with_reducible refine km_pz (by assumption) (by decide) ?_; intro _ _)
      | with_reducible exact km_d_fillsWays_170 (by assumption)
      | (with_reducible refine po_call (km_d_fillsWays_170 (by assumption)) ?_; rintro ⟨_, _, _, _⟩ _; try dsimp only)
      | with_reducible refine km_d_fillsWays_162 ?_ (by assumption)
      | (with_reducible refine po_call (km_d_fillsWays_162 ?_ (by assumption)) ?_)
      | with_reducible exact ih (by assumption)
      | (with_reducible refine po_call (ih (by assumption)) ?_; rintro ⟨_, _, _, _⟩ _; try dsimp only)
      | (intros; with_reducible exact ih (by assumption))
      | with_reducible refine po_cond (fun _ => ?_) (fun _ => ?_)
      | with_reducible refine po_bind_cond (fun _ => ?_) (fun _ => ?_)
      | with_reducible refine po_bl (fun _ _ => ?_))
theorem km_d_fillsWays_31 {K2 : (Nat → Int32) → (Nat → Nat → Int32) → (Nat → Nat → Int64) → Int32 → Option (Unit × (Nat → Int32) × (Nat → Nat → Int32) × (Nat → Nat → Int64))} {n : Nat} {F : Nat → Int32} {A : Nat → Nat → Int32} {J : Nat → Nat → Int64} {x1 : Int32} {s1 : Int32} {s2 : Int32} (hK2 : ∀ (a0 : Nat → Int32) (a1 : Nat → Nat → Int32) (a2 : Nat → Nat → Int64) (a3 : Int32), KM Fr Ar a0 a1 → po (K2 a0 a1 a2 a3) (fun r => KM Fr Ar r.2.1 r.2.2.1)) (h : KM Fr Ar F A) : po (d_fillsWays_31 K2 n F A J x1 s1 s2) (fun r => KM Fr Ar r.2.1 r.2.2.1) := by
  unfold d_fillsWays_31
  repeat' (first
    | with_reducible exact po_some (by assumption)
    | (with_reducible refine km_pf (by assumption) (by decide) ?_; intro _ _)
    | (with_reducible refine km_st (by assumption) (by decide) ?_; intro _ _)
    | (with_reducible refine km_pz (by assumption) (by decide) ?_; intro _ _)
    | with_reducible exact hK2 _ _ _ _ (by assumption)
    | (intros; with_reducible exact hK2 _ _ _ _ (by assumption))
    | with_reducible refine po_cond (fun _ => ?_) (fun _ => ?_)
    | with_reducible refine po_bind_cond (fun _ => ?_) (fun _ => ?_)
    | with_reducible refine po_bl (fun _ _ => ?_))
theorem km_d_fillsWays_2   : ∀ {n : Nat} {F : Nat → Int32} {A : Nat → Nat → Int32} {J : Nat → Nat → Int64} {x1 : Int32}, KM Fr Ar F A → po (d_fillsWays_2  n F A J x1) (fun r => KM Fr Ar r.2.1 r.2.2.1) := by
  intro n
  induction n with
  | zero => intro F A J x1 _ r hr; cases hr
  | succ n ih =>
    intro F A J x1 h
    unfold d_fillsWays_2
    repeat' (first
      | with_reducible exact po_some (by assumption)
      | (with_reducible refine km_pf (by assumption) (by decide) ?_; intro _ _)
      | (with_reducible refine km_st (by assumption) (by decide) ?_; intro _ _)
      | (with_reducible refine km_pz (by assumption) (by decide) ?_; intro _ _)
      | with_reducible exact km_d_fillsWays_40 (by assumption)
      | (with_reducible refine po_call (km_d_fillsWays_40 (by assumption)) ?_; rintro ⟨_, _, _, _⟩ _; try dsimp only)
      | with_reducible refine km_d_fillsWays_31 ?_ (by assumption)
      | (with_reducible refine po_call (km_d_fillsWays_31 ?_ (by assumption)) ?_)
      | with_reducible exact ih (by assumption)
      | (with_reducible refine po_call (ih (by assumption)) ?_; rintro ⟨_, _, _, _⟩ _; try dsimp only)
      | (intros; with_reducible exact ih (by assumption))
      | with_reducible refine po_cond (fun _ => ?_) (fun _ => ?_)
      | with_reducible refine po_bind_cond (fun _ => ?_) (fun _ => ?_)
      | with_reducible refine po_bl (fun _ _ => ?_))
theorem km_d_fillsWays {n : Nat} {F : Nat → Int32} {A : Nat → Nat → Int32} {J : Nat → Nat → Int64}  (h : KM Fr Ar F A) : po (d_fillsWays n F A J) (fun r => KM Fr Ar r.2.1 r.2.2.1) := by
  unfold d_fillsWays
  repeat' (first
    | with_reducible exact po_some (by assumption)
    | (with_reducible refine km_pf (by assumption) (by decide) ?_; intro _ _)
    | (with_reducible refine km_st (by assumption) (by decide) ?_; intro _ _)
    | (with_reducible refine km_pz (by assumption) (by decide) ?_; intro _ _)
    | with_reducible exact km_d_fillsWays_2 (by assumption)
    | (with_reducible refine po_call (km_d_fillsWays_2 (by assumption)) ?_; rintro ⟨_, _, _, _⟩ _; try dsimp only)
    | with_reducible refine po_cond (fun _ => ?_) (fun _ => ?_)
    | with_reducible refine po_bind_cond (fun _ => ?_) (fun _ => ?_)
    | with_reducible refine po_bl (fun _ _ => ?_))
theorem km_d_way {n : Nat} {F : Nat → Int32} {A : Nat → Nat → Int32} {J : Nat → Nat → Int64} {x1 : Int32} {x2 : Int32}  (h : KM Fr Ar F A) : po (d_way n F A J x1 x2) (fun r => KM Fr Ar r.2.1 r.2.2.1) := by
  unfold d_way
  repeat' (first
    | with_reducible exact po_some (by assumption)
    | (with_reducible refine km_pf (by assumption) (by decide) ?_; intro _ _)
    | (with_reducible refine km_st (by assumption) (by decide) ?_; intro _ _)
    | (with_reducible refine km_pz (by assumption) (by decide) ?_; intro _ _)
    | with_reducible exact km_d_takes (by assumption)
    | (with_reducible refine po_call (km_d_takes (by assumption)) ?_; rintro ⟨_, _, _, _⟩ _; try dsimp only)
    | with_reducible exact km_d_fillsWays (by assumption)
    | (with_reducible refine po_call (km_d_fillsWays (by assumption)) ?_; rintro ⟨_, _, _, _⟩ _; try dsimp only)
    | with_reducible refine po_cond (fun _ => ?_) (fun _ => ?_)
    | with_reducible refine po_bind_cond (fun _ => ?_) (fun _ => ?_)
    | with_reducible refine po_bl (fun _ _ => ?_))
theorem km_d_leave {F : Nat → Int32} {A : Nat → Nat → Int32} {J : Nat → Nat → Int64} {x1 : Int32} {x2 : Int32} {x3 : Int32}  (h : KM Fr Ar F A) : po (d_leave F A J x1 x2 x3) (fun r => KM Fr Ar r.2.1 r.2.2.1) := by
  unfold d_leave
  repeat' (first
    | with_reducible exact po_some (by assumption)
    | (with_reducible refine km_pf (by assumption) (by decide) ?_; intro _ _)
    | (with_reducible refine km_st (by assumption) (by decide) ?_; intro _ _)
    | (with_reducible refine km_pz (by assumption) (by decide) ?_; intro _ _)
    | with_reducible refine po_cond (fun _ => ?_) (fun _ => ?_)
    | with_reducible refine po_bind_cond (fun _ => ?_) (fun _ => ?_)
    | with_reducible refine po_bl (fun _ _ => ?_))
theorem km_d_does {F : Nat → Int32} {A : Nat → Nat → Int32} {J : Nat → Nat → Int64} {x1 : Int32} {x2 : Int32}  (h : KM Fr Ar F A) : po (d_does F A J x1 x2) (fun r => KM Fr Ar r.2.1 r.2.2.1) := by
  unfold d_does
  repeat' (first
    | with_reducible exact po_some (by assumption)
    | (with_reducible refine km_pf (by assumption) (by decide) ?_; intro _ _)
    | (with_reducible refine km_st (by assumption) (by decide) ?_; intro _ _)
    | (with_reducible refine km_pz (by assumption) (by decide) ?_; intro _ _)
    | with_reducible refine po_cond (fun _ => ?_) (fun _ => ?_)
    | with_reducible refine po_bind_cond (fun _ => ?_) (fun _ => ?_)
    | with_reducible refine po_bl (fun _ _ => ?_))
theorem km_d_work_42   : ∀ {n : Nat} {F : Nat → Int32} {A : Nat → Nat → Int32} {J : Nat → Nat → Int64} {x3 : Int32}, KM Fr Ar F A → po (d_work_42  n F A J x3) (fun r => KM Fr Ar r.2.1 r.2.2.1) := by
  intro n
  induction n with
  | zero => intro F A J x3 _ r hr; cases hr
  | succ n ih =>
    intro F A J x3 h
    unfold d_work_42
    repeat' (first
      | with_reducible exact po_some (by assumption)
      | (with_reducible refine km_pf (by assumption) (by decide) ?_; intro _ _)
      | (with_reducible refine km_st (by assumption) (by decide) ?_; intro _ _)
      | (with_reducible refine km_pz (by assumption) (by decide) ?_; intro _ _)
      | with_reducible exact ih (by assumption)
      | (with_reducible refine po_call (ih (by assumption)) ?_; rintro ⟨_, _, _, _⟩ _; try dsimp only)
      | (intros; with_reducible exact ih (by assumption))
      | with_reducible refine po_cond (fun _ => ?_) (fun _ => ?_)
      | with_reducible refine po_bind_cond (fun _ => ?_) (fun _ => ?_)
      | with_reducible refine po_bl (fun _ _ => ?_))
theorem km_d_work {n : Nat} {F : Nat → Int32} {A : Nat → Nat → Int32} {J : Nat → Nat → Int64} {x1 : Int32} {x2 : Int32}  (h : KM Fr Ar F A) : po (d_work n F A J x1 x2) (fun r => KM Fr Ar r.2.1 r.2.2.1) := by
  unfold d_work
  repeat' (first
    | with_reducible exact po_some (by assumption)
    | (with_reducible refine km_pf (by assumption) (by decide) ?_; intro _ _)
    | (with_reducible refine km_st (by assumption) (by decide) ?_; intro _ _)
    | (with_reducible refine km_pz (by assumption) (by decide) ?_; intro _ _)
    | with_reducible exact km_d_takes (by assumption)
    | (with_reducible refine po_call (km_d_takes (by assumption)) ?_; rintro ⟨_, _, _, _⟩ _; try dsimp only)
    | with_reducible exact km_d_does (by assumption)
    | (with_reducible refine po_call (km_d_does (by assumption)) ?_; rintro ⟨_, _, _, _⟩ _; try dsimp only)
    | with_reducible exact km_d_work_42 (by assumption)
    | (with_reducible refine po_call (km_d_work_42 (by assumption)) ?_; rintro ⟨_, _, _, _⟩ _; try dsimp only)
    | with_reducible refine po_cond (fun _ => ?_) (fun _ => ?_)
    | with_reducible refine po_bind_cond (fun _ => ?_) (fun _ => ?_)
    | with_reducible refine po_bl (fun _ _ => ?_))
theorem km_d_lay {F : Nat → Int32} {A : Nat → Nat → Int32} {J : Nat → Nat → Int64} {x1 : Int32} {x2 : Int32}  (h : KM Fr Ar F A) : po (d_lay F A J x1 x2) (fun r => KM Fr Ar r.2.1 r.2.2.1) := by
  unfold d_lay
  repeat' (first
    | with_reducible exact po_some (by assumption)
    | (with_reducible refine km_pf (by assumption) (by decide) ?_; intro _ _)
    | (with_reducible refine km_st (by assumption) (by decide) ?_; intro _ _)
    | (with_reducible refine km_pz (by assumption) (by decide) ?_; intro _ _)
    | with_reducible refine po_cond (fun _ => ?_) (fun _ => ?_)
    | with_reducible refine po_bind_cond (fun _ => ?_) (fun _ => ?_)
    | with_reducible refine po_bl (fun _ _ => ?_))
theorem km_d_give {F : Nat → Int32} {A : Nat → Nat → Int32} {J : Nat → Nat → Int64} {x1 : Int32} {x2 : Int32}  (h : KM Fr Ar F A) : po (d_give F A J x1 x2) (fun r => KM Fr Ar r.2.1 r.2.2.1) := by
  unfold d_give
  repeat' (first
    | with_reducible exact po_some (by assumption)
    | (with_reducible refine km_pf (by assumption) (by decide) ?_; intro _ _)
    | (with_reducible refine km_st (by assumption) (by decide) ?_; intro _ _)
    | (with_reducible refine km_pz (by assumption) (by decide) ?_; intro _ _)
    | with_reducible refine po_cond (fun _ => ?_) (fun _ => ?_)
    | with_reducible refine po_bind_cond (fun _ => ?_) (fun _ => ?_)
    | with_reducible refine po_bl (fun _ _ => ?_))
theorem km_d_bar_58 {F : Nat → Int32} {A : Nat → Nat → Int32} {J : Nat → Nat → Int64} {s1 : Int32} {s2 : Int32}  (h : KM Fr Ar F A) : po (d_bar_58 F A J s1 s2) (fun r => KM Fr Ar r.2.1 r.2.2.1) := by
  unfold d_bar_58
  repeat' (first
    | with_reducible exact po_some (by assumption)
    | (with_reducible refine km_pf (by assumption) (by decide) ?_; intro _ _)
    | (with_reducible refine km_st (by assumption) (by decide) ?_; intro _ _)
    | (with_reducible refine km_pz (by assumption) (by decide) ?_; intro _ _)
    | with_reducible refine po_cond (fun _ => ?_) (fun _ => ?_)
    | with_reducible refine po_bind_cond (fun _ => ?_) (fun _ => ?_)
    | with_reducible refine po_bl (fun _ _ => ?_))
theorem km_d_bar {F : Nat → Int32} {A : Nat → Nat → Int32} {J : Nat → Nat → Int64} {x1 : Int32} {x2 : Int32}  (h : KM Fr Ar F A) : po (d_bar F A J x1 x2) (fun r => KM Fr Ar r.2.1 r.2.2.1) := by
  unfold d_bar
  repeat' (first
    | with_reducible exact po_some (by assumption)
    | (with_reducible refine km_pf (by assumption) (by decide) ?_; intro _ _)
    | (with_reducible refine km_st (by assumption) (by decide) ?_; intro _ _)
    | (with_reducible refine km_pz (by assumption) (by decide) ?_; intro _ _)
    | with_reducible exact km_d_bar_58 (by assumption)
    | (with_reducible refine po_call (km_d_bar_58 (by assumption)) ?_; rintro ⟨_, _, _, _⟩ _; try dsimp only)
    | with_reducible refine po_cond (fun _ => ?_) (fun _ => ?_)
    | with_reducible refine po_bind_cond (fun _ => ?_) (fun _ => ?_)
    | with_reducible refine po_bl (fun _ _ => ?_))
theorem km_d_goesTill_128 {K27 : (Nat → Int32) → (Nat → Nat → Int32) → (Nat → Nat → Int64) → Int32 → Int32 → Option (Unit × (Nat → Int32) × (Nat → Nat → Int32) × (Nat → Nat → Int64))} {n : Nat} {F : Nat → Int32} {A : Nat → Nat → Int32} {J : Nat → Nat → Int64} {x1 : Int32} {x2 : Int32} (hK27 : ∀ (a0 : Nat → Int32) (a1 : Nat → Nat → Int32) (a2 : Nat → Nat → Int64) (a3 : Int32) (a4 : Int32), KM Fr Ar a0 a1 → po (K27 a0 a1 a2 a3 a4) (fun r => KM Fr Ar r.2.1 r.2.2.1)) (h : KM Fr Ar F A) : po (d_goesTill_128 K27 n F A J x1 x2) (fun r => KM Fr Ar r.2.1 r.2.2.1) := by
  unfold d_goesTill_128
  repeat' (first
    | with_reducible exact po_some (by assumption)
    | (with_reducible refine km_pf (by assumption) (by decide) ?_; intro _ _)
    | (with_reducible refine km_st (by assumption) (by decide) ?_; intro _ _)
    | (with_reducible refine km_pz (by assumption) (by decide) ?_; intro _ _)
    | with_reducible exact hK27 _ _ _ _ _ (by assumption)
    | (intros; with_reducible exact hK27 _ _ _ _ _ (by assumption))
    | with_reducible refine po_cond (fun _ => ?_) (fun _ => ?_)
    | with_reducible refine po_bind_cond (fun _ => ?_) (fun _ => ?_)
    | with_reducible refine po_bl (fun _ _ => ?_))
theorem km_d_goesTill_122 {K27 : (Nat → Int32) → (Nat → Nat → Int32) → (Nat → Nat → Int64) → Int32 → Int32 → Option (Unit × (Nat → Int32) × (Nat → Nat → Int32) × (Nat → Nat → Int64))} {K75 : (Nat → Int32) → (Nat → Nat → Int32) → (Nat → Nat → Int64) → Int32 → Int32 → Int32 → Option (Unit × (Nat → Int32) × (Nat → Nat → Int32) × (Nat → Nat → Int64))} {n : Nat} {F : Nat → Int32} {A : Nat → Nat → Int32} {J : Nat → Nat → Int64} {x1 : Int32} {x2 : Int32} {x3 : Int32} (hK27 : ∀ (a0 : Nat → Int32) (a1 : Nat → Nat → Int32) (a2 : Nat → Nat → Int64) (a3 : Int32) (a4 : Int32), KM Fr Ar a0 a1 → po (K27 a0 a1 a2 a3 a4) (fun r => KM Fr Ar r.2.1 r.2.2.1)) (hK75 : ∀ (a0 : Nat → Int32) (a1 : Nat → Nat → Int32) (a2 : Nat → Nat → Int64) (a3 : Int32) (a4 : Int32) (a5 : Int32), KM Fr Ar a0 a1 → po (K75 a0 a1 a2 a3 a4 a5) (fun r => KM Fr Ar r.2.1 r.2.2.1)) (h : KM Fr Ar F A) : po (d_goesTill_122 K27 K75 n F A J x1 x2 x3) (fun r => KM Fr Ar r.2.1 r.2.2.1) := by
  unfold d_goesTill_122
  repeat' (first
    | with_reducible exact po_some (by assumption)
    | (with_reducible refine km_pf (by assumption) (by decide) ?_; intro _ _)
    | (with_reducible refine km_st (by assumption) (by decide) ?_; intro _ _)
    | (with_reducible refine km_pz (by assumption) (by decide) ?_; intro _ _)
    | with_reducible exact hK27 _ _ _ _ _ (by assumption)
    | (intros; with_reducible exact hK27 _ _ _ _ _ (by assumption))
    | with_reducible exact hK75 _ _ _ _ _ _ (by assumption)
    | (intros; with_reducible exact hK75 _ _ _ _ _ _ (by assumption))
    | with_reducible refine po_cond (fun _ => ?_) (fun _ => ?_)
    | with_reducible refine po_bind_cond (fun _ => ?_) (fun _ => ?_)
    | with_reducible refine po_bl (fun _ _ => ?_))
theorem km_d_termOf_158 {K5 : (Nat → Int32) → (Nat → Nat → Int32) → (Nat → Nat → Int64) → Int32 → Int32 → Int32 → Option (Int32 × (Nat → Int32) × (Nat → Nat → Int32) × (Nat → Nat → Int64))} {n : Nat} {F : Nat → Int32} {A : Nat → Nat → Int32} {J : Nat → Nat → Int64} {x2 : Int32} {x3 : Int32} {x4 : Int32} {s1 : Int32} {s2 : Int32} (hK5 : ∀ (a0 : Nat → Int32) (a1 : Nat → Nat → Int32) (a2 : Nat → Nat → Int64) (a3 : Int32) (a4 : Int32) (a5 : Int32), KM Fr Ar a0 a1 → po (K5 a0 a1 a2 a3 a4 a5) (fun r => KM Fr Ar r.2.1 r.2.2.1)) (h : KM Fr Ar F A) : po (d_termOf_158 K5 n F A J x2 x3 x4 s1 s2) (fun r => KM Fr Ar r.2.1 r.2.2.1) := by
  unfold d_termOf_158
  repeat' (first
    | with_reducible exact po_some (by assumption)
    | (with_reducible refine km_pf (by assumption) (by decide) ?_; intro _ _)
    | (with_reducible refine km_st (by assumption) (by decide) ?_; intro _ _)
    | (with_reducible refine km_pz (by assumption) (by decide) ?_; intro _ _)
    | with_reducible exact hK5 _ _ _ _ _ _ (by assumption)
    | (intros; with_reducible exact hK5 _ _ _ _ _ _ (by assumption))
    | with_reducible refine po_cond (fun _ => ?_) (fun _ => ?_)
    | with_reducible refine po_bind_cond (fun _ => ?_) (fun _ => ?_)
    | with_reducible refine po_bl (fun _ _ => ?_))
theorem km_d_termOf_104 {K5 : (Nat → Int32) → (Nat → Nat → Int32) → (Nat → Nat → Int64) → Int32 → Int32 → Int32 → Option (Int32 × (Nat → Int32) × (Nat → Nat → Int32) × (Nat → Nat → Int64))} {n : Nat} {F : Nat → Int32} {A : Nat → Nat → Int32} {J : Nat → Nat → Int64} {x2 : Int32} {x3 : Int32} {x4 : Int32} {x5 : Int32} {x6 : Int32} {x7 : Int32} (hK5 : ∀ (a0 : Nat → Int32) (a1 : Nat → Nat → Int32) (a2 : Nat → Nat → Int64) (a3 : Int32) (a4 : Int32) (a5 : Int32), KM Fr Ar a0 a1 → po (K5 a0 a1 a2 a3 a4 a5) (fun r => KM Fr Ar r.2.1 r.2.2.1)) (h : KM Fr Ar F A) : po (d_termOf_104 K5 n F A J x2 x3 x4 x5 x6 x7) (fun r => KM Fr Ar r.2.1 r.2.2.1) := by
  unfold d_termOf_104
  repeat' (first
    | with_reducible exact po_some (by assumption)
    | (with_reducible refine km_pf (by assumption) (by decide) ?_; intro _ _)
    | (with_reducible refine km_st (by assumption) (by decide) ?_; intro _ _)
    | (with_reducible refine km_pz (by assumption) (by decide) ?_; intro _ _)
    | with_reducible refine km_d_termOf_158 ?_ (by assumption)
    | (with_reducible refine po_call (km_d_termOf_158 ?_ (by assumption)) ?_)
    | with_reducible exact hK5 _ _ _ _ _ _ (by assumption)
    | (intros; with_reducible exact hK5 _ _ _ _ _ _ (by assumption))
    | with_reducible refine po_cond (fun _ => ?_) (fun _ => ?_)
    | with_reducible refine po_bind_cond (fun _ => ?_) (fun _ => ?_)
    | with_reducible refine po_bl (fun _ _ => ?_))
theorem km_d_termOf_159 {K5 : (Nat → Int32) → (Nat → Nat → Int32) → (Nat → Nat → Int64) → Int32 → Int32 → Int32 → Option (Int32 × (Nat → Int32) × (Nat → Nat → Int32) × (Nat → Nat → Int64))} {n : Nat} {F : Nat → Int32} {A : Nat → Nat → Int32} {J : Nat → Nat → Int64} {x2 : Int32} {x3 : Int32} {x4 : Int32} (hK5 : ∀ (a0 : Nat → Int32) (a1 : Nat → Nat → Int32) (a2 : Nat → Nat → Int64) (a3 : Int32) (a4 : Int32) (a5 : Int32), KM Fr Ar a0 a1 → po (K5 a0 a1 a2 a3 a4 a5) (fun r => KM Fr Ar r.2.1 r.2.2.1)) (h : KM Fr Ar F A) : po (d_termOf_159 K5 n F A J x2 x3 x4) (fun r => KM Fr Ar r.2.1 r.2.2.1) := by
  unfold d_termOf_159
  repeat' (first
    | with_reducible exact po_some (by assumption)
    | (with_reducible refine km_pf (by assumption) (by decide) ?_; intro _ _)
    | (with_reducible refine km_st (by assumption) (by decide) ?_; intro _ _)
    | (with_reducible refine km_pz (by assumption) (by decide) ?_; intro _ _)
    | with_reducible exact hK5 _ _ _ _ _ _ (by assumption)
    | (intros; with_reducible exact hK5 _ _ _ _ _ _ (by assumption))
    | with_reducible refine po_cond (fun _ => ?_) (fun _ => ?_)
    | with_reducible refine po_bind_cond (fun _ => ?_) (fun _ => ?_)
    | with_reducible refine po_bl (fun _ _ => ?_))
theorem km_d_termOf_58 {K5 : (Nat → Int32) → (Nat → Nat → Int32) → (Nat → Nat → Int64) → Int32 → Int32 → Int32 → Option (Int32 × (Nat → Int32) × (Nat → Nat → Int32) × (Nat → Nat → Int64))} {n : Nat} {F : Nat → Int32} {A : Nat → Nat → Int32} {J : Nat → Nat → Int64} {x2 : Int32} {x3 : Int32} {x4 : Int32} {s1 : Int32} {s2 : Int32} (hK5 : ∀ (a0 : Nat → Int32) (a1 : Nat → Nat → Int32) (a2 : Nat → Nat → Int64) (a3 : Int32) (a4 : Int32) (a5 : Int32), KM Fr Ar a0 a1 → po (K5 a0 a1 a2 a3 a4 a5) (fun r => KM Fr Ar r.2.1 r.2.2.1)) (h : KM Fr Ar F A) : po (d_termOf_58 K5 n F A J x2 x3 x4 s1 s2) (fun r => KM Fr Ar r.2.1 r.2.2.1) := by
  unfold d_termOf_58
  repeat' (first
    | with_reducible exact po_some (by assumption)
    | (with_reducible refine km_pf (by assumption) (by decide) ?_; intro _ _)
    | (with_reducible refine km_st (by assumption) (by decide) ?_; intro _ _)
    | (with_reducible refine km_pz (by assumption) (by decide) ?_; intro _ _)
    | with_reducible refine km_d_termOf_159 ?_ (by assumption)
    | (with_reducible refine po_call (km_d_termOf_159 ?_ (by assumption)) ?_)
    | with_reducible exact hK5 _ _ _ _ _ _ (by assumption)
    | (intros; with_reducible exact hK5 _ _ _ _ _ _ (by assumption))
    | with_reducible refine po_cond (fun _ => ?_) (fun _ => ?_)
    | with_reducible refine po_bind_cond (fun _ => ?_) (fun _ => ?_)
    | with_reducible refine po_bl (fun _ _ => ?_))
theorem km_d_termOf_5   : ∀ {n : Nat} {F : Nat → Int32} {A : Nat → Nat → Int32} {J : Nat → Nat → Int64} {x2 : Int32} {x3 : Int32} {x4 : Int32}, KM Fr Ar F A → po (d_termOf_5  n F A J x2 x3 x4) (fun r => KM Fr Ar r.2.1 r.2.2.1) := by
  intro n
  induction n with
  | zero => intro F A J x2 x3 x4 _ r hr; cases hr
  | succ n ih =>
    intro F A J x2 x3 x4 h
    unfold d_termOf_5
    repeat' (first
      | with_reducible exact po_some (by assumption)
      | (with_reducible refine km_pf (by assumption) (by decide) ?_; intro _ _)
      | (with_reducible refine km_st (by assumption) (by decide) ?_; intro _ _)
      | (with_reducible refine km_pz (by assumption) (by decide) ?_; intro _ _)
      | with_reducible refine km_d_termOf_104 ?_ (by assumption)
      | (with_reducible refine po_call (km_d_termOf_104 ?_ (by assumption)) ?_)
      | with_reducible refine km_d_termOf_159 ?_ (by assumption)
      | (with_reducible refine po_call (km_d_termOf_159 ?_ (by assumption)) ?_)
      | with_reducible refine km_d_termOf_58 ?_ (by assumption)
      | (with_reducible refine po_call (km_d_termOf_58 ?_ (by assumption)) ?_)
      | with_reducible exact ih (by assumption)
      | (with_reducible refine po_call (ih (by assumption)) ?_; rintro ⟨_, _, _, _⟩ _; try dsimp only)
      | (intros; with_reducible exact ih (by assumption))
      | with_reducible refine po_cond (fun _ => ?_) (fun _ => ?_)
      | with_reducible refine po_bind_cond (fun _ => ?_) (fun _ => ?_)
      | with_reducible refine po_bl (fun _ _ => ?_))
theorem km_d_termOf {n : Nat} {F : Nat → Int32} {A : Nat → Nat → Int32} {J : Nat → Nat → Int64} {x1 : Int32} {x2 : Int32}  (h : KM Fr Ar F A) : po (d_termOf n F A J x1 x2) (fun r => KM Fr Ar r.2.1 r.2.2.1) := by
  unfold d_termOf
  repeat' (first
    | with_reducible exact po_some (by assumption)
    | (with_reducible refine km_pf (by assumption) (by decide) ?_; intro _ _)
    | (with_reducible refine km_st (by assumption) (by decide) ?_; intro _ _)
    | (with_reducible refine km_pz (by assumption) (by decide) ?_; intro _ _)
    | with_reducible exact km_d_termOf_5 (by assumption)
    | (with_reducible refine po_call (km_d_termOf_5 (by assumption)) ?_; rintro ⟨_, _, _, _⟩ _; try dsimp only)
    | with_reducible refine po_cond (fun _ => ?_) (fun _ => ?_)
    | with_reducible refine po_bind_cond (fun _ => ?_) (fun _ => ?_)
    | with_reducible refine po_bl (fun _ _ => ?_))
theorem km_d_tells_211 {n : Nat} {F : Nat → Int32} {A : Nat → Nat → Int32} {J : Nat → Nat → Int64} {x1 : Int32} {x3 : Int32} {x6 : Int32}  (h : KM Fr Ar F A) : po (d_tells_211 n F A J x1 x3 x6) (fun r => KM Fr Ar r.2.1 r.2.2.1) := by
  unfold d_tells_211
  repeat' (first
    | with_reducible exact po_some (by assumption)
    | (with_reducible refine km_pf (by assumption) (by decide) ?_; intro _ _)
    | (with_reducible refine km_st (by assumption) (by decide) ?_; intro _ _)
    | (with_reducible refine km_pz (by assumption) (by decide) ?_; intro _ _)
    | with_reducible exact km_d_termOf (by assumption)
    | (with_reducible refine po_call (km_d_termOf (by assumption)) ?_; rintro ⟨_, _, _, _⟩ _; try dsimp only)
    | with_reducible refine po_cond (fun _ => ?_) (fun _ => ?_)
    | with_reducible refine po_bind_cond (fun _ => ?_) (fun _ => ?_)
    | with_reducible refine po_bl (fun _ _ => ?_))
theorem km_d_tells_130   : ∀ {n : Nat} {F : Nat → Int32} {A : Nat → Nat → Int32} {J : Nat → Nat → Int64} {x1 : Int32} {x3 : Int32} {x5 : Int32} {x6 : Int32}, KM Fr Ar F A → po (d_tells_130  n F A J x1 x3 x5 x6) (fun r => KM Fr Ar r.2.1 r.2.2.1) := by
  intro n
  induction n with
  | zero => intro F A J x1 x3 x5 x6 _ r hr; cases hr
  | succ n ih =>
    intro F A J x1 x3 x5 x6 h
    unfold d_tells_130
    repeat' (first
      | with_reducible exact po_some (by assumption)
      | (with_reducible refine km_pf (by assumption) (by decide) ?_; intro _ _)
      | (with_reducible refine km_st (by assumption) (by decide) ?_; intro _ _)
      | (with_reducible refine km_pz (by assumption) (by decide) ?_; intro _ _)
      | with_reducible exact km_d_tells_211 (by assumption)
      | (with_reducible refine po_call (km_d_tells_211 (by assumption)) ?_; rintro ⟨_, _, _, _⟩ _; try dsimp only)
      | with_reducible exact km_d_termOf (by assumption)
      | (with_reducible refine po_call (km_d_termOf (by assumption)) ?_; rintro ⟨_, _, _, _⟩ _; try dsimp only)
      | with_reducible exact ih (by assumption)
      | (with_reducible refine po_call (ih (by assumption)) ?_; rintro ⟨_, _, _, _⟩ _; try dsimp only)
      | (intros; with_reducible exact ih (by assumption))
      | with_reducible refine po_cond (fun _ => ?_) (fun _ => ?_)
      | with_reducible refine po_bind_cond (fun _ => ?_) (fun _ => ?_)
      | with_reducible refine po_bl (fun _ _ => ?_))
theorem km_d_tells {n : Nat} {F : Nat → Int32} {A : Nat → Nat → Int32} {J : Nat → Nat → Int64} {x1 : Int32} {x2 : Int32}  (h : KM Fr Ar F A) : po (d_tells n F A J x1 x2) (fun r => KM Fr Ar r.2.1 r.2.2.1) := by
  unfold d_tells
  repeat' (first
    | with_reducible exact po_some (by assumption)
    | (with_reducible refine km_pf (by assumption) (by decide) ?_; intro _ _)
    | (with_reducible refine km_st (by assumption) (by decide) ?_; intro _ _)
    | (with_reducible refine km_pz (by assumption) (by decide) ?_; intro _ _)
    | with_reducible exact km_d_tells_130 (by assumption)
    | (with_reducible refine po_call (km_d_tells_130 (by assumption)) ?_; rintro ⟨_, _, _, _⟩ _; try dsimp only)
    | with_reducible refine po_cond (fun _ => ?_) (fun _ => ?_)
    | with_reducible refine po_bind_cond (fun _ => ?_) (fun _ => ?_)
    | with_reducible refine po_bl (fun _ _ => ?_))
theorem km_d_lies {F : Nat → Int32} {A : Nat → Nat → Int32} {J : Nat → Nat → Int64} {x1 : Int32} {x2 : Int32}  (h : KM Fr Ar F A) : po (d_lies F A J x1 x2) (fun r => KM Fr Ar r.2.1 r.2.2.1) := by
  unfold d_lies
  repeat' (first
    | with_reducible exact po_some (by assumption)
    | (with_reducible refine km_pf (by assumption) (by decide) ?_; intro _ _)
    | (with_reducible refine km_st (by assumption) (by decide) ?_; intro _ _)
    | (with_reducible refine km_pz (by assumption) (by decide) ?_; intro _ _)
    | with_reducible refine po_cond (fun _ => ?_) (fun _ => ?_)
    | with_reducible refine po_bind_cond (fun _ => ?_) (fun _ => ?_)
    | with_reducible refine po_bl (fun _ _ => ?_))
theorem km_d_begins1_124 {n : Nat} {F : Nat → Int32} {A : Nat → Nat → Int32} {J : Nat → Nat → Int64} {x1 : Int32} {x2 : Int32}  (h : KM Fr Ar F A) : po (d_begins1_124 n F A J x1 x2) (fun r => KM Fr Ar r.2.1 r.2.2.1) := by
  unfold d_begins1_124
  repeat' (first
    | with_reducible exact po_some (by assumption)
    | (with_reducible refine km_pf (by assumption) (by decide) ?_; intro _ _)
    | (with_reducible refine km_st (by assumption) (by decide) ?_; intro _ _)
    | (with_reducible refine km_pz (by assumption) (by decide) ?_; intro _ _)
    | with_reducible exact km_d_lies (by assumption)
    | (with_reducible refine po_call (km_d_lies (by assumption)) ?_; rintro ⟨_, _, _, _⟩ _; try dsimp only)
    | with_reducible refine po_cond (fun _ => ?_) (fun _ => ?_)
    | with_reducible refine po_bind_cond (fun _ => ?_) (fun _ => ?_)
    | with_reducible refine po_bl (fun _ _ => ?_))
theorem km_d_begins1_147 {n : Nat} {F : Nat → Int32} {A : Nat → Nat → Int32} {J : Nat → Nat → Int64} {x1 : Int32} {x2 : Int32} {x3 : Int32} {x4 : Int32}  (h : KM Fr Ar F A) : po (d_begins1_147 n F A J x1 x2 x3 x4) (fun r => KM Fr Ar r.2.1 r.2.2.1) := by
  unfold d_begins1_147
  repeat' (first
    | with_reducible exact po_some (by assumption)
    | (with_reducible refine km_pf (by assumption) (by decide) ?_; intro _ _)
    | (with_reducible refine km_st (by assumption) (by decide) ?_; intro _ _)
    | (with_reducible refine km_pz (by assumption) (by decide) ?_; intro _ _)
    | with_reducible refine po_cond (fun _ => ?_) (fun _ => ?_)
    | with_reducible refine po_bind_cond (fun _ => ?_) (fun _ => ?_)
    | with_reducible refine po_bl (fun _ _ => ?_))
theorem km_d_begins1_131 {n : Nat} {F : Nat → Int32} {A : Nat → Nat → Int32} {J : Nat → Nat → Int64} {x1 : Int32} {x2 : Int32} {x3 : Int32} {x4 : Int32} {x5 : Int32} {x6 : Int32}  (h : KM Fr Ar F A) : po (d_begins1_131 n F A J x1 x2 x3 x4 x5 x6) (fun r => KM Fr Ar r.2.1 r.2.2.1) := by
  unfold d_begins1_131
  repeat' (first
    | with_reducible exact po_some (by assumption)
    | (with_reducible refine km_pf (by assumption) (by decide) ?_; intro _ _)
    | (with_reducible refine km_st (by assumption) (by decide) ?_; intro _ _)
    | (with_reducible refine km_pz (by assumption) (by decide) ?_; intro _ _)
    | with_reducible exact km_d_begins1_147 (by assumption)
    | (with_reducible refine po_call (km_d_begins1_147 (by assumption)) ?_; rintro ⟨_, _, _, _⟩ _; try dsimp only)
    | with_reducible refine po_cond (fun _ => ?_) (fun _ => ?_)
    | with_reducible refine po_bind_cond (fun _ => ?_) (fun _ => ?_)
    | with_reducible refine po_bl (fun _ _ => ?_))
theorem km_d_begins1_81 {n : Nat} {F : Nat → Int32} {A : Nat → Nat → Int32} {J : Nat → Nat → Int64} {x1 : Int32} {x2 : Int32} {x3 : Int32} {x4 : Int32} {x5 : Int32} {s0 : Int32}  (h : KM Fr Ar F A) : po (d_begins1_81 n F A J x1 x2 x3 x4 x5 s0) (fun r => KM Fr Ar r.2.1 r.2.2.1) := by
  unfold d_begins1_81
  repeat' (first
    | with_reducible exact po_some (by assumption)
    | (with_reducible refine km_pf (by assumption) (by decide) ?_; intro _ _)
    | (with_reducible refine km_st (by assumption) (by decide) ?_; intro _ _)
    | (with_reducible refine km_pz (by assumption) (by decide) ?_; intro _ _)
    | with_reducible exact km_d_begins1_124 (by assumption)
    | (with_reducible refine po_call (km_d_begins1_124 (by assumption)) ?_; rintro ⟨_, _, _, _⟩ _; try dsimp only)
    | with_reducible exact km_d_begins1_131 (by assumption)
    | (with_reducible refine po_call (km_d_begins1_131 (by assumption)) ?_; rintro ⟨_, _, _, _⟩ _; try dsimp only)
    | with_reducible refine po_cond (fun _ => ?_) (fun _ => ?_)
    | with_reducible refine po_bind_cond (fun _ => ?_) (fun _ => ?_)
    | with_reducible refine po_bl (fun _ _ => ?_))
theorem km_d_begins1_76 {n : Nat} {F : Nat → Int32} {A : Nat → Nat → Int32} {J : Nat → Nat → Int64} {x1 : Int32} {x2 : Int32} {x3 : Int32} {x4 : Int32} {x5 : Int32}  (h : KM Fr Ar F A) : po (d_begins1_76 n F A J x1 x2 x3 x4 x5) (fun r => KM Fr Ar r.2.1 r.2.2.1) := by
  unfold d_begins1_76
  repeat' (first
    | with_reducible exact po_some (by assumption)
    | (with_reducible refine km_pf (by assumption) (by decide) ?_; intro _ _)
    | (with_reducible refine km_st (by assumption) (by decide) ?_; intro _ _)
    | (with_reducible refine km_pz (by assumption) (by decide) ?_; intro _ _)
    | with_reducible exact km_d_begins1_81 (by assumption)
    | (with_reducible refine po_call (km_d_begins1_81 (by assumption)) ?_; rintro ⟨_, _, _, _⟩ _; try dsimp only)
    | with_reducible refine po_cond (fun _ => ?_) (fun _ => ?_)
    | with_reducible refine po_bind_cond (fun _ => ?_) (fun _ => ?_)
    | with_reducible refine po_bl (fun _ _ => ?_))
theorem km_d_begins1 {n : Nat} {F : Nat → Int32} {A : Nat → Nat → Int32} {J : Nat → Nat → Int64} {x1 : Int32} {x2 : Int32}  (h : KM Fr Ar F A) : po (d_begins1 n F A J x1 x2) (fun r => KM Fr Ar r.2.1 r.2.2.1) := by
  unfold d_begins1
  repeat' (first
    | with_reducible exact po_some (by assumption)
    | (with_reducible refine km_pf (by assumption) (by decide) ?_; intro _ _)
    | (with_reducible refine km_st (by assumption) (by decide) ?_; intro _ _)
    | (with_reducible refine km_pz (by assumption) (by decide) ?_; intro _ _)
    | with_reducible exact km_d_tells (by assumption)
    | (with_reducible refine po_call (km_d_tells (by assumption)) ?_; rintro ⟨_, _, _, _⟩ _; try dsimp only)
    | with_reducible exact km_d_begins1_76 (by assumption)
    | (with_reducible refine po_call (km_d_begins1_76 (by assumption)) ?_; rintro ⟨_, _, _, _⟩ _; try dsimp only)
    | with_reducible exact km_d_begins1_81 (by assumption)
    | (with_reducible refine po_call (km_d_begins1_81 (by assumption)) ?_; rintro ⟨_, _, _, _⟩ _; try dsimp only)
    | with_reducible exact km_d_lies (by assumption)
    | (with_reducible refine po_call (km_d_lies (by assumption)) ?_; rintro ⟨_, _, _, _⟩ _; try dsimp only)
    | with_reducible refine po_cond (fun _ => ?_) (fun _ => ?_)
    | with_reducible refine po_bind_cond (fun _ => ?_) (fun _ => ?_)
    | with_reducible refine po_bl (fun _ _ => ?_))
theorem km_d_goesTill_75 {K27 : (Nat → Int32) → (Nat → Nat → Int32) → (Nat → Nat → Int64) → Int32 → Int32 → Option (Unit × (Nat → Int32) × (Nat → Nat → Int32) × (Nat → Nat → Int64))} (hK27 : ∀ (a0 : Nat → Int32) (a1 : Nat → Nat → Int32) (a2 : Nat → Nat → Int64) (a3 : Int32) (a4 : Int32), KM Fr Ar a0 a1 → po (K27 a0 a1 a2 a3 a4) (fun r => KM Fr Ar r.2.1 r.2.2.1)) : ∀ {n : Nat} {F : Nat → Int32} {A : Nat → Nat → Int32} {J : Nat → Nat → Int64} {x1 : Int32} {x2 : Int32} {x3 : Int32}, KM Fr Ar F A → po (d_goesTill_75 K27 n F A J x1 x2 x3) (fun r => KM Fr Ar r.2.1 r.2.2.1) := by
  intro n
  induction n with
  | zero => intro F A J x1 x2 x3 _ r hr; cases hr
  | succ n ih =>
    intro F A J x1 x2 x3 h
    unfold d_goesTill_75
    repeat' (first
      | with_reducible exact po_some (by assumption)
      | (with_reducible refine km_pf (by assumption) (by decide) ?_; intro _ _)
      | (with_reducible refine km_st (by assumption) (by decide) ?_; intro _ _)
      | (with_reducible refine km_pz (by assumption) (by decide) ?_; intro _ _)
      | with_reducible refine km_d_goesTill_128 ?_ (by assumption)
      | (with_reducible refine po_call (km_d_goesTill_128 ?_ (by assumption)) ?_)
      | with_reducible refine km_d_goesTill_122 ?_ ?_ (by assumption)
      | (with_reducible refine po_call (km_d_goesTill_122 ?_ ?_ (by assumption)) ?_)
      | with_reducible exact km_d_begins1 (by assumption)
      | (with_reducible refine po_call (km_d_begins1 (by assumption)) ?_; rintro ⟨_, _, _, _⟩ _; try dsimp only)
      | with_reducible exact hK27 _ _ _ _ _ (by assumption)
      | (intros; with_reducible exact hK27 _ _ _ _ _ (by assumption))
      | with_reducible exact ih (by assumption)
      | (with_reducible refine po_call (ih (by assumption)) ?_; rintro ⟨_, _, _, _⟩ _; try dsimp only)
      | (intros; with_reducible exact ih (by assumption))
      | with_reducible refine po_cond (fun _ => ?_) (fun _ => ?_)
      | with_reducible refine po_bind_cond (fun _ => ?_) (fun _ => ?_)
      | with_reducible refine po_bl (fun _ _ => ?_))
theorem km_d_goesTill_67 {K27 : (Nat → Int32) → (Nat → Nat → Int32) → (Nat → Nat → Int64) → Int32 → Int32 → Option (Unit × (Nat → Int32) × (Nat → Nat → Int32) × (Nat → Nat → Int64))} {K34 : (Nat → Int32) → (Nat → Nat → Int32) → (Nat → Nat → Int64) → Int32 → Int32 → Int32 → Option (Unit × (Nat → Int32) × (Nat → Nat → Int32) × (Nat → Nat → Int64))} {n : Nat} {F : Nat → Int32} {A : Nat → Nat → Int32} {J : Nat → Nat → Int64} {x1 : Int32} {x2 : Int32} {x3 : Int32} (hK27 : ∀ (a0 : Nat → Int32) (a1 : Nat → Nat → Int32) (a2 : Nat → Nat → Int64) (a3 : Int32) (a4 : Int32), KM Fr Ar a0 a1 → po (K27 a0 a1 a2 a3 a4) (fun r => KM Fr Ar r.2.1 r.2.2.1)) (hK34 : ∀ (a0 : Nat → Int32) (a1 : Nat → Nat → Int32) (a2 : Nat → Nat → Int64) (a3 : Int32) (a4 : Int32) (a5 : Int32), KM Fr Ar a0 a1 → po (K34 a0 a1 a2 a3 a4 a5) (fun r => KM Fr Ar r.2.1 r.2.2.1)) (h : KM Fr Ar F A) : po (d_goesTill_67 K27 K34 n F A J x1 x2 x3) (fun r => KM Fr Ar r.2.1 r.2.2.1) := by
  unfold d_goesTill_67
  repeat' (first
    | with_reducible exact po_some (by assumption)
    | (with_reducible refine km_pf (by assumption) (by decide) ?_; intro _ _)
    | (with_reducible refine km_st (by assumption) (by decide) ?_; intro _ _)
    | (with_reducible refine km_pz (by assumption) (by decide) ?_; intro _ _)
    | with_reducible exact hK27 _ _ _ _ _ (by assumption)
    | (intros; with_reducible exact hK27 _ _ _ _ _ (by assumption))
    | with_reducible exact hK34 _ _ _ _ _ _ (by assumption)
    | (intros; with_reducible exact hK34 _ _ _ _ _ _ (by assumption))
    | with_reducible refine po_cond (fun _ => ?_) (fun _ => ?_)
    | with_reducible refine po_bind_cond (fun _ => ?_) (fun _ => ?_)
    | with_reducible refine po_bl (fun _ _ => ?_))
theorem km_d_isOver {F : Nat → Int32} {A : Nat → Nat → Int32} {J : Nat → Nat → Int64} {x1 : Int32}  (h : KM Fr Ar F A) : po (d_isOver F A J x1) (fun r => KM Fr Ar r.2.1 r.2.2.1) := by
  unfold d_isOver
  repeat' (first
    | with_reducible exact po_some (by assumption)
    | (with_reducible refine km_pf (by assumption) (by decide) ?_; intro _ _)
    | (with_reducible refine km_st (by assumption) (by decide) ?_; intro _ _)
    | (with_reducible refine km_pz (by assumption) (by decide) ?_; intro _ _)
    | with_reducible exact km_d_does (by assumption)
    | (with_reducible refine po_call (km_d_does (by assumption)) ?_; rintro ⟨_, _, _, _⟩ _; try dsimp only)
    | with_reducible refine po_cond (fun _ => ?_) (fun _ => ?_)
    | with_reducible refine po_bind_cond (fun _ => ?_) (fun _ => ?_)
    | with_reducible refine po_bl (fun _ _ => ?_))
theorem km_d_goesTill_34 {K27 : (Nat → Int32) → (Nat → Nat → Int32) → (Nat → Nat → Int64) → Int32 → Int32 → Option (Unit × (Nat → Int32) × (Nat → Nat → Int32) × (Nat → Nat → Int64))} (hK27 : ∀ (a0 : Nat → Int32) (a1 : Nat → Nat → Int32) (a2 : Nat → Nat → Int64) (a3 : Int32) (a4 : Int32), KM Fr Ar a0 a1 → po (K27 a0 a1 a2 a3 a4) (fun r => KM Fr Ar r.2.1 r.2.2.1)) : ∀ {n : Nat} {F : Nat → Int32} {A : Nat → Nat → Int32} {J : Nat → Nat → Int64} {x1 : Int32} {x2 : Int32} {x3 : Int32}, KM Fr Ar F A → po (d_goesTill_34 K27 n F A J x1 x2 x3) (fun r => KM Fr Ar r.2.1 r.2.2.1) := by
  intro n
  induction n with
  | zero => intro F A J x1 x2 x3 _ r hr; cases hr
  | succ n ih =>
    intro F A J x1 x2 x3 h
    unfold d_goesTill_34
    repeat' (first
      | with_reducible exact po_some (by assumption)
      | (with_reducible refine km_pf (by assumption) (by decide) ?_; intro _ _)
      | (with_reducible refine km_st (by assumption) (by decide) ?_; intro _ _)
      | (with_reducible refine km_pz (by assumption) (by decide) ?_; intro _ _)
      | with_reducible refine km_d_goesTill_75 ?_ (by assumption)
      | (with_reducible refine po_call (km_d_goesTill_75 ?_ (by assumption)) ?_)
      | with_reducible refine km_d_goesTill_67 ?_ ?_ (by assumption)
      | (with_reducible refine po_call (km_d_goesTill_67 ?_ ?_ (by assumption)) ?_)
      | with_reducible exact km_d_isOver (by assumption)
      | (with_reducible refine po_call (km_d_isOver (by assumption)) ?_; rintro ⟨_, _, _, _⟩ _; try dsimp only)
      | with_reducible exact hK27 _ _ _ _ _ (by assumption)
      | (intros; with_reducible exact hK27 _ _ _ _ _ (by assumption))
      | with_reducible exact ih (by assumption)
      | (with_reducible refine po_call (ih (by assumption)) ?_; rintro ⟨_, _, _, _⟩ _; try dsimp only)
      | (intros; with_reducible exact ih (by assumption))
      | with_reducible refine po_cond (fun _ => ?_) (fun _ => ?_)
      | with_reducible refine po_bind_cond (fun _ => ?_) (fun _ => ?_)
      | with_reducible refine po_bl (fun _ _ => ?_))
theorem km_d_goesTill_27   : ∀ {n : Nat} {F : Nat → Int32} {A : Nat → Nat → Int32} {J : Nat → Nat → Int64} {x1 : Int32} {x2 : Int32}, KM Fr Ar F A → po (d_goesTill_27  n F A J x1 x2) (fun r => KM Fr Ar r.2.1 r.2.2.1) := by
  intro n
  induction n with
  | zero => intro F A J x1 x2 _ r hr; cases hr
  | succ n ih =>
    intro F A J x1 x2 h
    unfold d_goesTill_27
    repeat' (first
      | with_reducible exact po_some (by assumption)
      | (with_reducible refine km_pf (by assumption) (by decide) ?_; intro _ _)
      | (with_reducible refine km_st (by assumption) (by decide) ?_; intro _ _)
      | (with_reducible refine km_pz (by assumption) (by decide) ?_; intro _ _)
      | with_reducible refine km_d_goesTill_34 ?_ (by assumption)
      | (with_reducible refine po_call (km_d_goesTill_34 ?_ (by assumption)) ?_)
      | with_reducible exact ih (by assumption)
      | (with_reducible refine po_call (ih (by assumption)) ?_; rintro ⟨_, _, _, _⟩ _; try dsimp only)
      | (intros; with_reducible exact ih (by assumption))
      | with_reducible refine po_cond (fun _ => ?_) (fun _ => ?_)
      | with_reducible refine po_bind_cond (fun _ => ?_) (fun _ => ?_)
      | with_reducible refine po_bl (fun _ _ => ?_))
theorem km_d_getsUp_117 {F : Nat → Int32} {A : Nat → Nat → Int32} {J : Nat → Nat → Int64} {x1 : Int32} {x3 : Int32} {s1 : Int32} {s2 : Int32}  (h : KM Fr Ar F A) : po (d_getsUp_117 F A J x1 x3 s1 s2) (fun r => KM Fr Ar r.2.1 r.2.2.1) := by
  unfold d_getsUp_117
  repeat' (first
    | with_reducible exact po_some (by assumption)
    | (with_reducible refine km_pf (by assumption) (by decide) ?_; intro _ _)
    | (with_reducible refine km_st (by assumption) (by decide) ?_; intro _ _)
    | (with_reducible refine km_pz (by assumption) (by decide) ?_; intro _ _)
    | with_reducible refine po_cond (fun _ => ?_) (fun _ => ?_)
    | with_reducible refine po_bind_cond (fun _ => ?_) (fun _ => ?_)
    | with_reducible refine po_bl (fun _ _ => ?_))
theorem km_d_getsUp {F : Nat → Int32} {A : Nat → Nat → Int32} {J : Nat → Nat → Int64} {x1 : Int32}  (h : KM Fr Ar F A) : po (d_getsUp F A J x1) (fun r => KM Fr Ar r.2.1 r.2.2.1) := by
  unfold d_getsUp
  repeat' (first
    | with_reducible exact po_some (by assumption)
    | (with_reducible refine km_pf (by assumption) (by decide) ?_; intro _ _)
    | (with_reducible refine km_st (by assumption) (by decide) ?_; intro _ _)
    | (with_reducible refine km_pz (by assumption) (by decide) ?_; intro _ _)
    | with_reducible exact km_d_getsUp_117 (by assumption)
    | (with_reducible refine po_call (km_d_getsUp_117 (by assumption)) ?_; rintro ⟨_, _, _, _⟩ _; try dsimp only)
    | with_reducible refine po_cond (fun _ => ?_) (fun _ => ?_)
    | with_reducible refine po_bind_cond (fun _ => ?_) (fun _ => ?_)
    | with_reducible refine po_bl (fun _ _ => ?_))
theorem km_d_goesTill_6   : ∀ {n : Nat} {F : Nat → Int32} {A : Nat → Nat → Int32} {J : Nat → Nat → Int64} {x1 : Int32} {x2 : Int32}, KM Fr Ar F A → po (d_goesTill_6  n F A J x1 x2) (fun r => KM Fr Ar r.2.1 r.2.2.1) := by
  intro n
  induction n with
  | zero => intro F A J x1 x2 _ r hr; cases hr
  | succ n ih =>
    intro F A J x1 x2 h
    unfold d_goesTill_6
    repeat' (first
      | with_reducible exact po_some (by assumption)
      | (with_reducible refine km_pf (by assumption) (by decide) ?_; intro _ _)
      | (with_reducible refine km_st (by assumption) (by decide) ?_; intro _ _)
      | (with_reducible refine km_pz (by assumption) (by decide) ?_; intro _ _)
      | with_reducible exact km_d_goesTill_27 (by assumption)
      | (with_reducible refine po_call (km_d_goesTill_27 (by assumption)) ?_; rintro ⟨_, _, _, _⟩ _; try dsimp only)
      | with_reducible exact km_d_getsUp (by assumption)
      | (with_reducible refine po_call (km_d_getsUp (by assumption)) ?_; rintro ⟨_, _, _, _⟩ _; try dsimp only)
      | with_reducible exact ih (by assumption)
      | (with_reducible refine po_call (ih (by assumption)) ?_; rintro ⟨_, _, _, _⟩ _; try dsimp only)
      | (intros; with_reducible exact ih (by assumption))
      | with_reducible refine po_cond (fun _ => ?_) (fun _ => ?_)
      | with_reducible refine po_bind_cond (fun _ => ?_) (fun _ => ?_)
      | with_reducible refine po_bl (fun _ _ => ?_))
theorem km_d_goesTill {n : Nat} {F : Nat → Int32} {A : Nat → Nat → Int32} {J : Nat → Nat → Int64} {x1 : Int32}  (h : KM Fr Ar F A) : po (d_goesTill n F A J x1) (fun r => KM Fr Ar r.2.1 r.2.2.1) := by
  unfold d_goesTill
  repeat' (first
    | with_reducible exact po_some (by assumption)
    | (with_reducible refine km_pf (by assumption) (by decide) ?_; intro _ _)
    | (with_reducible refine km_st (by assumption) (by decide) ?_; intro _ _)
    | (with_reducible refine km_pz (by assumption) (by decide) ?_; intro _ _)
    | with_reducible exact km_d_fillsWays (by assumption)
    | (with_reducible refine po_call (km_d_fillsWays (by assumption)) ?_; rintro ⟨_, _, _, _⟩ _; try dsimp only)
    | with_reducible exact km_d_goesTill_6 (by assumption)
    | (with_reducible refine po_call (km_d_goesTill_6 (by assumption)) ?_; rintro ⟨_, _, _, _⟩ _; try dsimp only)
    | with_reducible refine po_cond (fun _ => ?_) (fun _ => ?_)
    | with_reducible refine po_bind_cond (fun _ => ?_) (fun _ => ?_)
    | with_reducible refine po_bl (fun _ _ => ?_))
theorem km_d_wholeNight_108 {K20 : (Nat → Int32) → (Nat → Nat → Int32) → (Nat → Nat → Int64) → Int32 → Int32 → Option (Int32 × (Nat → Int32) × (Nat → Nat → Int32) × (Nat → Nat → Int64))} {n : Nat} {F : Nat → Int32} {A : Nat → Nat → Int32} {J : Nat → Nat → Int64} {x1 : Int32} {x2 : Int32} (hK20 : ∀ (a0 : Nat → Int32) (a1 : Nat → Nat → Int32) (a2 : Nat → Nat → Int64) (a3 : Int32) (a4 : Int32), KM Fr Ar a0 a1 → po (K20 a0 a1 a2 a3 a4) (fun r => KM Fr Ar r.2.1 r.2.2.1)) (h : KM Fr Ar F A) : po (d_wholeNight_108 K20 n F A J x1 x2) (fun r => KM Fr Ar r.2.1 r.2.2.1) := by
  unfold d_wholeNight_108
  repeat' (first
    | with_reducible exact po_some (by assumption)
    | (with_reducible refine km_pf (by assumption) (by decide) ?_; intro _ _)
    | (with_reducible refine km_st (by assumption) (by decide) ?_; intro _ _)
    | (with_reducible refine km_pz (by assumption) (by decide) ?_; intro _ _)
    | with_reducible exact hK20 _ _ _ _ _ (by assumption)
    | (intros; with_reducible exact hK20 _ _ _ _ _ (by assumption))
    | with_reducible refine po_cond (fun _ => ?_) (fun _ => ?_)
    | with_reducible refine po_bind_cond (fun _ => ?_) (fun _ => ?_)
    | with_reducible refine po_bl (fun _ _ => ?_))
theorem km_d_wholeNight_20   : ∀ {n : Nat} {F : Nat → Int32} {A : Nat → Nat → Int32} {J : Nat → Nat → Int64} {x1 : Int32} {x2 : Int32}, KM Fr Ar F A → po (d_wholeNight_20  n F A J x1 x2) (fun r => KM Fr Ar r.2.1 r.2.2.1) := by
  intro n
  induction n with
  | zero => intro F A J x1 x2 _ r hr; cases hr
  | succ n ih =>
    intro F A J x1 x2 h
    unfold d_wholeNight_20
    repeat' (first
      | with_reducible exact po_some (by assumption)
      | (with_reducible refine km_pf (by assumption) (by decide) ?_; intro _ _)
      | (with_reducible refine km_st (by assumption) (by decide) ?_; intro _ _)
      | (with_reducible refine km_pz (by assumption) (by decide) ?_; intro _ _)
      | with_reducible refine km_d_wholeNight_108 ?_ (by assumption)
      | (with_reducible refine po_call (km_d_wholeNight_108 ?_ (by assumption)) ?_)
      | with_reducible exact ih (by assumption)
      | (with_reducible refine po_call (ih (by assumption)) ?_; rintro ⟨_, _, _, _⟩ _; try dsimp only)
      | (intros; with_reducible exact ih (by assumption))
      | with_reducible refine po_cond (fun _ => ?_) (fun _ => ?_)
      | with_reducible refine po_bind_cond (fun _ => ?_) (fun _ => ?_)
      | with_reducible refine po_bl (fun _ _ => ?_))
theorem km_d_wholeNight {n : Nat} {F : Nat → Int32} {A : Nat → Nat → Int32} {J : Nat → Nat → Int64}  (h : KM Fr Ar F A) : po (d_wholeNight n F A J) (fun r => KM Fr Ar r.2.1 r.2.2.1) := by
  unfold d_wholeNight
  repeat' (first
    | with_reducible exact po_some (by assumption)
    | (with_reducible refine km_pf (by assumption) (by decide) ?_; intro _ _)
    | (with_reducible refine km_st (by assumption) (by decide) ?_; intro _ _)
    | (with_reducible refine km_pz (by assumption) (by decide) ?_; intro _ _)
    | with_reducible exact km_d_goesTill (by assumption)
    | (with_reducible refine po_call (km_d_goesTill (by assumption)) ?_; rintro ⟨_, _, _, _⟩ _; try dsimp only)
    | with_reducible exact km_d_wholeNight_20 (by assumption)
    | (with_reducible refine po_call (km_d_wholeNight_20 (by assumption)) ?_; rintro ⟨_, _, _, _⟩ _; try dsimp only)
    | with_reducible refine po_cond (fun _ => ?_) (fun _ => ?_)
    | with_reducible refine po_bind_cond (fun _ => ?_) (fun _ => ?_)
    | with_reducible refine po_bl (fun _ _ => ?_))
theorem km_d_gain {n : Nat} {F : Nat → Int32} {A : Nat → Nat → Int32} {J : Nat → Nat → Int64}  (h : KM Fr Ar F A) : po (d_gain n F A J) (fun r => KM Fr Ar r.2.1 r.2.2.1) := by
  unfold d_gain
  repeat' (first
    | with_reducible exact po_some (by assumption)
    | (with_reducible refine km_pf (by assumption) (by decide) ?_; intro _ _)
    | (with_reducible refine km_st (by assumption) (by decide) ?_; intro _ _)
    | (with_reducible refine km_pz (by assumption) (by decide) ?_; intro _ _)
    | with_reducible exact km_d_takes (by assumption)
    | (with_reducible refine po_call (km_d_takes (by assumption)) ?_; rintro ⟨_, _, _, _⟩ _; try dsimp only)
    | with_reducible exact km_d_wholeNight (by assumption)
    | (with_reducible refine po_call (km_d_wholeNight (by assumption)) ?_; rintro ⟨_, _, _, _⟩ _; try dsimp only)
    | with_reducible refine po_cond (fun _ => ?_) (fun _ => ?_)
    | with_reducible refine po_bind_cond (fun _ => ?_) (fun _ => ?_)
    | with_reducible refine po_bl (fun _ _ => ?_))
theorem km_d_leaves_96 {n : Nat} {F : Nat → Int32} {A : Nat → Nat → Int32} {J : Nat → Nat → Int64} {s1 : Int32} {s2 : Int32}  (h : KM Fr Ar F A) : po (d_leaves_96 n F A J s1 s2) (fun r => KM Fr Ar r.2.1 r.2.2.1) := by
  unfold d_leaves_96
  repeat' (first
    | with_reducible exact po_some (by assumption)
    | (with_reducible refine km_pf (by assumption) (by decide) ?_; intro _ _)
    | (with_reducible refine km_st (by assumption) (by decide) ?_; intro _ _)
    | (with_reducible refine km_pz (by assumption) (by decide) ?_; intro _ _)
    | with_reducible refine po_cond (fun _ => ?_) (fun _ => ?_)
    | with_reducible refine po_bind_cond (fun _ => ?_) (fun _ => ?_)
    | with_reducible refine po_bl (fun _ _ => ?_))
theorem km_d_leaves_78 {n : Nat} {F : Nat → Int32} {A : Nat → Nat → Int32} {J : Nat → Nat → Int64} {x1 : Int32} {x3 : Int32} {s1 : Int32} {s2 : Int32}  (h : KM Fr Ar F A) : po (d_leaves_78 n F A J x1 x3 s1 s2) (fun r => KM Fr Ar r.2.1 r.2.2.1) := by
  unfold d_leaves_78
  repeat' (first
    | with_reducible exact po_some (by assumption)
    | (with_reducible refine km_pf (by assumption) (by decide) ?_; intro _ _)
    | (with_reducible refine km_st (by assumption) (by decide) ?_; intro _ _)
    | (with_reducible refine km_pz (by assumption) (by decide) ?_; intro _ _)
    | with_reducible exact km_d_leaves_96 (by assumption)
    | (with_reducible refine po_call (km_d_leaves_96 (by assumption)) ?_; rintro ⟨_, _, _, _⟩ _; try dsimp only)
    | with_reducible refine po_cond (fun _ => ?_) (fun _ => ?_)
    | with_reducible refine po_bind_cond (fun _ => ?_) (fun _ => ?_)
    | with_reducible refine po_bl (fun _ _ => ?_))
theorem km_d_leaves_60 {n : Nat} {F : Nat → Int32} {A : Nat → Nat → Int32} {J : Nat → Nat → Int64} {x1 : Int32} {x3 : Int32} {x4 : Int32}  (h : KM Fr Ar F A) : po (d_leaves_60 n F A J x1 x3 x4) (fun r => KM Fr Ar r.2.1 r.2.2.1) := by
  unfold d_leaves_60
  repeat' (first
    | with_reducible exact po_some (by assumption)
    | (with_reducible refine km_pf (by assumption) (by decide) ?_; intro _ _)
    | (with_reducible refine km_st (by assumption) (by decide) ?_; intro _ _)
    | (with_reducible refine km_pz (by assumption) (by decide) ?_; intro _ _)
    | with_reducible exact km_d_leaves_78 (by assumption)
    | (with_reducible refine po_call (km_d_leaves_78 (by assumption)) ?_; rintro ⟨_, _, _, _⟩ _; try dsimp only)
    | with_reducible refine po_cond (fun _ => ?_) (fun _ => ?_)
    | with_reducible refine po_bind_cond (fun _ => ?_) (fun _ => ?_)
    | with_reducible refine po_bl (fun _ _ => ?_))
theorem km_d_leaves_45 {n : Nat} {F : Nat → Int32} {A : Nat → Nat → Int32} {J : Nat → Nat → Int64} {x1 : Int32} {x3 : Int32} {x4 : Int32}  (h : KM Fr Ar F A) : po (d_leaves_45 n F A J x1 x3 x4) (fun r => KM Fr Ar r.2.1 r.2.2.1) := by
  unfold d_leaves_45
  repeat' (first
    | with_reducible exact po_some (by assumption)
    | (with_reducible refine km_pf (by assumption) (by decide) ?_; intro _ _)
    | (with_reducible refine km_st (by assumption) (by decide) ?_; intro _ _)
    | (with_reducible refine km_pz (by assumption) (by decide) ?_; intro _ _)
    | with_reducible exact km_d_leaves_60 (by assumption)
    | (with_reducible refine po_call (km_d_leaves_60 (by assumption)) ?_; rintro ⟨_, _, _, _⟩ _; try dsimp only)
    | with_reducible refine po_cond (fun _ => ?_) (fun _ => ?_)
    | with_reducible refine po_bind_cond (fun _ => ?_) (fun _ => ?_)
    | with_reducible refine po_bl (fun _ _ => ?_))
theorem km_d_leaves_7   : ∀ {n : Nat} {F : Nat → Int32} {A : Nat → Nat → Int32} {J : Nat → Nat → Int64} {x1 : Int32} {x3 : Int32} {x4 : Int32}, KM Fr Ar F A → po (d_leaves_7  n F A J x1 x3 x4) (fun r => KM Fr Ar r.2.1 r.2.2.1) := by
  intro n
  induction n with
  | zero => intro F A J x1 x3 x4 _ r hr; cases hr
  | succ n ih =>
    intro F A J x1 x3 x4 h
    unfold d_leaves_7
    repeat' (first
      | with_reducible exact po_some (by assumption)
      | (with_reducible refine km_pf (by assumption) (by decide) ?_; intro _ _)
      | (with_reducible refine km_st (by assumption) (by decide) ?_; intro _ _)
      | (with_reducible refine km_pz (by assumption) (by decide) ?_; intro _ _)
      | with_reducible exact km_d_leaves_45 (by assumption)
      | (with_reducible refine po_call (km_d_leaves_45 (by assumption)) ?_; rintro ⟨_, _, _, _⟩ _; try dsimp only)
      | with_reducible exact ih (by assumption)
      | (with_reducible refine po_call (ih (by assumption)) ?_; rintro ⟨_, _, _, _⟩ _; try dsimp only)
      | (intros; with_reducible exact ih (by assumption))
      | with_reducible refine po_cond (fun _ => ?_) (fun _ => ?_)
      | with_reducible refine po_bind_cond (fun _ => ?_) (fun _ => ?_)
      | with_reducible refine po_bl (fun _ _ => ?_))
theorem km_d_leaves {n : Nat} {F : Nat → Int32} {A : Nat → Nat → Int32} {J : Nat → Nat → Int64} {x1 : Int32} {x2 : Int32}  (h : KM Fr Ar F A) : po (d_leaves n F A J x1 x2) (fun r => KM Fr Ar r.2.1 r.2.2.1) := by
  unfold d_leaves
  repeat' (first
    | with_reducible exact po_some (by assumption)
    | (with_reducible refine km_pf (by assumption) (by decide) ?_; intro _ _)
    | (with_reducible refine km_st (by assumption) (by decide) ?_; intro _ _)
    | (with_reducible refine km_pz (by assumption) (by decide) ?_; intro _ _)
    | with_reducible exact km_d_leaves_7 (by assumption)
    | (with_reducible refine po_call (km_d_leaves_7 (by assumption)) ?_; rintro ⟨_, _, _, _⟩ _; try dsimp only)
    | with_reducible refine po_cond (fun _ => ?_) (fun _ => ?_)
    | with_reducible refine po_bind_cond (fun _ => ?_) (fun _ => ?_)
    | with_reducible refine po_bl (fun _ _ => ?_))
theorem km_d_gainBy {n : Nat} {F : Nat → Int32} {A : Nat → Nat → Int32} {J : Nat → Nat → Int64} {x1 : Int32} {x2 : Int32}  (h : KM Fr Ar F A) : po (d_gainBy n F A J x1 x2) (fun r => KM Fr Ar r.2.1 r.2.2.1) := by
  unfold d_gainBy
  repeat' (first
    | with_reducible exact po_some (by assumption)
    | (with_reducible refine km_pf (by assumption) (by decide) ?_; intro _ _)
    | (with_reducible refine km_st (by assumption) (by decide) ?_; intro _ _)
    | (with_reducible refine km_pz (by assumption) (by decide) ?_; intro _ _)
    | with_reducible exact km_d_takes (by assumption)
    | (with_reducible refine po_call (km_d_takes (by assumption)) ?_; rintro ⟨_, _, _, _⟩ _; try dsimp only)
    | with_reducible exact km_d_leaves (by assumption)
    | (with_reducible refine po_call (km_d_leaves (by assumption)) ?_; rintro ⟨_, _, _, _⟩ _; try dsimp only)
    | with_reducible exact km_d_wholeNight (by assumption)
    | (with_reducible refine po_call (km_d_wholeNight (by assumption)) ?_; rintro ⟨_, _, _, _⟩ _; try dsimp only)
    | with_reducible refine po_cond (fun _ => ?_) (fun _ => ?_)
    | with_reducible refine po_bind_cond (fun _ => ?_) (fun _ => ?_)
    | with_reducible refine po_bl (fun _ _ => ?_))
theorem km_d_bestOption_50 {K14 : (Nat → Int32) → (Nat → Nat → Int32) → (Nat → Nat → Int64) → Int32 → Int32 → Int32 → Option (Int32 × (Nat → Int32) × (Nat → Nat → Int32) × (Nat → Nat → Int64))} {n : Nat} {F : Nat → Int32} {A : Nat → Nat → Int32} {J : Nat → Nat → Int64} {x1 : Int32} {x2 : Int32} {x3 : Int32} (hK14 : ∀ (a0 : Nat → Int32) (a1 : Nat → Nat → Int32) (a2 : Nat → Nat → Int64) (a3 : Int32) (a4 : Int32) (a5 : Int32), KM Fr Ar a0 a1 → po (K14 a0 a1 a2 a3 a4 a5) (fun r => KM Fr Ar r.2.1 r.2.2.1)) (h : KM Fr Ar F A) : po (d_bestOption_50 K14 n F A J x1 x2 x3) (fun r => KM Fr Ar r.2.1 r.2.2.1) := by
  unfold d_bestOption_50
  repeat' (first
    | with_reducible exact po_some (by assumption)
    | (with_reducible refine km_pf (by assumption) (by decide) ?_; intro _ _)
    | (with_reducible refine km_st (by assumption) (by decide) ?_; intro _ _)
    | (with_reducible refine km_pz (by assumption) (by decide) ?_; intro _ _)
    | with_reducible exact hK14 _ _ _ _ _ _ (by assumption)
    | (intros; with_reducible exact hK14 _ _ _ _ _ _ (by assumption))
    | with_reducible refine po_cond (fun _ => ?_) (fun _ => ?_)
    | with_reducible refine po_bind_cond (fun _ => ?_) (fun _ => ?_)
    | with_reducible refine po_bl (fun _ _ => ?_))
theorem km_d_bestOption_14   : ∀ {n : Nat} {F : Nat → Int32} {A : Nat → Nat → Int32} {J : Nat → Nat → Int64} {x1 : Int32} {x2 : Int32} {x3 : Int32}, KM Fr Ar F A → po (d_bestOption_14  n F A J x1 x2 x3) (fun r => KM Fr Ar r.2.1 r.2.2.1) := by
  intro n
  induction n with
  | zero => intro F A J x1 x2 x3 _ r hr; cases hr
  | succ n ih =>
    intro F A J x1 x2 x3 h
    unfold d_bestOption_14
    repeat' (first
      | with_reducible exact po_some (by assumption)
      | (with_reducible refine km_pf (by assumption) (by decide) ?_; intro _ _)
      | (with_reducible refine km_st (by assumption) (by decide) ?_; intro _ _)
      | (with_reducible refine km_pz (by assumption) (by decide) ?_; intro _ _)
      | with_reducible exact km_d_gainBy (by assumption)
      | (with_reducible refine po_call (km_d_gainBy (by assumption)) ?_; rintro ⟨_, _, _, _⟩ _; try dsimp only)
      | with_reducible refine km_d_bestOption_50 ?_ (by assumption)
      | (with_reducible refine po_call (km_d_bestOption_50 ?_ (by assumption)) ?_)
      | with_reducible exact ih (by assumption)
      | (with_reducible refine po_call (ih (by assumption)) ?_; rintro ⟨_, _, _, _⟩ _; try dsimp only)
      | (intros; with_reducible exact ih (by assumption))
      | with_reducible refine po_cond (fun _ => ?_) (fun _ => ?_)
      | with_reducible refine po_bind_cond (fun _ => ?_) (fun _ => ?_)
      | with_reducible refine po_bl (fun _ _ => ?_))
theorem km_d_bestOption {n : Nat} {F : Nat → Int32} {A : Nat → Nat → Int32} {J : Nat → Nat → Int64} {x1 : Int32}  (h : KM Fr Ar F A) : po (d_bestOption n F A J x1) (fun r => KM Fr Ar r.2.1 r.2.2.1) := by
  unfold d_bestOption
  repeat' (first
    | with_reducible exact po_some (by assumption)
    | (with_reducible refine km_pf (by assumption) (by decide) ?_; intro _ _)
    | (with_reducible refine km_st (by assumption) (by decide) ?_; intro _ _)
    | (with_reducible refine km_pz (by assumption) (by decide) ?_; intro _ _)
    | with_reducible exact km_d_gainBy (by assumption)
    | (with_reducible refine po_call (km_d_gainBy (by assumption)) ?_; rintro ⟨_, _, _, _⟩ _; try dsimp only)
    | with_reducible exact km_d_bestOption_14 (by assumption)
    | (with_reducible refine po_call (km_d_bestOption_14 (by assumption)) ?_; rintro ⟨_, _, _, _⟩ _; try dsimp only)
    | with_reducible refine po_cond (fun _ => ?_) (fun _ => ?_)
    | with_reducible refine po_bind_cond (fun _ => ?_) (fun _ => ?_)
    | with_reducible refine po_bl (fun _ _ => ?_))
theorem km_d_codeOf {n : Nat} {F : Nat → Int32} {A : Nat → Nat → Int32} {J : Nat → Nat → Int64} {x1 : Int32} {x2 : Int32}  (h : KM Fr Ar F A) : po (d_codeOf n F A J x1 x2) (fun r => KM Fr Ar r.2.1 r.2.2.1) := by
  unfold d_codeOf
  repeat' (first
    | with_reducible exact po_some (by assumption)
    | (with_reducible refine km_pf (by assumption) (by decide) ?_; intro _ _)
    | (with_reducible refine km_st (by assumption) (by decide) ?_; intro _ _)
    | (with_reducible refine km_pz (by assumption) (by decide) ?_; intro _ _)
    | with_reducible exact km_d_leaves (by assumption)
    | (with_reducible refine po_call (km_d_leaves (by assumption)) ?_; rintro ⟨_, _, _, _⟩ _; try dsimp only)
    | with_reducible refine po_cond (fun _ => ?_) (fun _ => ?_)
    | with_reducible refine po_bind_cond (fun _ => ?_) (fun _ => ?_)
    | with_reducible refine po_bl (fun _ _ => ?_))
theorem km_d_best {n : Nat} {F : Nat → Int32} {A : Nat → Nat → Int32} {J : Nat → Nat → Int64} {x1 : Int32} {x2 : Int32}  (h : KM Fr Ar F A) : po (d_best n F A J x1 x2) (fun r => KM Fr Ar r.2.1 r.2.2.1) := by
  unfold d_best
  repeat' (first
    | with_reducible exact po_some (by assumption)
    | (with_reducible refine km_pf (by assumption) (by decide) ?_; intro _ _)
    | (with_reducible refine km_st (by assumption) (by decide) ?_; intro _ _)
    | (with_reducible refine km_pz (by assumption) (by decide) ?_; intro _ _)
    | with_reducible exact km_d_bestOption (by assumption)
    | (with_reducible refine po_call (km_d_bestOption (by assumption)) ?_; rintro ⟨_, _, _, _⟩ _; try dsimp only)
    | with_reducible exact km_d_codeOf (by assumption)
    | (with_reducible refine po_call (km_d_codeOf (by assumption)) ?_; rintro ⟨_, _, _, _⟩ _; try dsimp only)
    | with_reducible refine po_cond (fun _ => ?_) (fun _ => ?_)
    | with_reducible refine po_bind_cond (fun _ => ?_) (fun _ => ?_)
    | with_reducible refine po_bl (fun _ _ => ?_))
theorem km_d_bestOfTwo_118 {K44 : (Nat → Int32) → (Nat → Nat → Int32) → (Nat → Nat → Int64) → Int32 → Int32 → Int32 → Int32 → Int32 → Int32 → Int32 → Option (Int32 × (Nat → Int32) × (Nat → Nat → Int32) × (Nat → Nat → Int64))} {K56 : (Nat → Int32) → (Nat → Nat → Int32) → (Nat → Nat → Int64) → Int32 → Int32 → Int32 → Int32 → Int32 → Int32 → Int32 → Int32 → Option (Int32 × (Nat → Int32) × (Nat → Nat → Int32) × (Nat → Nat → Int64))} {n : Nat} {F : Nat → Int32} {A : Nat → Nat → Int32} {J : Nat → Nat → Int64} {x1 : Int32} {x2 : Int32} {x3 : Int32} {x4 : Int32} {x5 : Int32} {x6 : Int32} {x7 : Int32} {x8 : Int32} (hK44 : ∀ (a0 : Nat → Int32) (a1 : Nat → Nat → Int32) (a2 : Nat → Nat → Int64) (a3 : Int32) (a4 : Int32) (a5 : Int32) (a6 : Int32) (a7 : Int32) (a8 : Int32) (a9 : Int32), KM Fr Ar a0 a1 → po (K44 a0 a1 a2 a3 a4 a5 a6 a7 a8 a9) (fun r => KM Fr Ar r.2.1 r.2.2.1)) (hK56 : ∀ (a0 : Nat → Int32) (a1 : Nat → Nat → Int32) (a2 : Nat → Nat → Int64) (a3 : Int32) (a4 : Int32) (a5 : Int32) (a6 : Int32) (a7 : Int32) (a8 : Int32) (a9 : Int32) (a10 : Int32), KM Fr Ar a0 a1 → po (K56 a0 a1 a2 a3 a4 a5 a6 a7 a8 a9 a10) (fun r => KM Fr Ar r.2.1 r.2.2.1)) (h : KM Fr Ar F A) : po (d_bestOfTwo_118 K44 K56 n F A J x1 x2 x3 x4 x5 x6 x7 x8) (fun r => KM Fr Ar r.2.1 r.2.2.1) := by
  unfold d_bestOfTwo_118
  repeat' (first
    | with_reducible exact po_some (by assumption)
    | (with_reducible refine km_pf (by assumption) (by decide) ?_; intro _ _)
    | (with_reducible refine km_st (by assumption) (by decide) ?_; intro _ _)
    | (with_reducible refine km_pz (by assumption) (by decide) ?_; intro _ _)
    | with_reducible exact hK44 _ _ _ _ _ _ _ _ _ _ (by assumption)
    | (intros; with_reducible exact hK44 _ _ _ _ _ _ _ _ _ _ (by assumption))
    | with_reducible exact hK56 _ _ _ _ _ _ _ _ _ _ _ (by assumption)
    | (intros; with_reducible exact hK56 _ _ _ _ _ _ _ _ _ _ _ (by assumption))
    | with_reducible refine po_cond (fun _ => ?_) (fun _ => ?_)
    | with_reducible refine po_bind_cond (fun _ => ?_) (fun _ => ?_)
    | with_reducible refine po_bl (fun _ _ => ?_))
theorem km_d_bestOfTwo_106 {K44 : (Nat → Int32) → (Nat → Nat → Int32) → (Nat → Nat → Int64) → Int32 → Int32 → Int32 → Int32 → Int32 → Int32 → Int32 → Option (Int32 × (Nat → Int32) × (Nat → Nat → Int32) × (Nat → Nat → Int64))} {K56 : (Nat → Int32) → (Nat → Nat → Int32) → (Nat → Nat → Int64) → Int32 → Int32 → Int32 → Int32 → Int32 → Int32 → Int32 → Int32 → Option (Int32 × (Nat → Int32) × (Nat → Nat → Int32) × (Nat → Nat → Int64))} {n : Nat} {F : Nat → Int32} {A : Nat → Nat → Int32} {J : Nat → Nat → Int64} {x1 : Int32} {x2 : Int32} {x3 : Int32} {x7 : Int32} {x8 : Int32} {x9 : Int32} (hK44 : ∀ (a0 : Nat → Int32) (a1 : Nat → Nat → Int32) (a2 : Nat → Nat → Int64) (a3 : Int32) (a4 : Int32) (a5 : Int32) (a6 : Int32) (a7 : Int32) (a8 : Int32) (a9 : Int32), KM Fr Ar a0 a1 → po (K44 a0 a1 a2 a3 a4 a5 a6 a7 a8 a9) (fun r => KM Fr Ar r.2.1 r.2.2.1)) (hK56 : ∀ (a0 : Nat → Int32) (a1 : Nat → Nat → Int32) (a2 : Nat → Nat → Int64) (a3 : Int32) (a4 : Int32) (a5 : Int32) (a6 : Int32) (a7 : Int32) (a8 : Int32) (a9 : Int32) (a10 : Int32), KM Fr Ar a0 a1 → po (K56 a0 a1 a2 a3 a4 a5 a6 a7 a8 a9 a10) (fun r => KM Fr Ar r.2.1 r.2.2.1)) (h : KM Fr Ar F A) : po (d_bestOfTwo_106 K44 K56 n F A J x1 x2 x3 x7 x8 x9) (fun r => KM Fr Ar r.2.1 r.2.2.1) := by
  unfold d_bestOfTwo_106
  repeat' (first
    | with_reducible exact po_some (by assumption)
    | (with_reducible refine km_pf (by assumption) (by decide) ?_; intro _ _)
    | (with_reducible refine km_st (by assumption) (by decide) ?_; intro _ _)
    | (with_reducible refine km_pz (by assumption) (by decide) ?_; intro _ _)
    | with_reducible refine km_d_bestOfTwo_118 ?_ ?_ (by assumption)
    | (with_reducible refine po_call (km_d_bestOfTwo_118 ?_ ?_ (by assumption)) ?_)
    | with_reducible exact hK44 _ _ _ _ _ _ _ _ _ _ (by assumption)
    | (intros; with_reducible exact hK44 _ _ _ _ _ _ _ _ _ _ (by assumption))
    | with_reducible exact hK56 _ _ _ _ _ _ _ _ _ _ _ (by assumption)
    | (intros; with_reducible exact hK56 _ _ _ _ _ _ _ _ _ _ _ (by assumption))
    | with_reducible refine po_cond (fun _ => ?_) (fun _ => ?_)
    | with_reducible refine po_bind_cond (fun _ => ?_) (fun _ => ?_)
    | with_reducible refine po_bl (fun _ _ => ?_))
theorem km_d_bestOfTwo_56 {K44 : (Nat → Int32) → (Nat → Nat → Int32) → (Nat → Nat → Int64) → Int32 → Int32 → Int32 → Int32 → Int32 → Int32 → Int32 → Option (Int32 × (Nat → Int32) × (Nat → Nat → Int32) × (Nat → Nat → Int64))} (hK44 : ∀ (a0 : Nat → Int32) (a1 : Nat → Nat → Int32) (a2 : Nat → Nat → Int64) (a3 : Int32) (a4 : Int32) (a5 : Int32) (a6 : Int32) (a7 : Int32) (a8 : Int32) (a9 : Int32), KM Fr Ar a0 a1 → po (K44 a0 a1 a2 a3 a4 a5 a6 a7 a8 a9) (fun r => KM Fr Ar r.2.1 r.2.2.1)) : ∀ {n : Nat} {F : Nat → Int32} {A : Nat → Nat → Int32} {J : Nat → Nat → Int64} {x1 : Int32} {x2 : Int32} {x3 : Int32} {x4 : Int32} {x5 : Int32} {x6 : Int32} {x7 : Int32} {x8 : Int32}, KM Fr Ar F A → po (d_bestOfTwo_56 K44 n F A J x1 x2 x3 x4 x5 x6 x7 x8) (fun r => KM Fr Ar r.2.1 r.2.2.1) := by
  intro n
  induction n with
  | zero => intro F A J x1 x2 x3 x4 x5 x6 x7 x8 _ r hr; cases hr
  | succ n ih =>
    intro F A J x1 x2 x3 x4 x5 x6 x7 x8 h
    unfold d_bestOfTwo_56
    repeat' (first
      | with_reducible exact po_some (by assumption)
      | (with_reducible refine km_pf (by assumption) (by decide) ?_; intro _ _)
      | (with_reducible refine km_st (by assumption) (by decide) ?_; intro _ _)
      | (with_reducible refine km_pz (by assumption) (by decide) ?_; intro _ _)
      | with_reducible exact km_d_takes (by assumption)
      | (with_reducible refine po_call (km_d_takes (by assumption)) ?_; rintro ⟨_, _, _, _⟩ _; try dsimp only)
      | with_reducible exact km_d_leaves (by assumption)
      | (with_reducible refine po_call (km_d_leaves (by assumption)) ?_; rintro ⟨_, _, _, _⟩ _; try dsimp only)
      | with_reducible exact km_d_wholeNight (by assumption)
      | (with_reducible refine po_call (km_d_wholeNight (by assumption)) ?_; rintro ⟨_, _, _, _⟩ _; try dsimp only)
      | with_reducible refine km_d_bestOfTwo_106 ?_ ?_ (by assumption)
      | (with_reducible refine po_call (km_d_bestOfTwo_106 ?_ ?_ (by assumption)) ?_)
      | with_reducible refine km_d_bestOfTwo_118 ?_ ?_ (by assumption)
      | (with_reducible refine po_call (km_d_bestOfTwo_118 ?_ ?_ (by assumption)) ?_)
      | with_reducible exact hK44 _ _ _ _ _ _ _ _ _ _ (by assumption)
      | (intros; with_reducible exact hK44 _ _ _ _ _ _ _ _ _ _ (by assumption))
      | with_reducible exact ih (by assumption)
      | (with_reducible refine po_call (ih (by assumption)) ?_; rintro ⟨_, _, _, _⟩ _; try dsimp only)
      | (intros; with_reducible exact ih (by assumption))
      | with_reducible refine po_cond (fun _ => ?_) (fun _ => ?_)
      | with_reducible refine po_bind_cond (fun _ => ?_) (fun _ => ?_)
      | with_reducible refine po_bl (fun _ _ => ?_))
theorem km_d_bestOfTwo_44   : ∀ {n : Nat} {F : Nat → Int32} {A : Nat → Nat → Int32} {J : Nat → Nat → Int64} {x1 : Int32} {x2 : Int32} {x3 : Int32} {x4 : Int32} {x5 : Int32} {x6 : Int32} {x7 : Int32}, KM Fr Ar F A → po (d_bestOfTwo_44  n F A J x1 x2 x3 x4 x5 x6 x7) (fun r => KM Fr Ar r.2.1 r.2.2.1) := by
  intro n
  induction n with
  | zero => intro F A J x1 x2 x3 x4 x5 x6 x7 _ r hr; cases hr
  | succ n ih =>
    intro F A J x1 x2 x3 x4 x5 x6 x7 h
    unfold d_bestOfTwo_44
    repeat' (first
      | with_reducible exact po_some (by assumption)
      | (with_reducible refine km_pf (by assumption) (by decide) ?_; intro _ _)
      | (with_reducible refine km_st (by assumption) (by decide) ?_; intro _ _)
      | (with_reducible refine km_pz (by assumption) (by decide) ?_; intro _ _)
      | with_reducible exact km_d_codeOf (by assumption)
      | (with_reducible refine po_call (km_d_codeOf (by assumption)) ?_; rintro ⟨_, _, _, _⟩ _; try dsimp only)
      | with_reducible refine km_d_bestOfTwo_56 ?_ (by assumption)
      | (with_reducible refine po_call (km_d_bestOfTwo_56 ?_ (by assumption)) ?_)
      | with_reducible exact ih (by assumption)
      | (with_reducible refine po_call (ih (by assumption)) ?_; rintro ⟨_, _, _, _⟩ _; try dsimp only)
      | (intros; with_reducible exact ih (by assumption))
      | with_reducible refine po_cond (fun _ => ?_) (fun _ => ?_)
      | with_reducible refine po_bind_cond (fun _ => ?_) (fun _ => ?_)
      | with_reducible refine po_bl (fun _ _ => ?_))
theorem km_d_bestOfTwo {n : Nat} {F : Nat → Int32} {A : Nat → Nat → Int32} {J : Nat → Nat → Int64} {x1 : Int32} {x2 : Int32} {x3 : Int32}  (h : KM Fr Ar F A) : po (d_bestOfTwo n F A J x1 x2 x3) (fun r => KM Fr Ar r.2.1 r.2.2.1) := by
  unfold d_bestOfTwo
  repeat' (first
    | with_reducible exact po_some (by assumption)
    | (with_reducible refine km_pf (by assumption) (by decide) ?_; intro _ _)
    | (with_reducible refine km_st (by assumption) (by decide) ?_; intro _ _)
    | (with_reducible refine km_pz (by assumption) (by decide) ?_; intro _ _)
    | with_reducible exact km_d_bestOfTwo_44 (by assumption)
    | (with_reducible refine po_call (km_d_bestOfTwo_44 (by assumption)) ?_; rintro ⟨_, _, _, _⟩ _; try dsimp only)
    | with_reducible refine po_cond (fun _ => ?_) (fun _ => ?_)
    | with_reducible refine po_bind_cond (fun _ => ?_) (fun _ => ?_)
    | with_reducible refine po_bl (fun _ _ => ?_))
theorem km_d_hire {n : Nat} {F : Nat → Int32} {A : Nat → Nat → Int32} {J : Nat → Nat → Int64} {x1 : Int32}  (h : KM Fr Ar F A) : po (d_hire n F A J x1) (fun r => KM Fr Ar r.2.1 r.2.2.1) := by
  unfold d_hire
  repeat' (first
    | with_reducible exact po_some (by assumption)
    | (with_reducible refine km_pf (by assumption) (by decide) ?_; intro _ _)
    | (with_reducible refine km_st (by assumption) (by decide) ?_; intro _ _)
    | (with_reducible refine km_pz (by assumption) (by decide) ?_; intro _ _)
    | with_reducible exact km_d_bestOption (by assumption)
    | (with_reducible refine po_call (km_d_bestOption (by assumption)) ?_; rintro ⟨_, _, _, _⟩ _; try dsimp only)
    | with_reducible exact km_d_gainBy (by assumption)
    | (with_reducible refine po_call (km_d_gainBy (by assumption)) ?_; rintro ⟨_, _, _, _⟩ _; try dsimp only)
    | with_reducible refine po_cond (fun _ => ?_) (fun _ => ?_)
    | with_reducible refine po_bind_cond (fun _ => ?_) (fun _ => ?_)
    | with_reducible refine po_bl (fun _ _ => ?_))
theorem km_d_hide_136 {K39 : (Nat → Int32) → (Nat → Nat → Int32) → (Nat → Nat → Int64) → Int32 → Int32 → Int32 → Int32 → Int32 → Option (Int32 × (Nat → Int32) × (Nat → Nat → Int32) × (Nat → Nat → Int64))} {n : Nat} {F : Nat → Int32} {A : Nat → Nat → Int32} {J : Nat → Nat → Int64} {x1 : Int32} {x2 : Int32} {x3 : Int32} {x4 : Int32} {x5 : Int32} (hK39 : ∀ (a0 : Nat → Int32) (a1 : Nat → Nat → Int32) (a2 : Nat → Nat → Int64) (a3 : Int32) (a4 : Int32) (a5 : Int32) (a6 : Int32) (a7 : Int32), KM Fr Ar a0 a1 → po (K39 a0 a1 a2 a3 a4 a5 a6 a7) (fun r => KM Fr Ar r.2.1 r.2.2.1)) (h : KM Fr Ar F A) : po (d_hide_136 K39 n F A J x1 x2 x3 x4 x5) (fun r => KM Fr Ar r.2.1 r.2.2.1) := by
  unfold d_hide_136
  repeat' (first
    | with_reducible exact po_some (by assumption)
    | (with_reducible refine km_pf (by assumption) (by decide) ?_; intro _ _)
    | (with_reducible refine km_st (by assumption) (by decide) ?_; intro _ _)
    | (with_reducible refine km_pz (by assumption) (by decide) ?_; intro _ _)
    | with_reducible exact hK39 _ _ _ _ _ _ _ _ (by assumption)
    | (intros; with_reducible exact hK39 _ _ _ _ _ _ _ _ (by assumption))
    | with_reducible refine po_cond (fun _ => ?_) (fun _ => ?_)
    | with_reducible refine po_bind_cond (fun _ => ?_) (fun _ => ?_)
    | with_reducible refine po_bl (fun _ _ => ?_))
theorem km_d_hide_129 {K39 : (Nat → Int32) → (Nat → Nat → Int32) → (Nat → Nat → Int64) → Int32 → Int32 → Int32 → Int32 → Int32 → Option (Int32 × (Nat → Int32) × (Nat → Nat → Int32) × (Nat → Nat → Int64))} {n : Nat} {F : Nat → Int32} {A : Nat → Nat → Int32} {J : Nat → Nat → Int64} {x1 : Int32} {x2 : Int32} {x5 : Int32} {x6 : Int32} {x7 : Int32} (hK39 : ∀ (a0 : Nat → Int32) (a1 : Nat → Nat → Int32) (a2 : Nat → Nat → Int64) (a3 : Int32) (a4 : Int32) (a5 : Int32) (a6 : Int32) (a7 : Int32), KM Fr Ar a0 a1 → po (K39 a0 a1 a2 a3 a4 a5 a6 a7) (fun r => KM Fr Ar r.2.1 r.2.2.1)) (h : KM Fr Ar F A) : po (d_hide_129 K39 n F A J x1 x2 x5 x6 x7) (fun r => KM Fr Ar r.2.1 r.2.2.1) := by
  unfold d_hide_129
  repeat' (first
    | with_reducible exact po_some (by assumption)
    | (with_reducible refine km_pf (by assumption) (by decide) ?_; intro _ _)
    | (with_reducible refine km_st (by assumption) (by decide) ?_; intro _ _)
    | (with_reducible refine km_pz (by assumption) (by decide) ?_; intro _ _)
    | with_reducible refine km_d_hide_136 ?_ (by assumption)
    | (with_reducible refine po_call (km_d_hide_136 ?_ (by assumption)) ?_)
    | with_reducible exact hK39 _ _ _ _ _ _ _ _ (by assumption)
    | (intros; with_reducible exact hK39 _ _ _ _ _ _ _ _ (by assumption))
    | with_reducible refine po_cond (fun _ => ?_) (fun _ => ?_)
    | with_reducible refine po_bind_cond (fun _ => ?_) (fun _ => ?_)
    | with_reducible refine po_bl (fun _ _ => ?_))
theorem km_d_hide_92 {K39 : (Nat → Int32) → (Nat → Nat → Int32) → (Nat → Nat → Int64) → Int32 → Int32 → Int32 → Int32 → Int32 → Option (Int32 × (Nat → Int32) × (Nat → Nat → Int32) × (Nat → Nat → Int64))} {n : Nat} {F : Nat → Int32} {A : Nat → Nat → Int32} {J : Nat → Nat → Int64} {x1 : Int32} {x2 : Int32} {x3 : Int32} {x4 : Int32} {x5 : Int32} {s0 : Int32} (hK39 : ∀ (a0 : Nat → Int32) (a1 : Nat → Nat → Int32) (a2 : Nat → Nat → Int64) (a3 : Int32) (a4 : Int32) (a5 : Int32) (a6 : Int32) (a7 : Int32), KM Fr Ar a0 a1 → po (K39 a0 a1 a2 a3 a4 a5 a6 a7) (fun r => KM Fr Ar r.2.1 r.2.2.1)) (h : KM Fr Ar F A) : po (d_hide_92 K39 n F A J x1 x2 x3 x4 x5 s0) (fun r => KM Fr Ar r.2.1 r.2.2.1) := by
  unfold d_hide_92
  repeat' (first
    | with_reducible exact po_some (by assumption)
    | (with_reducible refine km_pf (by assumption) (by decide) ?_; intro _ _)
    | (with_reducible refine km_st (by assumption) (by decide) ?_; intro _ _)
    | (with_reducible refine km_pz (by assumption) (by decide) ?_; intro _ _)
    | with_reducible exact km_d_takes (by assumption)
    | (with_reducible refine po_call (km_d_takes (by assumption)) ?_; rintro ⟨_, _, _, _⟩ _; try dsimp only)
    | with_reducible exact km_d_wholeNight (by assumption)
    | (with_reducible refine po_call (km_d_wholeNight (by assumption)) ?_; rintro ⟨_, _, _, _⟩ _; try dsimp only)
    | with_reducible refine km_d_hide_129 ?_ (by assumption)
    | (with_reducible refine po_call (km_d_hide_129 ?_ (by assumption)) ?_)
    | with_reducible refine km_d_hide_136 ?_ (by assumption)
    | (with_reducible refine po_call (km_d_hide_136 ?_ (by assumption)) ?_)
    | with_reducible exact hK39 _ _ _ _ _ _ _ _ (by assumption)
    | (intros; with_reducible exact hK39 _ _ _ _ _ _ _ _ (by assumption))
    | with_reducible refine po_cond (fun _ => ?_) (fun _ => ?_)
    | with_reducible refine po_bind_cond (fun _ => ?_) (fun _ => ?_)
    | with_reducible refine po_bl (fun _ _ => ?_))
theorem km_d_hide_39   : ∀ {n : Nat} {F : Nat → Int32} {A : Nat → Nat → Int32} {J : Nat → Nat → Int64} {x1 : Int32} {x2 : Int32} {x3 : Int32} {x4 : Int32} {x5 : Int32}, KM Fr Ar F A → po (d_hide_39  n F A J x1 x2 x3 x4 x5) (fun r => KM Fr Ar r.2.1 r.2.2.1) := by
  intro n
  induction n with
  | zero => intro F A J x1 x2 x3 x4 x5 _ r hr; cases hr
  | succ n ih =>
    intro F A J x1 x2 x3 x4 x5 h
    unfold d_hide_39
    repeat' (first
      | with_reducible exact po_some (by assumption)
      | (with_reducible refine km_pf (by assumption) (by decide) ?_; intro _ _)
      | (with_reducible refine km_st (by assumption) (by decide) ?_; intro _ _)
      | (with_reducible refine km_pz (by assumption) (by decide) ?_; intro _ _)
      | with_reducible refine km_d_hide_92 ?_ (by assumption)
      | (with_reducible refine po_call (km_d_hide_92 ?_ (by assumption)) ?_)
      | with_reducible exact ih (by assumption)
      | (with_reducible refine po_call (ih (by assumption)) ?_; rintro ⟨_, _, _, _⟩ _; try dsimp only)
      | (intros; with_reducible exact ih (by assumption))
      | with_reducible refine po_cond (fun _ => ?_) (fun _ => ?_)
      | with_reducible refine po_bind_cond (fun _ => ?_) (fun _ => ?_)
      | with_reducible refine po_bl (fun _ _ => ?_))
theorem km_d_hide {n : Nat} {F : Nat → Int32} {A : Nat → Nat → Int32} {J : Nat → Nat → Int64} {x1 : Int32} {x2 : Int32}  (h : KM Fr Ar F A) : po (d_hide n F A J x1 x2) (fun r => KM Fr Ar r.2.1 r.2.2.1) := by
  unfold d_hide
  repeat' (first
    | with_reducible exact po_some (by assumption)
    | (with_reducible refine km_pf (by assumption) (by decide) ?_; intro _ _)
    | (with_reducible refine km_st (by assumption) (by decide) ?_; intro _ _)
    | (with_reducible refine km_pz (by assumption) (by decide) ?_; intro _ _)
    | with_reducible exact km_d_hide_39 (by assumption)
    | (with_reducible refine po_call (km_d_hide_39 (by assumption)) ?_; rintro ⟨_, _, _, _⟩ _; try dsimp only)
    | with_reducible refine po_cond (fun _ => ?_) (fun _ => ?_)
    | with_reducible refine po_bind_cond (fun _ => ?_) (fun _ => ?_)
    | with_reducible refine po_bl (fun _ _ => ?_))
theorem km_d_bars_90 {K18 : (Nat → Int32) → (Nat → Nat → Int32) → (Nat → Nat → Int64) → Int32 → Int32 → Int32 → Int32 → Option (Int32 × (Nat → Int32) × (Nat → Nat → Int32) × (Nat → Nat → Int64))} {n : Nat} {F : Nat → Int32} {A : Nat → Nat → Int32} {J : Nat → Nat → Int64} {x1 : Int32} {x2 : Int32} {x3 : Int32} {x4 : Int32} (hK18 : ∀ (a0 : Nat → Int32) (a1 : Nat → Nat → Int32) (a2 : Nat → Nat → Int64) (a3 : Int32) (a4 : Int32) (a5 : Int32) (a6 : Int32), KM Fr Ar a0 a1 → po (K18 a0 a1 a2 a3 a4 a5 a6) (fun r => KM Fr Ar r.2.1 r.2.2.1)) (h : KM Fr Ar F A) : po (d_bars_90 K18 n F A J x1 x2 x3 x4) (fun r => KM Fr Ar r.2.1 r.2.2.1) := by
  unfold d_bars_90
  repeat' (first
    | with_reducible exact po_some (by assumption)
    | (with_reducible refine km_pf (by assumption) (by decide) ?_; intro _ _)
    | (with_reducible refine km_st (by assumption) (by decide) ?_; intro _ _)
    | (with_reducible refine km_pz (by assumption) (by decide) ?_; intro _ _)
    | with_reducible exact hK18 _ _ _ _ _ _ _ (by assumption)
    | (intros; with_reducible exact hK18 _ _ _ _ _ _ _ (by assumption))
    | with_reducible refine po_cond (fun _ => ?_) (fun _ => ?_)
    | with_reducible refine po_bind_cond (fun _ => ?_) (fun _ => ?_)
    | with_reducible refine po_bl (fun _ _ => ?_))
theorem km_d_bars_84 {K18 : (Nat → Int32) → (Nat → Nat → Int32) → (Nat → Nat → Int64) → Int32 → Int32 → Int32 → Int32 → Option (Int32 × (Nat → Int32) × (Nat → Nat → Int32) × (Nat → Nat → Int64))} {n : Nat} {F : Nat → Int32} {A : Nat → Nat → Int32} {J : Nat → Nat → Int64} {x1 : Int32} {x4 : Int32} {x5 : Int32} (hK18 : ∀ (a0 : Nat → Int32) (a1 : Nat → Nat → Int32) (a2 : Nat → Nat → Int64) (a3 : Int32) (a4 : Int32) (a5 : Int32) (a6 : Int32), KM Fr Ar a0 a1 → po (K18 a0 a1 a2 a3 a4 a5 a6) (fun r => KM Fr Ar r.2.1 r.2.2.1)) (h : KM Fr Ar F A) : po (d_bars_84 K18 n F A J x1 x4 x5) (fun r => KM Fr Ar r.2.1 r.2.2.1) := by
  unfold d_bars_84
  repeat' (first
    | with_reducible exact po_some (by assumption)
    | (with_reducible refine km_pf (by assumption) (by decide) ?_; intro _ _)
    | (with_reducible refine km_st (by assumption) (by decide) ?_; intro _ _)
    | (with_reducible refine km_pz (by assumption) (by decide) ?_; intro _ _)
    | with_reducible refine km_d_bars_90 ?_ (by assumption)
    | (with_reducible refine po_call (km_d_bars_90 ?_ (by assumption)) ?_)
    | with_reducible exact hK18 _ _ _ _ _ _ _ (by assumption)
    | (intros; with_reducible exact hK18 _ _ _ _ _ _ _ (by assumption))
    | with_reducible refine po_cond (fun _ => ?_) (fun _ => ?_)
    | with_reducible refine po_bind_cond (fun _ => ?_) (fun _ => ?_)
    | with_reducible refine po_bl (fun _ _ => ?_))
theorem km_d_bars_18   : ∀ {n : Nat} {F : Nat → Int32} {A : Nat → Nat → Int32} {J : Nat → Nat → Int64} {x1 : Int32} {x2 : Int32} {x3 : Int32} {x4 : Int32}, KM Fr Ar F A → po (d_bars_18  n F A J x1 x2 x3 x4) (fun r => KM Fr Ar r.2.1 r.2.2.1) := by
  intro n
  induction n with
  | zero => intro F A J x1 x2 x3 x4 _ r hr; cases hr
  | succ n ih =>
    intro F A J x1 x2 x3 x4 h
    unfold d_bars_18
    repeat' (first
      | with_reducible exact po_some (by assumption)
      | (with_reducible refine km_pf (by assumption) (by decide) ?_; intro _ _)
      | (with_reducible refine km_st (by assumption) (by decide) ?_; intro _ _)
      | (with_reducible refine km_pz (by assumption) (by decide) ?_; intro _ _)
      | with_reducible exact km_d_takes (by assumption)
      | (with_reducible refine po_call (km_d_takes (by assumption)) ?_; rintro ⟨_, _, _, _⟩ _; try dsimp only)
      | with_reducible exact km_d_wholeNight (by assumption)
      | (with_reducible refine po_call (km_d_wholeNight (by assumption)) ?_; rintro ⟨_, _, _, _⟩ _; try dsimp only)
      | with_reducible refine km_d_bars_84 ?_ (by assumption)
      | (with_reducible refine po_call (km_d_bars_84 ?_ (by assumption)) ?_)
      | with_reducible refine km_d_bars_90 ?_ (by assumption)
      | (with_reducible refine po_call (km_d_bars_90 ?_ (by assumption)) ?_)
      | with_reducible exact ih (by assumption)
      | (with_reducible refine po_call (ih (by assumption)) ?_; rintro ⟨_, _, _, _⟩ _; try dsimp only)
      | (intros; with_reducible exact ih (by assumption))
      | with_reducible refine po_cond (fun _ => ?_) (fun _ => ?_)
      | with_reducible refine po_bind_cond (fun _ => ?_) (fun _ => ?_)
      | with_reducible refine po_bl (fun _ _ => ?_))
theorem km_d_bars {n : Nat} {F : Nat → Int32} {A : Nat → Nat → Int32} {J : Nat → Nat → Int64} {x1 : Int32}  (h : KM Fr Ar F A) : po (d_bars n F A J x1) (fun r => KM Fr Ar r.2.1 r.2.2.1) := by
  unfold d_bars
  repeat' (first
    | with_reducible exact po_some (by assumption)
    | (with_reducible refine km_pf (by assumption) (by decide) ?_; intro _ _)
    | (with_reducible refine km_st (by assumption) (by decide) ?_; intro _ _)
    | (with_reducible refine km_pz (by assumption) (by decide) ?_; intro _ _)
    | with_reducible exact km_d_bars_18 (by assumption)
    | (with_reducible refine po_call (km_d_bars_18 (by assumption)) ?_; rintro ⟨_, _, _, _⟩ _; try dsimp only)
    | with_reducible refine po_cond (fun _ => ?_) (fun _ => ?_)
    | with_reducible refine po_bind_cond (fun _ => ?_) (fun _ => ?_)
    | with_reducible refine po_bl (fun _ _ => ?_))
theorem km_d_where {n : Nat} {F : Nat → Int32} {A : Nat → Nat → Int32} {J : Nat → Nat → Int64} {x1 : Int32} {x2 : Int32}  (h : KM Fr Ar F A) : po (d_where n F A J x1 x2) (fun r => KM Fr Ar r.2.1 r.2.2.1) := by
  unfold d_where
  repeat' (first
    | with_reducible exact po_some (by assumption)
    | (with_reducible refine km_pf (by assumption) (by decide) ?_; intro _ _)
    | (with_reducible refine km_st (by assumption) (by decide) ?_; intro _ _)
    | (with_reducible refine km_pz (by assumption) (by decide) ?_; intro _ _)
    | with_reducible exact km_d_takes (by assumption)
    | (with_reducible refine po_call (km_d_takes (by assumption)) ?_; rintro ⟨_, _, _, _⟩ _; try dsimp only)
    | with_reducible exact km_d_fillsWays (by assumption)
    | (with_reducible refine po_call (km_d_fillsWays (by assumption)) ?_; rintro ⟨_, _, _, _⟩ _; try dsimp only)
    | with_reducible refine po_cond (fun _ => ?_) (fun _ => ?_)
    | with_reducible refine po_bind_cond (fun _ => ?_) (fun _ => ?_)
    | with_reducible refine po_bl (fun _ _ => ?_))
theorem km_d_strokes {n : Nat} {F : Nat → Int32} {A : Nat → Nat → Int32} {J : Nat → Nat → Int64} {x1 : Int32} {x2 : Int32}  (h : KM Fr Ar F A) : po (d_strokes n F A J x1 x2) (fun r => KM Fr Ar r.2.1 r.2.2.1) := by
  unfold d_strokes
  repeat' (first
    | with_reducible exact po_some (by assumption)
    | (with_reducible refine km_pf (by assumption) (by decide) ?_; intro _ _)
    | (with_reducible refine km_st (by assumption) (by decide) ?_; intro _ _)
    | (with_reducible refine km_pz (by assumption) (by decide) ?_; intro _ _)
    | with_reducible exact km_d_takes (by assumption)
    | (with_reducible refine po_call (km_d_takes (by assumption)) ?_; rintro ⟨_, _, _, _⟩ _; try dsimp only)
    | with_reducible exact km_d_goesTill (by assumption)
    | (with_reducible refine po_call (km_d_goesTill (by assumption)) ?_; rintro ⟨_, _, _, _⟩ _; try dsimp only)
    | with_reducible refine po_cond (fun _ => ?_) (fun _ => ?_)
    | with_reducible refine po_bind_cond (fun _ => ?_) (fun _ => ?_)
    | with_reducible refine po_bl (fun _ _ => ?_))
theorem km_d_isSo_7   : ∀ {n : Nat} {F : Nat → Int32} {A : Nat → Nat → Int32} {J : Nat → Nat → Int64} {x1 : Int32} {x2 : Int32}, KM Fr Ar F A → po (d_isSo_7  n F A J x1 x2) (fun r => KM Fr Ar r.2.1 r.2.2.1) := by
  intro n
  induction n with
  | zero => intro F A J x1 x2 _ r hr; cases hr
  | succ n ih =>
    intro F A J x1 x2 h
    unfold d_isSo_7
    repeat' (first
      | with_reducible exact po_some (by assumption)
      | (with_reducible refine km_pf (by assumption) (by decide) ?_; intro _ _)
      | (with_reducible refine km_st (by assumption) (by decide) ?_; intro _ _)
      | (with_reducible refine km_pz (by assumption) (by decide) ?_; intro _ _)
      | with_reducible exact ih (by assumption)
      | (with_reducible refine po_call (ih (by assumption)) ?_; rintro ⟨_, _, _, _⟩ _; try dsimp only)
      | (intros; with_reducible exact ih (by assumption))
      | with_reducible refine po_cond (fun _ => ?_) (fun _ => ?_)
      | with_reducible refine po_bind_cond (fun _ => ?_) (fun _ => ?_)
      | with_reducible refine po_bl (fun _ _ => ?_))
theorem km_d_isSo {n : Nat} {F : Nat → Int32} {A : Nat → Nat → Int32} {J : Nat → Nat → Int64} {x1 : Int32}  (h : KM Fr Ar F A) : po (d_isSo n F A J x1) (fun r => KM Fr Ar r.2.1 r.2.2.1) := by
  unfold d_isSo
  repeat' (first
    | with_reducible exact po_some (by assumption)
    | (with_reducible refine km_pf (by assumption) (by decide) ?_; intro _ _)
    | (with_reducible refine km_st (by assumption) (by decide) ?_; intro _ _)
    | (with_reducible refine km_pz (by assumption) (by decide) ?_; intro _ _)
    | with_reducible exact km_d_wholeNight (by assumption)
    | (with_reducible refine po_call (km_d_wholeNight (by assumption)) ?_; rintro ⟨_, _, _, _⟩ _; try dsimp only)
    | with_reducible exact km_d_isSo_7 (by assumption)
    | (with_reducible refine po_call (km_d_isSo_7 (by assumption)) ?_; rintro ⟨_, _, _, _⟩ _; try dsimp only)
    | with_reducible refine po_cond (fun _ => ?_) (fun _ => ?_)
    | with_reducible refine po_bind_cond (fun _ => ?_) (fun _ => ?_)
    | with_reducible refine po_bl (fun _ _ => ?_))
theorem km_d_fits_82 {K33 : (Nat → Int32) → (Nat → Nat → Int32) → (Nat → Nat → Int64) → Int32 → Int32 → Int32 → Int32 → Int32 → Option (Int32 × (Nat → Int32) × (Nat → Nat → Int32) × (Nat → Nat → Int64))} {n : Nat} {F : Nat → Int32} {A : Nat → Nat → Int32} {J : Nat → Nat → Int64} {x1 : Int32} {x2 : Int32} {x3 : Int32} {x4 : Int32} {x5 : Int32} (hK33 : ∀ (a0 : Nat → Int32) (a1 : Nat → Nat → Int32) (a2 : Nat → Nat → Int64) (a3 : Int32) (a4 : Int32) (a5 : Int32) (a6 : Int32) (a7 : Int32), KM Fr Ar a0 a1 → po (K33 a0 a1 a2 a3 a4 a5 a6 a7) (fun r => KM Fr Ar r.2.1 r.2.2.1)) (h : KM Fr Ar F A) : po (d_fits_82 K33 n F A J x1 x2 x3 x4 x5) (fun r => KM Fr Ar r.2.1 r.2.2.1) := by
  unfold d_fits_82
  repeat' (first
    | with_reducible exact po_some (by assumption)
    | (with_reducible refine km_pf (by assumption) (by decide) ?_; intro _ _)
    | (with_reducible refine km_st (by assumption) (by decide) ?_; intro _ _)
    | (with_reducible refine km_pz (by assumption) (by decide) ?_; intro _ _)
    | with_reducible exact hK33 _ _ _ _ _ _ _ _ (by assumption)
    | (intros; with_reducible exact hK33 _ _ _ _ _ _ _ _ (by assumption))
    | with_reducible refine po_cond (fun _ => ?_) (fun _ => ?_)
    | with_reducible refine po_bind_cond (fun _ => ?_) (fun _ => ?_)
    | with_reducible refine po_bl (fun _ _ => ?_))
theorem km_d_fits_33   : ∀ {n : Nat} {F : Nat → Int32} {A : Nat → Nat → Int32} {J : Nat → Nat → Int64} {x1 : Int32} {x2 : Int32} {x3 : Int32} {x4 : Int32} {x5 : Int32}, KM Fr Ar F A → po (d_fits_33  n F A J x1 x2 x3 x4 x5) (fun r => KM Fr Ar r.2.1 r.2.2.1) := by
  intro n
  induction n with
  | zero => intro F A J x1 x2 x3 x4 x5 _ r hr; cases hr
  | succ n ih =>
    intro F A J x1 x2 x3 x4 x5 h
    unfold d_fits_33
    repeat' (first
      | with_reducible exact po_some (by assumption)
      | (with_reducible refine km_pf (by assumption) (by decide) ?_; intro _ _)
      | (with_reducible refine km_st (by assumption) (by decide) ?_; intro _ _)
      | (with_reducible refine km_pz (by assumption) (by decide) ?_; intro _ _)
      | with_reducible exact km_d_takes (by assumption)
      | (with_reducible refine po_call (km_d_takes (by assumption)) ?_; rintro ⟨_, _, _, _⟩ _; try dsimp only)
      | with_reducible exact km_d_leaves (by assumption)
      | (with_reducible refine po_call (km_d_leaves (by assumption)) ?_; rintro ⟨_, _, _, _⟩ _; try dsimp only)
      | with_reducible exact km_d_isSo (by assumption)
      | (with_reducible refine po_call (km_d_isSo (by assumption)) ?_; rintro ⟨_, _, _, _⟩ _; try dsimp only)
      | with_reducible refine km_d_fits_82 ?_ (by assumption)
      | (with_reducible refine po_call (km_d_fits_82 ?_ (by assumption)) ?_)
      | with_reducible exact km_d_codeOf (by assumption)
      | (with_reducible refine po_call (km_d_codeOf (by assumption)) ?_; rintro ⟨_, _, _, _⟩ _; try dsimp only)
      | with_reducible exact ih (by assumption)
      | (with_reducible refine po_call (ih (by assumption)) ?_; rintro ⟨_, _, _, _⟩ _; try dsimp only)
      | (intros; with_reducible exact ih (by assumption))
      | with_reducible refine po_cond (fun _ => ?_) (fun _ => ?_)
      | with_reducible refine po_bind_cond (fun _ => ?_) (fun _ => ?_)
      | with_reducible refine po_bl (fun _ _ => ?_))
theorem km_d_fits {n : Nat} {F : Nat → Int32} {A : Nat → Nat → Int32} {J : Nat → Nat → Int64} {x1 : Int32} {x2 : Int32} {x3 : Int32}  (h : KM Fr Ar F A) : po (d_fits n F A J x1 x2 x3) (fun r => KM Fr Ar r.2.1 r.2.2.1) := by
  unfold d_fits
  repeat' (first
    | with_reducible exact po_some (by assumption)
    | (with_reducible refine km_pf (by assumption) (by decide) ?_; intro _ _)
    | (with_reducible refine km_st (by assumption) (by decide) ?_; intro _ _)
    | (with_reducible refine km_pz (by assumption) (by decide) ?_; intro _ _)
    | with_reducible exact km_d_fits_33 (by assumption)
    | (with_reducible refine po_call (km_d_fits_33 (by assumption)) ?_; rintro ⟨_, _, _, _⟩ _; try dsimp only)
    | with_reducible refine po_cond (fun _ => ?_) (fun _ => ?_)
    | with_reducible refine po_bind_cond (fun _ => ?_) (fun _ => ?_)
    | with_reducible refine po_bl (fun _ _ => ?_))
theorem km_d_isSuspect_76 {K2 : (Nat → Int32) → (Nat → Nat → Int32) → (Nat → Nat → Int64) → Int32 → Int32 → Int32 → Option (Int32 × (Nat → Int32) × (Nat → Nat → Int32) × (Nat → Nat → Int64))} {n : Nat} {F : Nat → Int32} {A : Nat → Nat → Int32} {J : Nat → Nat → Int64} {x1 : Int32} {x2 : Int32} {x3 : Int32} (hK2 : ∀ (a0 : Nat → Int32) (a1 : Nat → Nat → Int32) (a2 : Nat → Nat → Int64) (a3 : Int32) (a4 : Int32) (a5 : Int32), KM Fr Ar a0 a1 → po (K2 a0 a1 a2 a3 a4 a5) (fun r => KM Fr Ar r.2.1 r.2.2.1)) (h : KM Fr Ar F A) : po (d_isSuspect_76 K2 n F A J x1 x2 x3) (fun r => KM Fr Ar r.2.1 r.2.2.1) := by
  unfold d_isSuspect_76
  repeat' (first
    | with_reducible exact po_some (by assumption)
    | (with_reducible refine km_pf (by assumption) (by decide) ?_; intro _ _)
    | (with_reducible refine km_st (by assumption) (by decide) ?_; intro _ _)
    | (with_reducible refine km_pz (by assumption) (by decide) ?_; intro _ _)
    | with_reducible exact hK2 _ _ _ _ _ _ (by assumption)
    | (intros; with_reducible exact hK2 _ _ _ _ _ _ (by assumption))
    | with_reducible refine po_cond (fun _ => ?_) (fun _ => ?_)
    | with_reducible refine po_bind_cond (fun _ => ?_) (fun _ => ?_)
    | with_reducible refine po_bl (fun _ _ => ?_))
theorem km_d_isSuspect_66 {K2 : (Nat → Int32) → (Nat → Nat → Int32) → (Nat → Nat → Int64) → Int32 → Int32 → Int32 → Option (Int32 × (Nat → Int32) × (Nat → Nat → Int32) × (Nat → Nat → Int64))} {n : Nat} {F : Nat → Int32} {A : Nat → Nat → Int32} {J : Nat → Nat → Int64} {x1 : Int32} {x2 : Int32} {x3 : Int32} (hK2 : ∀ (a0 : Nat → Int32) (a1 : Nat → Nat → Int32) (a2 : Nat → Nat → Int64) (a3 : Int32) (a4 : Int32) (a5 : Int32), KM Fr Ar a0 a1 → po (K2 a0 a1 a2 a3 a4 a5) (fun r => KM Fr Ar r.2.1 r.2.2.1)) (h : KM Fr Ar F A) : po (d_isSuspect_66 K2 n F A J x1 x2 x3) (fun r => KM Fr Ar r.2.1 r.2.2.1) := by
  unfold d_isSuspect_66
  repeat' (first
    | with_reducible exact po_some (by assumption)
    | (with_reducible refine km_pf (by assumption) (by decide) ?_; intro _ _)
    | (with_reducible refine km_st (by assumption) (by decide) ?_; intro _ _)
    | (with_reducible refine km_pz (by assumption) (by decide) ?_; intro _ _)
    | with_reducible exact km_d_isSo (by assumption)
    | (with_reducible refine po_call (km_d_isSo (by assumption)) ?_; rintro ⟨_, _, _, _⟩ _; try dsimp only)
    | with_reducible refine km_d_isSuspect_76 ?_ (by assumption)
    | (with_reducible refine po_call (km_d_isSuspect_76 ?_ (by assumption)) ?_)
    | with_reducible exact hK2 _ _ _ _ _ _ (by assumption)
    | (intros; with_reducible exact hK2 _ _ _ _ _ _ (by assumption))
    | with_reducible refine po_cond (fun _ => ?_) (fun _ => ?_)
    | with_reducible refine po_bind_cond (fun _ => ?_) (fun _ => ?_)
    | with_reducible refine po_bl (fun _ _ => ?_))
theorem km_d_isSuspect_2   : ∀ {n : Nat} {F : Nat → Int32} {A : Nat → Nat → Int32} {J : Nat → Nat → Int64} {x1 : Int32} {x2 : Int32} {x3 : Int32}, KM Fr Ar F A → po (d_isSuspect_2  n F A J x1 x2 x3) (fun r => KM Fr Ar r.2.1 r.2.2.1) := by
  intro n
  induction n with
  | zero => intro F A J x1 x2 x3 _ r hr; cases hr
  | succ n ih =>
    intro F A J x1 x2 x3 h
    unfold d_isSuspect_2
    repeat' (first
      | with_reducible exact po_some (by assumption)
      | (with_reducible refine km_pf (by assumption) (by decide) ?_; intro _ _)
      | (with_reducible refine km_st (by assumption) (by decide) ?_; intro _ _)
      | (with_reducible refine km_pz (by assumption) (by decide) ?_; intro _ _)
      | with_reducible exact km_d_takes (by assumption)
      | (with_reducible refine po_call (km_d_takes (by assumption)) ?_; rintro ⟨_, _, _, _⟩ _; try dsimp only)
      | with_reducible exact km_d_leaves (by assumption)
      | (with_reducible refine po_call (km_d_leaves (by assumption)) ?_; rintro ⟨_, _, _, _⟩ _; try dsimp only)
      | with_reducible refine km_d_isSuspect_66 ?_ (by assumption)
      | (with_reducible refine po_call (km_d_isSuspect_66 ?_ (by assumption)) ?_)
      | with_reducible refine km_d_isSuspect_76 ?_ (by assumption)
      | (with_reducible refine po_call (km_d_isSuspect_76 ?_ (by assumption)) ?_)
      | with_reducible exact ih (by assumption)
      | (with_reducible refine po_call (ih (by assumption)) ?_; rintro ⟨_, _, _, _⟩ _; try dsimp only)
      | (intros; with_reducible exact ih (by assumption))
      | with_reducible refine po_cond (fun _ => ?_) (fun _ => ?_)
      | with_reducible refine po_bind_cond (fun _ => ?_) (fun _ => ?_)
      | with_reducible refine po_bl (fun _ _ => ?_))
theorem km_d_isSuspect {n : Nat} {F : Nat → Int32} {A : Nat → Nat → Int32} {J : Nat → Nat → Int64} {x1 : Int32} {x2 : Int32}  (h : KM Fr Ar F A) : po (d_isSuspect n F A J x1 x2) (fun r => KM Fr Ar r.2.1 r.2.2.1) := by
  unfold d_isSuspect
  repeat' (first
    | with_reducible exact po_some (by assumption)
    | (with_reducible refine km_pf (by assumption) (by decide) ?_; intro _ _)
    | (with_reducible refine km_st (by assumption) (by decide) ?_; intro _ _)
    | (with_reducible refine km_pz (by assumption) (by decide) ?_; intro _ _)
    | with_reducible exact km_d_isSuspect_2 (by assumption)
    | (with_reducible refine po_call (km_d_isSuspect_2 (by assumption)) ?_; rintro ⟨_, _, _, _⟩ _; try dsimp only)
    | with_reducible refine po_cond (fun _ => ?_) (fun _ => ?_)
    | with_reducible refine po_bind_cond (fun _ => ?_) (fun _ => ?_)
    | with_reducible refine po_bl (fun _ _ => ?_))
theorem km_d_suspects_41 {K18 : (Nat → Int32) → (Nat → Nat → Int32) → (Nat → Nat → Int64) → Int32 → Int32 → Int32 → Option (Int32 × (Nat → Int32) × (Nat → Nat → Int32) × (Nat → Nat → Int64))} {n : Nat} {F : Nat → Int32} {A : Nat → Nat → Int32} {J : Nat → Nat → Int64} {x1 : Int32} {x2 : Int32} {x3 : Int32} (hK18 : ∀ (a0 : Nat → Int32) (a1 : Nat → Nat → Int32) (a2 : Nat → Nat → Int64) (a3 : Int32) (a4 : Int32) (a5 : Int32), KM Fr Ar a0 a1 → po (K18 a0 a1 a2 a3 a4 a5) (fun r => KM Fr Ar r.2.1 r.2.2.1)) (h : KM Fr Ar F A) : po (d_suspects_41 K18 n F A J x1 x2 x3) (fun r => KM Fr Ar r.2.1 r.2.2.1) := by
  unfold d_suspects_41
  repeat' (first
    | with_reducible exact po_some (by assumption)
    | (with_reducible refine km_pf (by assumption) (by decide) ?_; intro _ _)
    | (with_reducible refine km_st (by assumption) (by decide) ?_; intro _ _)
    | (with_reducible refine km_pz (by assumption) (by decide) ?_; intro _ _)
    | with_reducible exact hK18 _ _ _ _ _ _ (by assumption)
    | (intros; with_reducible exact hK18 _ _ _ _ _ _ (by assumption))
    | with_reducible refine po_cond (fun _ => ?_) (fun _ => ?_)
    | with_reducible refine po_bind_cond (fun _ => ?_) (fun _ => ?_)
    | with_reducible refine po_bl (fun _ _ => ?_))
theorem km_d_suspects_18   : ∀ {n : Nat} {F : Nat → Int32} {A : Nat → Nat → Int32} {J : Nat → Nat → Int64} {x1 : Int32} {x2 : Int32} {x3 : Int32}, KM Fr Ar F A → po (d_suspects_18  n F A J x1 x2 x3) (fun r => KM Fr Ar r.2.1 r.2.2.1) := by
  intro n
  induction n with
  | zero => intro F A J x1 x2 x3 _ r hr; cases hr
  | succ n ih =>
    intro F A J x1 x2 x3 h
    unfold d_suspects_18
    repeat' (first
      | with_reducible exact po_some (by assumption)
      | (with_reducible refine km_pf (by assumption) (by decide) ?_; intro _ _)
      | (with_reducible refine km_st (by assumption) (by decide) ?_; intro _ _)
      | (with_reducible refine km_pz (by assumption) (by decide) ?_; intro _ _)
      | with_reducible exact km_d_isSuspect (by assumption)
      | (with_reducible refine po_call (km_d_isSuspect (by assumption)) ?_; rintro ⟨_, _, _, _⟩ _; try dsimp only)
      | with_reducible refine km_d_suspects_41 ?_ (by assumption)
      | (with_reducible refine po_call (km_d_suspects_41 ?_ (by assumption)) ?_)
      | with_reducible exact ih (by assumption)
      | (with_reducible refine po_call (ih (by assumption)) ?_; rintro ⟨_, _, _, _⟩ _; try dsimp only)
      | (intros; with_reducible exact ih (by assumption))
      | with_reducible refine po_cond (fun _ => ?_) (fun _ => ?_)
      | with_reducible refine po_bind_cond (fun _ => ?_) (fun _ => ?_)
      | with_reducible refine po_bl (fun _ _ => ?_))
theorem km_d_suspects {n : Nat} {F : Nat → Int32} {A : Nat → Nat → Int32} {J : Nat → Nat → Int64} {x1 : Int32}  (h : KM Fr Ar F A) : po (d_suspects n F A J x1) (fun r => KM Fr Ar r.2.1 r.2.2.1) := by
  unfold d_suspects
  repeat' (first
    | with_reducible exact po_some (by assumption)
    | (with_reducible refine km_pf (by assumption) (by decide) ?_; intro _ _)
    | (with_reducible refine km_st (by assumption) (by decide) ?_; intro _ _)
    | (with_reducible refine km_pz (by assumption) (by decide) ?_; intro _ _)
    | with_reducible exact km_d_suspects_18 (by assumption)
    | (with_reducible refine po_call (km_d_suspects_18 (by assumption)) ?_; rintro ⟨_, _, _, _⟩ _; try dsimp only)
    | with_reducible refine po_cond (fun _ => ?_) (fun _ => ?_)
    | with_reducible refine po_bind_cond (fun _ => ?_) (fun _ => ?_)
    | with_reducible refine po_bl (fun _ _ => ?_))
theorem km_d_pairs_93 {K41 : (Nat → Int32) → (Nat → Nat → Int32) → (Nat → Nat → Int64) → Int32 → Int32 → Int32 → Int32 → Int32 → Option (Int32 × (Nat → Int32) × (Nat → Nat → Int32) × (Nat → Nat → Int64))} {K53 : (Nat → Int32) → (Nat → Nat → Int32) → (Nat → Nat → Int64) → Int32 → Int32 → Int32 → Int32 → Int32 → Int32 → Option (Int32 × (Nat → Int32) × (Nat → Nat → Int32) × (Nat → Nat → Int64))} {n : Nat} {F : Nat → Int32} {A : Nat → Nat → Int32} {J : Nat → Nat → Int64} {x1 : Int32} {x2 : Int32} {x3 : Int32} {x4 : Int32} {x5 : Int32} {x6 : Int32} (hK41 : ∀ (a0 : Nat → Int32) (a1 : Nat → Nat → Int32) (a2 : Nat → Nat → Int64) (a3 : Int32) (a4 : Int32) (a5 : Int32) (a6 : Int32) (a7 : Int32), KM Fr Ar a0 a1 → po (K41 a0 a1 a2 a3 a4 a5 a6 a7) (fun r => KM Fr Ar r.2.1 r.2.2.1)) (hK53 : ∀ (a0 : Nat → Int32) (a1 : Nat → Nat → Int32) (a2 : Nat → Nat → Int64) (a3 : Int32) (a4 : Int32) (a5 : Int32) (a6 : Int32) (a7 : Int32) (a8 : Int32), KM Fr Ar a0 a1 → po (K53 a0 a1 a2 a3 a4 a5 a6 a7 a8) (fun r => KM Fr Ar r.2.1 r.2.2.1)) (h : KM Fr Ar F A) : po (d_pairs_93 K41 K53 n F A J x1 x2 x3 x4 x5 x6) (fun r => KM Fr Ar r.2.1 r.2.2.1) := by
  unfold d_pairs_93
  repeat' (first
    | with_reducible exact po_some (by assumption)
    | (with_reducible refine km_pf (by assumption) (by decide) ?_; intro _ _)
    | (with_reducible refine km_st (by assumption) (by decide) ?_; intro _ _)
    | (with_reducible refine km_pz (by assumption) (by decide) ?_; intro _ _)
    | with_reducible exact hK41 _ _ _ _ _ _ _ _ (by assumption)
    | (intros; with_reducible exact hK41 _ _ _ _ _ _ _ _ (by assumption))
    | with_reducible exact hK53 _ _ _ _ _ _ _ _ _ (by assumption)
    | (intros; with_reducible exact hK53 _ _ _ _ _ _ _ _ _ (by assumption))
    | with_reducible refine po_cond (fun _ => ?_) (fun _ => ?_)
    | with_reducible refine po_bind_cond (fun _ => ?_) (fun _ => ?_)
    | with_reducible refine po_bl (fun _ _ => ?_))
theorem km_d_pairs_53 {K41 : (Nat → Int32) → (Nat → Nat → Int32) → (Nat → Nat → Int64) → Int32 → Int32 → Int32 → Int32 → Int32 → Option (Int32 × (Nat → Int32) × (Nat → Nat → Int32) × (Nat → Nat → Int64))} (hK41 : ∀ (a0 : Nat → Int32) (a1 : Nat → Nat → Int32) (a2 : Nat → Nat → Int64) (a3 : Int32) (a4 : Int32) (a5 : Int32) (a6 : Int32) (a7 : Int32), KM Fr Ar a0 a1 → po (K41 a0 a1 a2 a3 a4 a5 a6 a7) (fun r => KM Fr Ar r.2.1 r.2.2.1)) : ∀ {n : Nat} {F : Nat → Int32} {A : Nat → Nat → Int32} {J : Nat → Nat → Int64} {x1 : Int32} {x2 : Int32} {x3 : Int32} {x4 : Int32} {x5 : Int32} {x6 : Int32}, KM Fr Ar F A → po (d_pairs_53 K41 n F A J x1 x2 x3 x4 x5 x6) (fun r => KM Fr Ar r.2.1 r.2.2.1) := by
  intro n
  induction n with
  | zero => intro F A J x1 x2 x3 x4 x5 x6 _ r hr; cases hr
  | succ n ih =>
    intro F A J x1 x2 x3 x4 x5 x6 h
    unfold d_pairs_53
    repeat' (first
      | with_reducible exact po_some (by assumption)
      | (with_reducible refine km_pf (by assumption) (by decide) ?_; intro _ _)
      | (with_reducible refine km_st (by assumption) (by decide) ?_; intro _ _)
      | (with_reducible refine km_pz (by assumption) (by decide) ?_; intro _ _)
      | with_reducible exact km_d_takes (by assumption)
      | (with_reducible refine po_call (km_d_takes (by assumption)) ?_; rintro ⟨_, _, _, _⟩ _; try dsimp only)
      | with_reducible exact km_d_leaves (by assumption)
      | (with_reducible refine po_call (km_d_leaves (by assumption)) ?_; rintro ⟨_, _, _, _⟩ _; try dsimp only)
      | with_reducible exact km_d_isSo (by assumption)
      | (with_reducible refine po_call (km_d_isSo (by assumption)) ?_; rintro ⟨_, _, _, _⟩ _; try dsimp only)
      | with_reducible refine km_d_pairs_93 ?_ ?_ (by assumption)
      | (with_reducible refine po_call (km_d_pairs_93 ?_ ?_ (by assumption)) ?_)
      | with_reducible exact hK41 _ _ _ _ _ _ _ _ (by assumption)
      | (intros; with_reducible exact hK41 _ _ _ _ _ _ _ _ (by assumption))
      | with_reducible exact ih (by assumption)
      | (with_reducible refine po_call (ih (by assumption)) ?_; rintro ⟨_, _, _, _⟩ _; try dsimp only)
      | (intros; with_reducible exact ih (by assumption))
      | with_reducible refine po_cond (fun _ => ?_) (fun _ => ?_)
      | with_reducible refine po_bind_cond (fun _ => ?_) (fun _ => ?_)
      | with_reducible refine po_bl (fun _ _ => ?_))
theorem km_d_pairs_41   : ∀ {n : Nat} {F : Nat → Int32} {A : Nat → Nat → Int32} {J : Nat → Nat → Int64} {x1 : Int32} {x2 : Int32} {x3 : Int32} {x4 : Int32} {x5 : Int32}, KM Fr Ar F A → po (d_pairs_41  n F A J x1 x2 x3 x4 x5) (fun r => KM Fr Ar r.2.1 r.2.2.1) := by
  intro n
  induction n with
  | zero => intro F A J x1 x2 x3 x4 x5 _ r hr; cases hr
  | succ n ih =>
    intro F A J x1 x2 x3 x4 x5 h
    unfold d_pairs_41
    repeat' (first
      | with_reducible exact po_some (by assumption)
      | (with_reducible refine km_pf (by assumption) (by decide) ?_; intro _ _)
      | (with_reducible refine km_st (by assumption) (by decide) ?_; intro _ _)
      | (with_reducible refine km_pz (by assumption) (by decide) ?_; intro _ _)
      | with_reducible refine km_d_pairs_53 ?_ (by assumption)
      | (with_reducible refine po_call (km_d_pairs_53 ?_ (by assumption)) ?_)
      | with_reducible exact ih (by assumption)
      | (with_reducible refine po_call (ih (by assumption)) ?_; rintro ⟨_, _, _, _⟩ _; try dsimp only)
      | (intros; with_reducible exact ih (by assumption))
      | with_reducible refine po_cond (fun _ => ?_) (fun _ => ?_)
      | with_reducible refine po_bind_cond (fun _ => ?_) (fun _ => ?_)
      | with_reducible refine po_bl (fun _ _ => ?_))
theorem km_d_pairs {n : Nat} {F : Nat → Int32} {A : Nat → Nat → Int32} {J : Nat → Nat → Int64} {x1 : Int32} {x2 : Int32} {x3 : Int32}  (h : KM Fr Ar F A) : po (d_pairs n F A J x1 x2 x3) (fun r => KM Fr Ar r.2.1 r.2.2.1) := by
  unfold d_pairs
  repeat' (first
    | with_reducible exact po_some (by assumption)
    | (with_reducible refine km_pf (by assumption) (by decide) ?_; intro _ _)
    | (with_reducible refine km_st (by assumption) (by decide) ?_; intro _ _)
    | (with_reducible refine km_pz (by assumption) (by decide) ?_; intro _ _)
    | with_reducible exact km_d_pairs_41 (by assumption)
    | (with_reducible refine po_call (km_d_pairs_41 (by assumption)) ?_; rintro ⟨_, _, _, _⟩ _; try dsimp only)
    | with_reducible refine po_cond (fun _ => ?_) (fun _ => ?_)
    | with_reducible refine po_bind_cond (fun _ => ?_) (fun _ => ?_)
    | with_reducible refine po_bl (fun _ _ => ?_))
theorem km_d_count_189 {n : Nat} {F : Nat → Int32} {A : Nat → Nat → Int32} {J : Nat → Nat → Int64} {s0 : Int32} {s1 : Int32}  (h : KM Fr Ar F A) : po (d_count_189 n F A J s0 s1) (fun r => KM Fr Ar r.2.1 r.2.2.1) := by
  unfold d_count_189
  repeat' (first
    | with_reducible exact po_some (by assumption)
    | (with_reducible refine km_pf (by assumption) (by decide) ?_; intro _ _)
    | (with_reducible refine km_st (by assumption) (by decide) ?_; intro _ _)
    | (with_reducible refine km_pz (by assumption) (by decide) ?_; intro _ _)
    | with_reducible refine po_cond (fun _ => ?_) (fun _ => ?_)
    | with_reducible refine po_bind_cond (fun _ => ?_) (fun _ => ?_)
    | with_reducible refine po_bl (fun _ _ => ?_))
theorem km_d_count_175 {n : Nat} {F : Nat → Int32} {A : Nat → Nat → Int32} {J : Nat → Nat → Int64} {s0 : Int32}  (h : KM Fr Ar F A) : po (d_count_175 n F A J s0) (fun r => KM Fr Ar r.2.1 r.2.2.1) := by
  unfold d_count_175
  repeat' (first
    | with_reducible exact po_some (by assumption)
    | (with_reducible refine km_pf (by assumption) (by decide) ?_; intro _ _)
    | (with_reducible refine km_st (by assumption) (by decide) ?_; intro _ _)
    | (with_reducible refine km_pz (by assumption) (by decide) ?_; intro _ _)
    | with_reducible exact km_d_count_189 (by assumption)
    | (with_reducible refine po_call (km_d_count_189 (by assumption)) ?_; rintro ⟨_, _, _, _⟩ _; try dsimp only)
    | with_reducible refine po_cond (fun _ => ?_) (fun _ => ?_)
    | with_reducible refine po_bind_cond (fun _ => ?_) (fun _ => ?_)
    | with_reducible refine po_bl (fun _ _ => ?_))
theorem km_d_count {n : Nat} {F : Nat → Int32} {A : Nat → Nat → Int32} {J : Nat → Nat → Int64} {x1 : Int32}  (h : KM Fr Ar F A) : po (d_count n F A J x1) (fun r => KM Fr Ar r.2.1 r.2.2.1) := by
  unfold d_count
  repeat' (first
    | with_reducible exact po_some (by assumption)
    | (with_reducible refine km_pf (by assumption) (by decide) ?_; intro _ _)
    | (with_reducible refine km_st (by assumption) (by decide) ?_; intro _ _)
    | (with_reducible refine km_pz (by assumption) (by decide) ?_; intro _ _)
    | with_reducible exact km_d_takes (by assumption)
    | (with_reducible refine po_call (km_d_takes (by assumption)) ?_; rintro ⟨_, _, _, _⟩ _; try dsimp only)
    | with_reducible exact km_d_count_175 (by assumption)
    | (with_reducible refine po_call (km_d_count_175 (by assumption)) ?_; rintro ⟨_, _, _, _⟩ _; try dsimp only)
    | with_reducible refine po_cond (fun _ => ?_) (fun _ => ?_)
    | with_reducible refine po_bind_cond (fun _ => ?_) (fun _ => ?_)
    | with_reducible refine po_bl (fun _ _ => ?_))
theorem km_d_night_104   : ∀ {n : Nat} {F : Nat → Int32} {A : Nat → Nat → Int32} {J : Nat → Nat → Int64} {x1 : Int32} {x2 : Int32}, KM Fr Ar F A → po (d_night_104  n F A J x1 x2) (fun r => KM Fr Ar r.2.1 r.2.2.1) := by
  intro n
  induction n with
  | zero => intro F A J x1 x2 _ r hr; cases hr
  | succ n ih =>
    intro F A J x1 x2 h
    unfold d_night_104
    repeat' (first
      | with_reducible exact po_some (by assumption)
      | (with_reducible refine km_pf (by assumption) (by decide) ?_; intro _ _)
      | (with_reducible refine km_st (by assumption) (by decide) ?_; intro _ _)
      | (with_reducible refine km_pz (by assumption) (by decide) ?_; intro _ _)
      | with_reducible exact ih (by assumption)
      | (with_reducible refine po_call (ih (by assumption)) ?_; rintro ⟨_, _, _, _⟩ _; try dsimp only)
      | (intros; with_reducible exact ih (by assumption))
      | with_reducible refine po_cond (fun _ => ?_) (fun _ => ?_)
      | with_reducible refine po_bind_cond (fun _ => ?_) (fun _ => ?_)
      | with_reducible refine po_bl (fun _ _ => ?_))
theorem km_d_cut_291 {K7 : (Nat → Int32) → (Nat → Nat → Int32) → (Nat → Nat → Int64) → Int32 → Option (Unit × (Nat → Int32) × (Nat → Nat → Int32) × (Nat → Nat → Int64))} {n : Nat} {F : Nat → Int32} {A : Nat → Nat → Int32} {J : Nat → Nat → Int64} {x1 : Int32} (hK7 : ∀ (a0 : Nat → Int32) (a1 : Nat → Nat → Int32) (a2 : Nat → Nat → Int64) (a3 : Int32), KM Fr Ar a0 a1 → po (K7 a0 a1 a2 a3) (fun r => KM Fr Ar r.2.1 r.2.2.1)) (h : KM Fr Ar F A) : po (d_cut_291 K7 n F A J x1) (fun r => KM Fr Ar r.2.1 r.2.2.1) := by
  unfold d_cut_291
  repeat' (first
    | with_reducible exact po_some (by assumption)
    | (with_reducible refine km_pf (by assumption) (by decide) ?_; intro _ _)
    | (with_reducible refine km_st (by assumption) (by decide) ?_; intro _ _)
    | (with_reducible refine km_pz (by assumption) (by decide) ?_; intro _ _)
    | with_reducible exact hK7 _ _ _ _ (by assumption)
    | (intros; with_reducible exact hK7 _ _ _ _ (by assumption))
    | with_reducible refine po_cond (fun _ => ?_) (fun _ => ?_)
    | with_reducible refine po_bind_cond (fun _ => ?_) (fun _ => ?_)
    | with_reducible refine po_bl (fun _ _ => ?_))
theorem km_d_cut_67 {K7 : (Nat → Int32) → (Nat → Nat → Int32) → (Nat → Nat → Int64) → Int32 → Option (Unit × (Nat → Int32) × (Nat → Nat → Int32) × (Nat → Nat → Int64))} {n : Nat} {F : Nat → Int32} {A : Nat → Nat → Int32} {J : Nat → Nat → Int64} {x1 : Int32} (hK7 : ∀ (a0 : Nat → Int32) (a1 : Nat → Nat → Int32) (a2 : Nat → Nat → Int64) (a3 : Int32), KM Fr Ar a0 a1 → po (K7 a0 a1 a2 a3) (fun r => KM Fr Ar r.2.1 r.2.2.1)) (h : KM Fr Ar F A) : po (d_cut_67 K7 n F A J x1) (fun r => KM Fr Ar r.2.1 r.2.2.1) := by
  unfold d_cut_67
  repeat' (first
    | with_reducible exact po_some (by assumption)
    | (with_reducible refine km_pf (by assumption) (by decide) ?_; intro _ _)
    | (with_reducible refine km_st (by assumption) (by decide) ?_; intro _ _)
    | (with_reducible refine km_pz (by assumption) (by decide) ?_; intro _ _)
    | with_reducible refine km_d_cut_291 ?_ (by assumption)
    | (with_reducible refine po_call (km_d_cut_291 ?_ (by assumption)) ?_)
    | with_reducible exact hK7 _ _ _ _ (by assumption)
    | (intros; with_reducible exact hK7 _ _ _ _ (by assumption))
    | with_reducible refine po_cond (fun _ => ?_) (fun _ => ?_)
    | with_reducible refine po_bind_cond (fun _ => ?_) (fun _ => ?_)
    | with_reducible refine po_bl (fun _ _ => ?_))
theorem km_d_token {F : Nat → Int32} {A : Nat → Nat → Int32} {J : Nat → Nat → Int64} {x1 : Int32} {x2 : Int32} {x3 : Int32} {x4 : Int64}  (h : KM Fr Ar F A) : po (d_token F A J x1 x2 x3 x4) (fun r => KM Fr Ar r.2.1 r.2.2.1) := by
  unfold d_token
  repeat' (first
    | with_reducible exact po_some (by assumption)
    | (with_reducible refine km_pf (by assumption) (by decide) ?_; intro _ _)
    | (with_reducible refine km_st (by assumption) (by decide) ?_; intro _ _)
    | (with_reducible refine km_pz (by assumption) (by decide) ?_; intro _ _)
    | with_reducible refine po_cond (fun _ => ?_) (fun _ => ?_)
    | with_reducible refine po_bind_cond (fun _ => ?_) (fun _ => ?_)
    | with_reducible refine po_bl (fun _ _ => ?_))
theorem km_d_sign_95 {F : Nat → Int32} {A : Nat → Nat → Int32} {J : Nat → Nat → Int64} {x1 : Int32} {x4 : Int32}  (h : KM Fr Ar F A) : po (d_sign_95 F A J x1 x4) (fun r => KM Fr Ar r.2.1 r.2.2.1) := by
  unfold d_sign_95
  repeat' (first
    | with_reducible exact po_some (by assumption)
    | (with_reducible refine km_pf (by assumption) (by decide) ?_; intro _ _)
    | (with_reducible refine km_st (by assumption) (by decide) ?_; intro _ _)
    | (with_reducible refine km_pz (by assumption) (by decide) ?_; intro _ _)
    | with_reducible exact km_d_token (by assumption)
    | (with_reducible refine po_call (km_d_token (by assumption)) ?_; rintro ⟨_, _, _, _⟩ _; try dsimp only)
    | with_reducible refine po_cond (fun _ => ?_) (fun _ => ?_)
    | with_reducible refine po_bind_cond (fun _ => ?_) (fun _ => ?_)
    | with_reducible refine po_bl (fun _ _ => ?_))
theorem km_d_sign_85 {F : Nat → Int32} {A : Nat → Nat → Int32} {J : Nat → Nat → Int64} {x1 : Int32} {x2 : Int32} {x4 : Int32}  (h : KM Fr Ar F A) : po (d_sign_85 F A J x1 x2 x4) (fun r => KM Fr Ar r.2.1 r.2.2.1) := by
  unfold d_sign_85
  repeat' (first
    | with_reducible exact po_some (by assumption)
    | (with_reducible refine km_pf (by assumption) (by decide) ?_; intro _ _)
    | (with_reducible refine km_st (by assumption) (by decide) ?_; intro _ _)
    | (with_reducible refine km_pz (by assumption) (by decide) ?_; intro _ _)
    | with_reducible exact km_d_sign_95 (by assumption)
    | (with_reducible refine po_call (km_d_sign_95 (by assumption)) ?_; rintro ⟨_, _, _, _⟩ _; try dsimp only)
    | with_reducible refine po_cond (fun _ => ?_) (fun _ => ?_)
    | with_reducible refine po_bind_cond (fun _ => ?_) (fun _ => ?_)
    | with_reducible refine po_bl (fun _ _ => ?_))
theorem km_d_sign_75 {F : Nat → Int32} {A : Nat → Nat → Int32} {J : Nat → Nat → Int64} {x1 : Int32} {x2 : Int32} {x4 : Int32}  (h : KM Fr Ar F A) : po (d_sign_75 F A J x1 x2 x4) (fun r => KM Fr Ar r.2.1 r.2.2.1) := by
  unfold d_sign_75
  repeat' (first
    | with_reducible exact po_some (by assumption)
    | (with_reducible refine km_pf (by assumption) (by decide) ?_; intro _ _)
    | (with_reducible refine km_st (by assumption) (by decide) ?_; intro _ _)
    | (with_reducible refine km_pz (by assumption) (by decide) ?_; intro _ _)
    | with_reducible exact km_d_sign_85 (by assumption)
    | (with_reducible refine po_call (km_d_sign_85 (by assumption)) ?_; rintro ⟨_, _, _, _⟩ _; try dsimp only)
    | with_reducible refine po_cond (fun _ => ?_) (fun _ => ?_)
    | with_reducible refine po_bind_cond (fun _ => ?_) (fun _ => ?_)
    | with_reducible refine po_bl (fun _ _ => ?_))
theorem km_d_sign_65 {F : Nat → Int32} {A : Nat → Nat → Int32} {J : Nat → Nat → Int64} {x1 : Int32} {x2 : Int32} {x4 : Int32}  (h : KM Fr Ar F A) : po (d_sign_65 F A J x1 x2 x4) (fun r => KM Fr Ar r.2.1 r.2.2.1) := by
  unfold d_sign_65
  repeat' (first
    | with_reducible exact po_some (by assumption)
    | (with_reducible refine km_pf (by assumption) (by decide) ?_; intro _ _)
    | (with_reducible refine km_st (by assumption) (by decide) ?_; intro _ _)
    | (with_reducible refine km_pz (by assumption) (by decide) ?_; intro _ _)
    | with_reducible exact km_d_sign_75 (by assumption)
    | (with_reducible refine po_call (km_d_sign_75 (by assumption)) ?_; rintro ⟨_, _, _, _⟩ _; try dsimp only)
    | with_reducible refine po_cond (fun _ => ?_) (fun _ => ?_)
    | with_reducible refine po_bind_cond (fun _ => ?_) (fun _ => ?_)
    | with_reducible refine po_bl (fun _ _ => ?_))
theorem km_d_sign_55 {F : Nat → Int32} {A : Nat → Nat → Int32} {J : Nat → Nat → Int64} {x1 : Int32} {x2 : Int32} {x4 : Int32}  (h : KM Fr Ar F A) : po (d_sign_55 F A J x1 x2 x4) (fun r => KM Fr Ar r.2.1 r.2.2.1) := by
  unfold d_sign_55
  repeat' (first
    | with_reducible exact po_some (by assumption)
    | (with_reducible refine km_pf (by assumption) (by decide) ?_; intro _ _)
    | (with_reducible refine km_st (by assumption) (by decide) ?_; intro _ _)
    | (with_reducible refine km_pz (by assumption) (by decide) ?_; intro _ _)
    | with_reducible exact km_d_sign_65 (by assumption)
    | (with_reducible refine po_call (km_d_sign_65 (by assumption)) ?_; rintro ⟨_, _, _, _⟩ _; try dsimp only)
    | with_reducible refine po_cond (fun _ => ?_) (fun _ => ?_)
    | with_reducible refine po_bind_cond (fun _ => ?_) (fun _ => ?_)
    | with_reducible refine po_bl (fun _ _ => ?_))
theorem km_d_sign_43 {F : Nat → Int32} {A : Nat → Nat → Int32} {J : Nat → Nat → Int64} {x1 : Int32} {x2 : Int32} {s0 : Int32}  (h : KM Fr Ar F A) : po (d_sign_43 F A J x1 x2 s0) (fun r => KM Fr Ar r.2.1 r.2.2.1) := by
  unfold d_sign_43
  repeat' (first
    | with_reducible exact po_some (by assumption)
    | (with_reducible refine km_pf (by assumption) (by decide) ?_; intro _ _)
    | (with_reducible refine km_st (by assumption) (by decide) ?_; intro _ _)
    | (with_reducible refine km_pz (by assumption) (by decide) ?_; intro _ _)
    | with_reducible exact km_d_sign_55 (by assumption)
    | (with_reducible refine po_call (km_d_sign_55 (by assumption)) ?_; rintro ⟨_, _, _, _⟩ _; try dsimp only)
    | with_reducible refine po_cond (fun _ => ?_) (fun _ => ?_)
    | with_reducible refine po_bind_cond (fun _ => ?_) (fun _ => ?_)
    | with_reducible refine po_bl (fun _ _ => ?_))
theorem km_d_sign {F : Nat → Int32} {A : Nat → Nat → Int32} {J : Nat → Nat → Int64} {x1 : Int32} {x2 : Int32} {x3 : Int32}  (h : KM Fr Ar F A) : po (d_sign F A J x1 x2 x3) (fun r => KM Fr Ar r.2.1 r.2.2.1) := by
  unfold d_sign
  repeat' (first
    | with_reducible exact po_some (by assumption)
    | (with_reducible refine km_pf (by assumption) (by decide) ?_; intro _ _)
    | (with_reducible refine km_st (by assumption) (by decide) ?_; intro _ _)
    | (with_reducible refine km_pz (by assumption) (by decide) ?_; intro _ _)
    | with_reducible exact km_d_sign_43 (by assumption)
    | (with_reducible refine po_call (km_d_sign_43 (by assumption)) ?_; rintro ⟨_, _, _, _⟩ _; try dsimp only)
    | with_reducible refine po_cond (fun _ => ?_) (fun _ => ?_)
    | with_reducible refine po_bind_cond (fun _ => ?_) (fun _ => ?_)
    | with_reducible refine po_bl (fun _ _ => ?_))
theorem km_d_cut_261 {K7 : (Nat → Int32) → (Nat → Nat → Int32) → (Nat → Nat → Int64) → Int32 → Option (Unit × (Nat → Int32) × (Nat → Nat → Int32) × (Nat → Nat → Int64))} {n : Nat} {F : Nat → Int32} {A : Nat → Nat → Int32} {J : Nat → Nat → Int64} {x1 : Int32} {x3 : Int32} {x4 : Int32} {s1 : Int32} (hK7 : ∀ (a0 : Nat → Int32) (a1 : Nat → Nat → Int32) (a2 : Nat → Nat → Int64) (a3 : Int32), KM Fr Ar a0 a1 → po (K7 a0 a1 a2 a3) (fun r => KM Fr Ar r.2.1 r.2.2.1)) (h : KM Fr Ar F A) : po (d_cut_261 K7 n F A J x1 x3 x4 s1) (fun r => KM Fr Ar r.2.1 r.2.2.1) := by
  unfold d_cut_261
  repeat' (first
    | with_reducible exact po_some (by assumption)
    | (with_reducible refine km_pf (by assumption) (by decide) ?_; intro _ _)
    | (with_reducible refine km_st (by assumption) (by decide) ?_; intro _ _)
    | (with_reducible refine km_pz (by assumption) (by decide) ?_; intro _ _)
    | with_reducible exact km_d_token (by assumption)
    | (with_reducible refine po_call (km_d_token (by assumption)) ?_; rintro ⟨_, _, _, _⟩ _; try dsimp only)
    | with_reducible refine km_d_cut_291 ?_ (by assumption)
    | (with_reducible refine po_call (km_d_cut_291 ?_ (by assumption)) ?_)
    | with_reducible exact hK7 _ _ _ _ (by assumption)
    | (intros; with_reducible exact hK7 _ _ _ _ (by assumption))
    | with_reducible refine po_cond (fun _ => ?_) (fun _ => ?_)
    | with_reducible refine po_bind_cond (fun _ => ?_) (fun _ => ?_)
    | with_reducible refine po_bl (fun _ _ => ?_))
theorem km_d_cut_244 {K7 : (Nat → Int32) → (Nat → Nat → Int32) → (Nat → Nat → Int64) → Int32 → Option (Unit × (Nat → Int32) × (Nat → Nat → Int32) × (Nat → Nat → Int64))} {K208 : (Nat → Int32) → (Nat → Nat → Int32) → (Nat → Nat → Int64) → Int32 → Int32 → Int32 → Option (Unit × (Nat → Int32) × (Nat → Nat → Int32) × (Nat → Nat → Int64))} {n : Nat} {F : Nat → Int32} {A : Nat → Nat → Int32} {J : Nat → Nat → Int64} {x1 : Int32} {x3 : Int32} {x4 : Int32} (hK7 : ∀ (a0 : Nat → Int32) (a1 : Nat → Nat → Int32) (a2 : Nat → Nat → Int64) (a3 : Int32), KM Fr Ar a0 a1 → po (K7 a0 a1 a2 a3) (fun r => KM Fr Ar r.2.1 r.2.2.1)) (hK208 : ∀ (a0 : Nat → Int32) (a1 : Nat → Nat → Int32) (a2 : Nat → Nat → Int64) (a3 : Int32) (a4 : Int32) (a5 : Int32), KM Fr Ar a0 a1 → po (K208 a0 a1 a2 a3 a4 a5) (fun r => KM Fr Ar r.2.1 r.2.2.1)) (h : KM Fr Ar F A) : po (d_cut_244 K7 K208 n F A J x1 x3 x4) (fun r => KM Fr Ar r.2.1 r.2.2.1) := by
  unfold d_cut_244
  repeat' (first
    | with_reducible exact po_some (by assumption)
    | (with_reducible refine km_pf (by assumption) (by decide) ?_; intro _ _)
    | (with_reducible refine km_st (by assumption) (by decide) ?_; intro _ _)
    | (with_reducible refine km_pz (by assumption) (by decide) ?_; intro _ _)
    | with_reducible exact hK7 _ _ _ _ (by assumption)
    | (intros; with_reducible exact hK7 _ _ _ _ (by assumption))
    | with_reducible exact hK208 _ _ _ _ _ _ (by assumption)
    | (intros; with_reducible exact hK208 _ _ _ _ _ _ (by assumption))
    | with_reducible refine po_cond (fun _ => ?_) (fun _ => ?_)
    | with_reducible refine po_bind_cond (fun _ => ?_) (fun _ => ?_)
    | with_reducible refine po_bl (fun _ _ => ?_))
theorem km_d_cut_208 {K7 : (Nat → Int32) → (Nat → Nat → Int32) → (Nat → Nat → Int64) → Int32 → Option (Unit × (Nat → Int32) × (Nat → Nat → Int32) × (Nat → Nat → Int64))} (hK7 : ∀ (a0 : Nat → Int32) (a1 : Nat → Nat → Int32) (a2 : Nat → Nat → Int64) (a3 : Int32), KM Fr Ar a0 a1 → po (K7 a0 a1 a2 a3) (fun r => KM Fr Ar r.2.1 r.2.2.1)) : ∀ {n : Nat} {F : Nat → Int32} {A : Nat → Nat → Int32} {J : Nat → Nat → Int64} {x1 : Int32} {x3 : Int32} {x4 : Int32}, KM Fr Ar F A → po (d_cut_208 K7 n F A J x1 x3 x4) (fun r => KM Fr Ar r.2.1 r.2.2.1) := by
  intro n
  induction n with
  | zero => intro F A J x1 x3 x4 _ r hr; cases hr
  | succ n ih =>
    intro F A J x1 x3 x4 h
    unfold d_cut_208
    repeat' (first
      | with_reducible exact po_some (by assumption)
      | (with_reducible refine km_pf (by assumption) (by decide) ?_; intro _ _)
      | (with_reducible refine km_st (by assumption) (by decide) ?_; intro _ _)
      | (with_reducible refine km_pz (by assumption) (by decide) ?_; intro _ _)
      | with_reducible refine km_d_cut_261 ?_ (by assumption)
      | (with_reducible refine po_call (km_d_cut_261 ?_ (by assumption)) ?_)
      | with_reducible refine km_d_cut_244 ?_ ?_ (by assumption)
      | (with_reducible refine po_call (km_d_cut_244 ?_ ?_ (by assumption)) ?_)
      | with_reducible exact hK7 _ _ _ _ (by assumption)
      | (intros; with_reducible exact hK7 _ _ _ _ (by assumption))
      | with_reducible exact ih (by assumption)
      | (with_reducible refine po_call (ih (by assumption)) ?_; rintro ⟨_, _, _, _⟩ _; try dsimp only)
      | (intros; with_reducible exact ih (by assumption))
      | with_reducible refine po_cond (fun _ => ?_) (fun _ => ?_)
      | with_reducible refine po_bind_cond (fun _ => ?_) (fun _ => ?_)
      | with_reducible refine po_bl (fun _ _ => ?_))
theorem km_d_cut_179 {K7 : (Nat → Int32) → (Nat → Nat → Int32) → (Nat → Nat → Int64) → Int32 → Option (Unit × (Nat → Int32) × (Nat → Nat → Int32) × (Nat → Nat → Int64))} {n : Nat} {F : Nat → Int32} {A : Nat → Nat → Int32} {J : Nat → Nat → Int64} {x1 : Int32} {x3 : Int32} {x4 : Int64} {x6 : Int32} (hK7 : ∀ (a0 : Nat → Int32) (a1 : Nat → Nat → Int32) (a2 : Nat → Nat → Int64) (a3 : Int32), KM Fr Ar a0 a1 → po (K7 a0 a1 a2 a3) (fun r => KM Fr Ar r.2.1 r.2.2.1)) (h : KM Fr Ar F A) : po (d_cut_179 K7 n F A J x1 x3 x4 x6) (fun r => KM Fr Ar r.2.1 r.2.2.1) := by
  unfold d_cut_179
  repeat' (first
    | with_reducible exact po_some (by assumption)
    | (with_reducible refine km_pf (by assumption) (by decide) ?_; intro _ _)
    | (with_reducible refine km_st (by assumption) (by decide) ?_; intro _ _)
    | (with_reducible refine km_pz (by assumption) (by decide) ?_; intro _ _)
    | with_reducible exact km_d_token (by assumption)
    | (with_reducible refine po_call (km_d_token (by assumption)) ?_; rintro ⟨_, _, _, _⟩ _; try dsimp only)
    | with_reducible refine km_d_cut_291 ?_ (by assumption)
    | (with_reducible refine po_call (km_d_cut_291 ?_ (by assumption)) ?_)
    | with_reducible exact hK7 _ _ _ _ (by assumption)
    | (intros; with_reducible exact hK7 _ _ _ _ (by assumption))
    | with_reducible refine po_cond (fun _ => ?_) (fun _ => ?_)
    | with_reducible refine po_bind_cond (fun _ => ?_) (fun _ => ?_)
    | with_reducible refine po_bl (fun _ _ => ?_))
theorem km_d_cut_173 {K7 : (Nat → Int32) → (Nat → Nat → Int32) → (Nat → Nat → Int64) → Int32 → Option (Unit × (Nat → Int32) × (Nat → Nat → Int32) × (Nat → Nat → Int64))} {K146 : (Nat → Int32) → (Nat → Nat → Int32) → (Nat → Nat → Int64) → Int32 → Int32 → Int64 → Int32 → Int32 → Option (Unit × (Nat → Int32) × (Nat → Nat → Int32) × (Nat → Nat → Int64))} {n : Nat} {F : Nat → Int32} {A : Nat → Nat → Int32} {J : Nat → Nat → Int64} {x1 : Int32} {x3 : Int32} {x4 : Int64} {x6 : Int32} {x7 : Int32} (hK7 : ∀ (a0 : Nat → Int32) (a1 : Nat → Nat → Int32) (a2 : Nat → Nat → Int64) (a3 : Int32), KM Fr Ar a0 a1 → po (K7 a0 a1 a2 a3) (fun r => KM Fr Ar r.2.1 r.2.2.1)) (hK146 : ∀ (a0 : Nat → Int32) (a1 : Nat → Nat → Int32) (a2 : Nat → Nat → Int64) (a3 : Int32) (a4 : Int32) (a5 : Int64) (a6 : Int32) (a7 : Int32), KM Fr Ar a0 a1 → po (K146 a0 a1 a2 a3 a4 a5 a6 a7) (fun r => KM Fr Ar r.2.1 r.2.2.1)) (h : KM Fr Ar F A) : po (d_cut_173 K7 K146 n F A J x1 x3 x4 x6 x7) (fun r => KM Fr Ar r.2.1 r.2.2.1) := by
  unfold d_cut_173
  repeat' (first
    | with_reducible exact po_some (by assumption)
    | (with_reducible refine km_pf (by assumption) (by decide) ?_; intro _ _)
    | (with_reducible refine km_st (by assumption) (by decide) ?_; intro _ _)
    | (with_reducible refine km_pz (by assumption) (by decide) ?_; intro _ _)
    | with_reducible exact hK7 _ _ _ _ (by assumption)
    | (intros; with_reducible exact hK7 _ _ _ _ (by assumption))
    | with_reducible exact hK146 _ _ _ _ _ _ _ _ (by assumption)
    | (intros; with_reducible exact hK146 _ _ _ _ _ _ _ _ (by assumption))
    | with_reducible refine po_cond (fun _ => ?_) (fun _ => ?_)
    | with_reducible refine po_bind_cond (fun _ => ?_) (fun _ => ?_)
    | with_reducible refine po_bl (fun _ _ => ?_))
theorem km_d_cut_146 {K7 : (Nat → Int32) → (Nat → Nat → Int32) → (Nat → Nat → Int64) → Int32 → Option (Unit × (Nat → Int32) × (Nat → Nat → Int32) × (Nat → Nat → Int64))} (hK7 : ∀ (a0 : Nat → Int32) (a1 : Nat → Nat → Int32) (a2 : Nat → Nat → Int64) (a3 : Int32), KM Fr Ar a0 a1 → po (K7 a0 a1 a2 a3) (fun r => KM Fr Ar r.2.1 r.2.2.1)) : ∀ {n : Nat} {F : Nat → Int32} {A : Nat → Nat → Int32} {J : Nat → Nat → Int64} {x1 : Int32} {x3 : Int32} {x4 : Int64} {x6 : Int32} {x7 : Int32}, KM Fr Ar F A → po (d_cut_146 K7 n F A J x1 x3 x4 x6 x7) (fun r => KM Fr Ar r.2.1 r.2.2.1) := by
  intro n
  induction n with
  | zero => intro F A J x1 x3 x4 x6 x7 _ r hr; cases hr
  | succ n ih =>
    intro F A J x1 x3 x4 x6 x7 h
    unfold d_cut_146
    repeat' (first
      | with_reducible exact po_some (by assumption)
      | (with_reducible refine km_pf (by assumption) (by decide) ?_; intro _ _)
      | (with_reducible refine km_st (by assumption) (by decide) ?_; intro _ _)
      | (with_reducible refine km_pz (by assumption) (by decide) ?_; intro _ _)
      | with_reducible refine km_d_cut_179 ?_ (by assumption)
      | (with_reducible refine po_call (km_d_cut_179 ?_ (by assumption)) ?_)
      | with_reducible refine km_d_cut_173 ?_ ?_ (by assumption)
      | (with_reducible refine po_call (km_d_cut_173 ?_ ?_ (by assumption)) ?_)
      | with_reducible exact hK7 _ _ _ _ (by assumption)
      | (intros; with_reducible exact hK7 _ _ _ _ (by assumption))
      | with_reducible exact ih (by assumption)
      | (with_reducible refine po_call (ih (by assumption)) ?_; rintro ⟨_, _, _, _⟩ _; try dsimp only)
      | (intros; with_reducible exact ih (by assumption))
      | with_reducible refine po_cond (fun _ => ?_) (fun _ => ?_)
      | with_reducible refine po_bind_cond (fun _ => ?_) (fun _ => ?_)
      | with_reducible refine po_bl (fun _ _ => ?_))
theorem km_d_cut_135 {K7 : (Nat → Int32) → (Nat → Nat → Int32) → (Nat → Nat → Int64) → Int32 → Option (Unit × (Nat → Int32) × (Nat → Nat → Int32) × (Nat → Nat → Int64))} {n : Nat} {F : Nat → Int32} {A : Nat → Nat → Int32} {J : Nat → Nat → Int64} {x1 : Int32} {x3 : Int32} {x4 : Int64} {s0 : Int32} (hK7 : ∀ (a0 : Nat → Int32) (a1 : Nat → Nat → Int32) (a2 : Nat → Nat → Int64) (a3 : Int32), KM Fr Ar a0 a1 → po (K7 a0 a1 a2 a3) (fun r => KM Fr Ar r.2.1 r.2.2.1)) (h : KM Fr Ar F A) : po (d_cut_135 K7 n F A J x1 x3 x4 s0) (fun r => KM Fr Ar r.2.1 r.2.2.1) := by
  unfold d_cut_135
  repeat' (first
    | with_reducible exact po_some (by assumption)
    | (with_reducible refine km_pf (by assumption) (by decide) ?_; intro _ _)
    | (with_reducible refine km_st (by assumption) (by decide) ?_; intro _ _)
    | (with_reducible refine km_pz (by assumption) (by decide) ?_; intro _ _)
    | with_reducible refine km_d_cut_179 ?_ (by assumption)
    | (with_reducible refine po_call (km_d_cut_179 ?_ (by assumption)) ?_)
    | with_reducible refine km_d_cut_146 ?_ (by assumption)
    | (with_reducible refine po_call (km_d_cut_146 ?_ (by assumption)) ?_)
    | with_reducible exact hK7 _ _ _ _ (by assumption)
    | (intros; with_reducible exact hK7 _ _ _ _ (by assumption))
    | with_reducible refine po_cond (fun _ => ?_) (fun _ => ?_)
    | with_reducible refine po_bind_cond (fun _ => ?_) (fun _ => ?_)
    | with_reducible refine po_bl (fun _ _ => ?_))
theorem km_d_cut_118 {K7 : (Nat → Int32) → (Nat → Nat → Int32) → (Nat → Nat → Int64) → Int32 → Option (Unit × (Nat → Int32) × (Nat → Nat → Int32) × (Nat → Nat → Int64))} {K85 : (Nat → Int32) → (Nat → Nat → Int32) → (Nat → Nat → Int64) → Int32 → Int32 → Int64 → Option (Unit × (Nat → Int32) × (Nat → Nat → Int32) × (Nat → Nat → Int64))} {n : Nat} {F : Nat → Int32} {A : Nat → Nat → Int32} {J : Nat → Nat → Int64} {x1 : Int32} {x3 : Int32} {x4 : Int64} (hK7 : ∀ (a0 : Nat → Int32) (a1 : Nat → Nat → Int32) (a2 : Nat → Nat → Int64) (a3 : Int32), KM Fr Ar a0 a1 → po (K7 a0 a1 a2 a3) (fun r => KM Fr Ar r.2.1 r.2.2.1)) (hK85 : ∀ (a0 : Nat → Int32) (a1 : Nat → Nat → Int32) (a2 : Nat → Nat → Int64) (a3 : Int32) (a4 : Int32) (a5 : Int64), KM Fr Ar a0 a1 → po (K85 a0 a1 a2 a3 a4 a5) (fun r => KM Fr Ar r.2.1 r.2.2.1)) (h : KM Fr Ar F A) : po (d_cut_118 K7 K85 n F A J x1 x3 x4) (fun r => KM Fr Ar r.2.1 r.2.2.1) := by
  unfold d_cut_118
  repeat' (first
    | with_reducible exact po_some (by assumption)
    | (with_reducible refine km_pf (by assumption) (by decide) ?_; intro _ _)
    | (with_reducible refine km_st (by assumption) (by decide) ?_; intro _ _)
    | (with_reducible refine km_pz (by assumption) (by decide) ?_; intro _ _)
    | with_reducible exact hK7 _ _ _ _ (by assumption)
    | (intros; with_reducible exact hK7 _ _ _ _ (by assumption))
    | with_reducible exact hK85 _ _ _ _ _ _ (by assumption)
    | (intros; with_reducible exact hK85 _ _ _ _ _ _ (by assumption))
    | with_reducible refine po_cond (fun _ => ?_) (fun _ => ?_)
    | with_reducible refine po_bind_cond (fun _ => ?_) (fun _ => ?_)
    | with_reducible refine po_bl (fun _ _ => ?_))
theorem km_d_cut_85 {K7 : (Nat → Int32) → (Nat → Nat → Int32) → (Nat → Nat → Int64) → Int32 → Option (Unit × (Nat → Int32) × (Nat → Nat → Int32) × (Nat → Nat → Int64))} (hK7 : ∀ (a0 : Nat → Int32) (a1 : Nat → Nat → Int32) (a2 : Nat → Nat → Int64) (a3 : Int32), KM Fr Ar a0 a1 → po (K7 a0 a1 a2 a3) (fun r => KM Fr Ar r.2.1 r.2.2.1)) : ∀ {n : Nat} {F : Nat → Int32} {A : Nat → Nat → Int32} {J : Nat → Nat → Int64} {x1 : Int32} {x3 : Int32} {x4 : Int64}, KM Fr Ar F A → po (d_cut_85 K7 n F A J x1 x3 x4) (fun r => KM Fr Ar r.2.1 r.2.2.1) := by
  intro n
  induction n with
  | zero => intro F A J x1 x3 x4 _ r hr; cases hr
  | succ n ih =>
    intro F A J x1 x3 x4 h
    unfold d_cut_85
    repeat' (first
      | with_reducible exact po_some (by assumption)
      | (with_reducible refine km_pf (by assumption) (by decide) ?_; intro _ _)
      | (with_reducible refine km_st (by assumption) (by decide) ?_; intro _ _)
      | (with_reducible refine km_pz (by assumption) (by decide) ?_; intro _ _)
      | with_reducible refine km_d_cut_135 ?_ (by assumption)
      | (with_reducible refine po_call (km_d_cut_135 ?_ (by assumption)) ?_)
      | with_reducible refine km_d_cut_118 ?_ ?_ (by assumption)
      | (with_reducible refine po_call (km_d_cut_118 ?_ ?_ (by assumption)) ?_)
      | with_reducible exact hK7 _ _ _ _ (by assumption)
      | (intros; with_reducible exact hK7 _ _ _ _ (by assumption))
      | with_reducible exact ih (by assumption)
      | (with_reducible refine po_call (ih (by assumption)) ?_; rintro ⟨_, _, _, _⟩ _; try dsimp only)
      | (intros; with_reducible exact ih (by assumption))
      | with_reducible refine po_cond (fun _ => ?_) (fun _ => ?_)
      | with_reducible refine po_bind_cond (fun _ => ?_) (fun _ => ?_)
      | with_reducible refine po_bl (fun _ _ => ?_))
theorem km_d_cut_7   : ∀ {n : Nat} {F : Nat → Int32} {A : Nat → Nat → Int32} {J : Nat → Nat → Int64} {x1 : Int32}, KM Fr Ar F A → po (d_cut_7  n F A J x1) (fun r => KM Fr Ar r.2.1 r.2.2.1) := by
  intro n
  induction n with
  | zero => intro F A J x1 _ r hr; cases hr
  | succ n ih =>
    intro F A J x1 h
    unfold d_cut_7
    repeat' (first
      | with_reducible exact po_some (by assumption)
      | (with_reducible refine km_pf (by assumption) (by decide) ?_; intro _ _)
      | (with_reducible refine km_st (by assumption) (by decide) ?_; intro _ _)
      | (with_reducible refine km_pz (by assumption) (by decide) ?_; intro _ _)
      | with_reducible refine km_d_cut_67 ?_ (by assumption)
      | (with_reducible refine po_call (km_d_cut_67 ?_ (by assumption)) ?_)
      | with_reducible exact km_d_sign (by assumption)
      | (with_reducible refine po_call (km_d_sign (by assumption)) ?_; rintro ⟨_, _, _, _⟩ _; try dsimp only)
      | with_reducible refine km_d_cut_291 ?_ (by assumption)
      | (with_reducible refine po_call (km_d_cut_291 ?_ (by assumption)) ?_)
      | with_reducible refine km_d_cut_208 ?_ (by assumption)
      | (with_reducible refine po_call (km_d_cut_208 ?_ (by assumption)) ?_)
      | with_reducible refine km_d_cut_85 ?_ (by assumption)
      | (with_reducible refine po_call (km_d_cut_85 ?_ (by assumption)) ?_)
      | with_reducible exact km_d_token (by assumption)
      | (with_reducible refine po_call (km_d_token (by assumption)) ?_; rintro ⟨_, _, _, _⟩ _; try dsimp only)
      | with_reducible exact ih (by assumption)
      | (with_reducible refine po_call (ih (by assumption)) ?_; rintro ⟨_, _, _, _⟩ _; try dsimp only)
      | (intros; with_reducible exact ih (by assumption))
      | with_reducible refine po_cond (fun _ => ?_) (fun _ => ?_)
      | with_reducible refine po_bind_cond (fun _ => ?_) (fun _ => ?_)
      | with_reducible refine po_bl (fun _ _ => ?_))
theorem km_d_cut {n : Nat} {F : Nat → Int32} {A : Nat → Nat → Int32} {J : Nat → Nat → Int64}  (h : KM Fr Ar F A) : po (d_cut n F A J) (fun r => KM Fr Ar r.2.1 r.2.2.1) := by
  unfold d_cut
  repeat' (first
    | with_reducible exact po_some (by assumption)
    | (with_reducible refine km_pf (by assumption) (by decide) ?_; intro _ _)
    | (with_reducible refine km_st (by assumption) (by decide) ?_; intro _ _)
    | (with_reducible refine km_pz (by assumption) (by decide) ?_; intro _ _)
    | with_reducible exact km_d_cut_7 (by assumption)
    | (with_reducible refine po_call (km_d_cut_7 (by assumption)) ?_; rintro ⟨_, _, _, _⟩ _; try dsimp only)
    | with_reducible refine po_cond (fun _ => ?_) (fun _ => ?_)
    | with_reducible refine po_bind_cond (fun _ => ?_) (fun _ => ?_)
    | with_reducible refine po_bl (fun _ _ => ?_))
theorem km_d_fail {F : Nat → Int32} {A : Nat → Nat → Int32} {J : Nat → Nat → Int64} {x1 : Int32}  (h : KM Fr Ar F A) : po (d_fail F A J x1) (fun r => KM Fr Ar r.2.1 r.2.2.1) := by
  unfold d_fail
  repeat' (first
    | with_reducible exact po_some (by assumption)
    | (with_reducible refine km_pf (by assumption) (by decide) ?_; intro _ _)
    | (with_reducible refine km_st (by assumption) (by decide) ?_; intro _ _)
    | (with_reducible refine km_pz (by assumption) (by decide) ?_; intro _ _)
    | with_reducible refine po_cond (fun _ => ?_) (fun _ => ?_)
    | with_reducible refine po_bind_cond (fun _ => ?_) (fun _ => ?_)
    | with_reducible refine po_bl (fun _ _ => ?_))
theorem km_d_goesOn {F : Nat → Int32} {A : Nat → Nat → Int32} {J : Nat → Nat → Int64}  (h : KM Fr Ar F A) : po (d_goesOn F A J) (fun r => KM Fr Ar r.2.1 r.2.2.1) := by
  unfold d_goesOn
  repeat' (first
    | with_reducible exact po_some (by assumption)
    | (with_reducible refine km_pf (by assumption) (by decide) ?_; intro _ _)
    | (with_reducible refine km_st (by assumption) (by decide) ?_; intro _ _)
    | (with_reducible refine km_pz (by assumption) (by decide) ?_; intro _ _)
    | with_reducible exact km_d_fail (by assumption)
    | (with_reducible refine po_call (km_d_fail (by assumption)) ?_; rintro ⟨_, _, _, _⟩ _; try dsimp only)
    | with_reducible refine po_cond (fun _ => ?_) (fun _ => ?_)
    | with_reducible refine po_bind_cond (fun _ => ?_) (fun _ => ?_)
    | with_reducible refine po_bl (fun _ _ => ?_))
theorem km_d_roomFor_10 {F : Nat → Int32} {A : Nat → Nat → Int32} {J : Nat → Nat → Int64}  (h : KM Fr Ar F A) : po (d_roomFor_10 F A J) (fun r => KM Fr Ar r.2.1 r.2.2.1) := by
  unfold d_roomFor_10
  repeat' (first
    | with_reducible exact po_some (by assumption)
    | (with_reducible refine km_pf (by assumption) (by decide) ?_; intro _ _)
    | (with_reducible refine km_st (by assumption) (by decide) ?_; intro _ _)
    | (with_reducible refine km_pz (by assumption) (by decide) ?_; intro _ _)
    | with_reducible exact km_d_goesOn (by assumption)
    | (with_reducible refine po_call (km_d_goesOn (by assumption)) ?_; rintro ⟨_, _, _, _⟩ _; try dsimp only)
    | with_reducible refine po_cond (fun _ => ?_) (fun _ => ?_)
    | with_reducible refine po_bind_cond (fun _ => ?_) (fun _ => ?_)
    | with_reducible refine po_bl (fun _ _ => ?_))
theorem km_d_roomFor {F : Nat → Int32} {A : Nat → Nat → Int32} {J : Nat → Nat → Int64} {x1 : Int32} {x2 : Int32}  (h : KM Fr Ar F A) : po (d_roomFor F A J x1 x2) (fun r => KM Fr Ar r.2.1 r.2.2.1) := by
  unfold d_roomFor
  repeat' (first
    | with_reducible exact po_some (by assumption)
    | (with_reducible refine km_pf (by assumption) (by decide) ?_; intro _ _)
    | (with_reducible refine km_st (by assumption) (by decide) ?_; intro _ _)
    | (with_reducible refine km_pz (by assumption) (by decide) ?_; intro _ _)
    | with_reducible exact km_d_roomFor_10 (by assumption)
    | (with_reducible refine po_call (km_d_roomFor_10 (by assumption)) ?_; rintro ⟨_, _, _, _⟩ _; try dsimp only)
    | with_reducible exact km_d_fail (by assumption)
    | (with_reducible refine po_call (km_d_fail (by assumption)) ?_; rintro ⟨_, _, _, _⟩ _; try dsimp only)
    | with_reducible exact km_d_goesOn (by assumption)
    | (with_reducible refine po_call (km_d_goesOn (by assumption)) ?_; rintro ⟨_, _, _, _⟩ _; try dsimp only)
    | with_reducible refine po_cond (fun _ => ?_) (fun _ => ?_)
    | with_reducible refine po_bind_cond (fun _ => ?_) (fun _ => ?_)
    | with_reducible refine po_bl (fun _ _ => ?_))
theorem km_d_must {F : Nat → Int32} {A : Nat → Nat → Int32} {J : Nat → Nat → Int64} {x1 : Int32}  (h : KM Fr Ar F A) : po (d_must F A J x1) (fun r => KM Fr Ar r.2.1 r.2.2.1) := by
  unfold d_must
  repeat' (first
    | with_reducible exact po_some (by assumption)
    | (with_reducible refine km_pf (by assumption) (by decide) ?_; intro _ _)
    | (with_reducible refine km_st (by assumption) (by decide) ?_; intro _ _)
    | (with_reducible refine km_pz (by assumption) (by decide) ?_; intro _ _)
    | with_reducible exact km_d_fail (by assumption)
    | (with_reducible refine po_call (km_d_fail (by assumption)) ?_; rintro ⟨_, _, _, _⟩ _; try dsimp only)
    | with_reducible exact km_d_goesOn (by assumption)
    | (with_reducible refine po_call (km_d_goesOn (by assumption)) ?_; rintro ⟨_, _, _, _⟩ _; try dsimp only)
    | with_reducible refine po_cond (fun _ => ?_) (fun _ => ?_)
    | with_reducible refine po_bind_cond (fun _ => ?_) (fun _ => ?_)
    | with_reducible refine po_bl (fun _ _ => ?_))
theorem km_d_named_49 {K12 : (Nat → Int32) → (Nat → Nat → Int32) → (Nat → Nat → Int64) → Int32 → Int32 → Option (Int32 × (Nat → Int32) × (Nat → Nat → Int32) × (Nat → Nat → Int64))} {n : Nat} {F : Nat → Int32} {A : Nat → Nat → Int32} {J : Nat → Nat → Int64} {x1 : Int32} {x2 : Int32} (hK12 : ∀ (a0 : Nat → Int32) (a1 : Nat → Nat → Int32) (a2 : Nat → Nat → Int64) (a3 : Int32) (a4 : Int32), KM Fr Ar a0 a1 → po (K12 a0 a1 a2 a3 a4) (fun r => KM Fr Ar r.2.1 r.2.2.1)) (h : KM Fr Ar F A) : po (d_named_49 K12 n F A J x1 x2) (fun r => KM Fr Ar r.2.1 r.2.2.1) := by
  unfold d_named_49
  repeat' (first
    | with_reducible exact po_some (by assumption)
    | (with_reducible refine km_pf (by assumption) (by decide) ?_; intro _ _)
    | (with_reducible refine km_st (by assumption) (by decide) ?_; intro _ _)
    | (with_reducible refine km_pz (by assumption) (by decide) ?_; intro _ _)
    | with_reducible exact hK12 _ _ _ _ _ (by assumption)
    | (intros; with_reducible exact hK12 _ _ _ _ _ (by assumption))
    | with_reducible refine po_cond (fun _ => ?_) (fun _ => ?_)
    | with_reducible refine po_bind_cond (fun _ => ?_) (fun _ => ?_)
    | with_reducible refine po_bl (fun _ _ => ?_))
theorem km_d_wrong_46 {F : Nat → Int32} {A : Nat → Nat → Int32} {J : Nat → Nat → Int64} {x1 : Int32} {x3 : Int32}  (h : KM Fr Ar F A) : po (d_wrong_46 F A J x1 x3) (fun r => KM Fr Ar r.2.1 r.2.2.1) := by
  unfold d_wrong_46
  repeat' (first
    | with_reducible exact po_some (by assumption)
    | (with_reducible refine km_pf (by assumption) (by decide) ?_; intro _ _)
    | (with_reducible refine km_st (by assumption) (by decide) ?_; intro _ _)
    | (with_reducible refine km_pz (by assumption) (by decide) ?_; intro _ _)
    | with_reducible refine po_cond (fun _ => ?_) (fun _ => ?_)
    | with_reducible refine po_bind_cond (fun _ => ?_) (fun _ => ?_)
    | with_reducible refine po_bl (fun _ _ => ?_))
theorem km_d_wrong {F : Nat → Int32} {A : Nat → Nat → Int32} {J : Nat → Nat → Int64} {x1 : Int32} {x2 : Int32}  (h : KM Fr Ar F A) : po (d_wrong F A J x1 x2) (fun r => KM Fr Ar r.2.1 r.2.2.1) := by
  unfold d_wrong
  repeat' (first
    | with_reducible exact po_some (by assumption)
    | (with_reducible refine km_pf (by assumption) (by decide) ?_; intro _ _)
    | (with_reducible refine km_st (by assumption) (by decide) ?_; intro _ _)
    | (with_reducible refine km_pz (by assumption) (by decide) ?_; intro _ _)
    | with_reducible exact km_d_wrong_46 (by assumption)
    | (with_reducible refine po_call (km_d_wrong_46 (by assumption)) ?_; rintro ⟨_, _, _, _⟩ _; try dsimp only)
    | with_reducible refine po_cond (fun _ => ?_) (fun _ => ?_)
    | with_reducible refine po_bind_cond (fun _ => ?_) (fun _ => ?_)
    | with_reducible refine po_bl (fun _ _ => ?_))
theorem km_d_named_12   : ∀ {n : Nat} {F : Nat → Int32} {A : Nat → Nat → Int32} {J : Nat → Nat → Int64} {x1 : Int32} {x2 : Int32}, KM Fr Ar F A → po (d_named_12  n F A J x1 x2) (fun r => KM Fr Ar r.2.1 r.2.2.1) := by
  intro n
  induction n with
  | zero => intro F A J x1 x2 _ r hr; cases hr
  | succ n ih =>
    intro F A J x1 x2 h
    unfold d_named_12
    repeat' (first
      | with_reducible exact po_some (by assumption)
      | (with_reducible refine km_pf (by assumption) (by decide) ?_; intro _ _)
      | (with_reducible refine km_st (by assumption) (by decide) ?_; intro _ _)
      | (with_reducible refine km_pz (by assumption) (by decide) ?_; intro _ _)
      | with_reducible refine km_d_named_49 ?_ (by assumption)
      | (with_reducible refine po_call (km_d_named_49 ?_ (by assumption)) ?_)
      | with_reducible exact km_d_wrong (by assumption)
      | (with_reducible refine po_call (km_d_wrong (by assumption)) ?_; rintro ⟨_, _, _, _⟩ _; try dsimp only)
      | with_reducible exact ih (by assumption)
      | (with_reducible refine po_call (ih (by assumption)) ?_; rintro ⟨_, _, _, _⟩ _; try dsimp only)
      | (intros; with_reducible exact ih (by assumption))
      | with_reducible refine po_cond (fun _ => ?_) (fun _ => ?_)
      | with_reducible refine po_bind_cond (fun _ => ?_) (fun _ => ?_)
      | with_reducible refine po_bl (fun _ _ => ?_))
theorem km_d_named {n : Nat} {F : Nat → Int32} {A : Nat → Nat → Int32} {J : Nat → Nat → Int64}  (h : KM Fr Ar F A) : po (d_named n F A J) (fun r => KM Fr Ar r.2.1 r.2.2.1) := by
  unfold d_named
  repeat' (first
    | with_reducible exact po_some (by assumption)
    | (with_reducible refine km_pf (by assumption) (by decide) ?_; intro _ _)
    | (with_reducible refine km_st (by assumption) (by decide) ?_; intro _ _)
    | (with_reducible refine km_pz (by assumption) (by decide) ?_; intro _ _)
    | with_reducible exact km_d_must (by assumption)
    | (with_reducible refine po_call (km_d_must (by assumption)) ?_; rintro ⟨_, _, _, _⟩ _; try dsimp only)
    | with_reducible exact km_d_named_12 (by assumption)
    | (with_reducible refine po_call (km_d_named_12 (by assumption)) ?_; rintro ⟨_, _, _, _⟩ _; try dsimp only)
    | with_reducible refine po_cond (fun _ => ?_) (fun _ => ?_)
    | with_reducible refine po_bind_cond (fun _ => ?_) (fun _ => ?_)
    | with_reducible refine po_bl (fun _ _ => ?_))
theorem km_d_notes {F : Nat → Int32} {A : Nat → Nat → Int32} {J : Nat → Nat → Int64} {x1 : Int32} {x2 : Int32} {x3 : Int32}  (h : KM Fr Ar F A) : po (d_notes F A J x1 x2 x3) (fun r => KM Fr Ar r.2.1 r.2.2.1) := by
  unfold d_notes
  repeat' (first
    | with_reducible exact po_some (by assumption)
    | (with_reducible refine km_pf (by assumption) (by decide) ?_; intro _ _)
    | (with_reducible refine km_st (by assumption) (by decide) ?_; intro _ _)
    | (with_reducible refine km_pz (by assumption) (by decide) ?_; intro _ _)
    | with_reducible refine po_cond (fun _ => ?_) (fun _ => ?_)
    | with_reducible refine po_bind_cond (fun _ => ?_) (fun _ => ?_)
    | with_reducible refine po_bl (fun _ _ => ?_))
theorem km_d_tellRoom {n : Nat} {F : Nat → Int32} {A : Nat → Nat → Int32} {J : Nat → Nat → Int64}  (h : KM Fr Ar F A) : po (d_tellRoom n F A J) (fun r => KM Fr Ar r.2.1 r.2.2.1) := by
  unfold d_tellRoom
  repeat' (first
    | with_reducible exact po_some (by assumption)
    | (with_reducible refine km_pf (by assumption) (by decide) ?_; intro _ _)
    | (with_reducible refine km_st (by assumption) (by decide) ?_; intro _ _)
    | (with_reducible refine km_pz (by assumption) (by decide) ?_; intro _ _)
    | with_reducible exact km_d_named (by assumption)
    | (with_reducible refine po_call (km_d_named (by assumption)) ?_; rintro ⟨_, _, _, _⟩ _; try dsimp only)
    | with_reducible exact km_d_must (by assumption)
    | (with_reducible refine po_call (km_d_must (by assumption)) ?_; rintro ⟨_, _, _, _⟩ _; try dsimp only)
    | with_reducible exact km_d_notes (by assumption)
    | (with_reducible refine po_call (km_d_notes (by assumption)) ?_; rintro ⟨_, _, _, _⟩ _; try dsimp only)
    | with_reducible refine po_cond (fun _ => ?_) (fun _ => ?_)
    | with_reducible refine po_bind_cond (fun _ => ?_) (fun _ => ?_)
    | with_reducible refine po_bl (fun _ _ => ?_))
theorem km_d_known_62 {K21 : (Nat → Int32) → (Nat → Nat → Int32) → (Nat → Nat → Int64) → Int32 → Int32 → Int32 → Option (Int32 × (Nat → Int32) × (Nat → Nat → Int32) × (Nat → Nat → Int64))} {n : Nat} {F : Nat → Int32} {A : Nat → Nat → Int32} {J : Nat → Nat → Int64} {x1 : Int32} {x2 : Int32} {x3 : Int32} (hK21 : ∀ (a0 : Nat → Int32) (a1 : Nat → Nat → Int32) (a2 : Nat → Nat → Int64) (a3 : Int32) (a4 : Int32) (a5 : Int32), KM Fr Ar a0 a1 → po (K21 a0 a1 a2 a3 a4 a5) (fun r => KM Fr Ar r.2.1 r.2.2.1)) (h : KM Fr Ar F A) : po (d_known_62 K21 n F A J x1 x2 x3) (fun r => KM Fr Ar r.2.1 r.2.2.1) := by
  unfold d_known_62
  repeat' (first
    | with_reducible exact po_some (by assumption)
    | (with_reducible refine km_pf (by assumption) (by decide) ?_; intro _ _)
    | (with_reducible refine km_st (by assumption) (by decide) ?_; intro _ _)
    | (with_reducible refine km_pz (by assumption) (by decide) ?_; intro _ _)
    | with_reducible exact hK21 _ _ _ _ _ _ (by assumption)
    | (intros; with_reducible exact hK21 _ _ _ _ _ _ (by assumption))
    | with_reducible refine po_cond (fun _ => ?_) (fun _ => ?_)
    | with_reducible refine po_bind_cond (fun _ => ?_) (fun _ => ?_)
    | with_reducible refine po_bl (fun _ _ => ?_))
theorem km_d_known_21   : ∀ {n : Nat} {F : Nat → Int32} {A : Nat → Nat → Int32} {J : Nat → Nat → Int64} {x1 : Int32} {x2 : Int32} {x3 : Int32}, KM Fr Ar F A → po (d_known_21  n F A J x1 x2 x3) (fun r => KM Fr Ar r.2.1 r.2.2.1) := by
  intro n
  induction n with
  | zero => intro F A J x1 x2 x3 _ r hr; cases hr
  | succ n ih =>
    intro F A J x1 x2 x3 h
    unfold d_known_21
    repeat' (first
      | with_reducible exact po_some (by assumption)
      | (with_reducible refine km_pf (by assumption) (by decide) ?_; intro _ _)
      | (with_reducible refine km_st (by assumption) (by decide) ?_; intro _ _)
      | (with_reducible refine km_pz (by assumption) (by decide) ?_; intro _ _)
      | with_reducible exact km_d_wrong (by assumption)
      | (with_reducible refine po_call (km_d_wrong (by assumption)) ?_; rintro ⟨_, _, _, _⟩ _; try dsimp only)
      | with_reducible refine km_d_known_62 ?_ (by assumption)
      | (with_reducible refine po_call (km_d_known_62 ?_ (by assumption)) ?_)
      | with_reducible exact ih (by assumption)
      | (with_reducible refine po_call (ih (by assumption)) ?_; rintro ⟨_, _, _, _⟩ _; try dsimp only)
      | (intros; with_reducible exact ih (by assumption))
      | with_reducible refine po_cond (fun _ => ?_) (fun _ => ?_)
      | with_reducible refine po_bind_cond (fun _ => ?_) (fun _ => ?_)
      | with_reducible refine po_bl (fun _ _ => ?_))
theorem km_d_known {n : Nat} {F : Nat → Int32} {A : Nat → Nat → Int32} {J : Nat → Nat → Int64} {x1 : Int32}  (h : KM Fr Ar F A) : po (d_known n F A J x1) (fun r => KM Fr Ar r.2.1 r.2.2.1) := by
  unfold d_known
  repeat' (first
    | with_reducible exact po_some (by assumption)
    | (with_reducible refine km_pf (by assumption) (by decide) ?_; intro _ _)
    | (with_reducible refine km_st (by assumption) (by decide) ?_; intro _ _)
    | (with_reducible refine km_pz (by assumption) (by decide) ?_; intro _ _)
    | with_reducible exact km_d_must (by assumption)
    | (with_reducible refine po_call (km_d_must (by assumption)) ?_; rintro ⟨_, _, _, _⟩ _; try dsimp only)
    | with_reducible exact km_d_known_21 (by assumption)
    | (with_reducible refine po_call (km_d_known_21 (by assumption)) ?_; rintro ⟨_, _, _, _⟩ _; try dsimp only)
    | with_reducible refine po_cond (fun _ => ?_) (fun _ => ?_)
    | with_reducible refine po_bind_cond (fun _ => ?_) (fun _ => ?_)
    | with_reducible refine po_bl (fun _ _ => ?_))
theorem km_d_bounded_15 {F : Nat → Int32} {A : Nat → Nat → Int32} {J : Nat → Nat → Int64} {x1 : Int32}  (h : KM Fr Ar F A) : po (d_bounded_15 F A J x1) (fun r => KM Fr Ar r.2.1 r.2.2.1) := by
  unfold d_bounded_15
  repeat' (first
    | with_reducible exact po_some (by assumption)
    | (with_reducible refine km_pf (by assumption) (by decide) ?_; intro _ _)
    | (with_reducible refine km_st (by assumption) (by decide) ?_; intro _ _)
    | (with_reducible refine km_pz (by assumption) (by decide) ?_; intro _ _)
    | with_reducible exact km_d_fail (by assumption)
    | (with_reducible refine po_call (km_d_fail (by assumption)) ?_; rintro ⟨_, _, _, _⟩ _; try dsimp only)
    | with_reducible refine po_cond (fun _ => ?_) (fun _ => ?_)
    | with_reducible refine po_bind_cond (fun _ => ?_) (fun _ => ?_)
    | with_reducible refine po_bl (fun _ _ => ?_))
theorem km_d_bounded_42 {F : Nat → Int32} {A : Nat → Nat → Int32} {J : Nat → Nat → Int64} {x3 : Int32}  (h : KM Fr Ar F A) : po (d_bounded_42 F A J x3) (fun r => KM Fr Ar r.2.1 r.2.2.1) := by
  unfold d_bounded_42
  repeat' (first
    | with_reducible exact po_some (by assumption)
    | (with_reducible refine km_pf (by assumption) (by decide) ?_; intro _ _)
    | (with_reducible refine km_st (by assumption) (by decide) ?_; intro _ _)
    | (with_reducible refine km_pz (by assumption) (by decide) ?_; intro _ _)
    | with_reducible exact km_d_wrong (by assumption)
    | (with_reducible refine po_call (km_d_wrong (by assumption)) ?_; rintro ⟨_, _, _, _⟩ _; try dsimp only)
    | with_reducible exact km_d_goesOn (by assumption)
    | (with_reducible refine po_call (km_d_goesOn (by assumption)) ?_; rintro ⟨_, _, _, _⟩ _; try dsimp only)
    | with_reducible refine po_cond (fun _ => ?_) (fun _ => ?_)
    | with_reducible refine po_bind_cond (fun _ => ?_) (fun _ => ?_)
    | with_reducible refine po_bl (fun _ _ => ?_))
theorem km_d_bounded_51 {F : Nat → Int32} {A : Nat → Nat → Int32} {J : Nat → Nat → Int64} {x3 : Int32}  (h : KM Fr Ar F A) : po (d_bounded_51 F A J x3) (fun r => KM Fr Ar r.2.1 r.2.2.1) := by
  unfold d_bounded_51
  repeat' (first
    | with_reducible exact po_some (by assumption)
    | (with_reducible refine km_pf (by assumption) (by decide) ?_; intro _ _)
    | (with_reducible refine km_st (by assumption) (by decide) ?_; intro _ _)
    | (with_reducible refine km_pz (by assumption) (by decide) ?_; intro _ _)
    | with_reducible exact km_d_goesOn (by assumption)
    | (with_reducible refine po_call (km_d_goesOn (by assumption)) ?_; rintro ⟨_, _, _, _⟩ _; try dsimp only)
    | with_reducible refine po_cond (fun _ => ?_) (fun _ => ?_)
    | with_reducible refine po_bind_cond (fun _ => ?_) (fun _ => ?_)
    | with_reducible refine po_bl (fun _ _ => ?_))
theorem km_d_bounded {F : Nat → Int32} {A : Nat → Nat → Int32} {J : Nat → Nat → Int64} {x1 : Int32} {x2 : Int32}  (h : KM Fr Ar F A) : po (d_bounded F A J x1 x2) (fun r => KM Fr Ar r.2.1 r.2.2.1) := by
  unfold d_bounded
  repeat' (first
    | with_reducible exact po_some (by assumption)
    | (with_reducible refine km_pf (by assumption) (by decide) ?_; intro _ _)
    | (with_reducible refine km_st (by assumption) (by decide) ?_; intro _ _)
    | (with_reducible refine km_pz (by assumption) (by decide) ?_; intro _ _)
    | with_reducible exact km_d_bounded_15 (by assumption)
    | (with_reducible refine po_call (km_d_bounded_15 (by assumption)) ?_; rintro ⟨_, _, _, _⟩ _; try dsimp only)
    | with_reducible exact km_d_bounded_42 (by assumption)
    | (with_reducible refine po_call (km_d_bounded_42 (by assumption)) ?_; rintro ⟨_, _, _, _⟩ _; try dsimp only)
    | with_reducible exact km_d_bounded_51 (by assumption)
    | (with_reducible refine po_call (km_d_bounded_51 (by assumption)) ?_; rintro ⟨_, _, _, _⟩ _; try dsimp only)
    | with_reducible refine po_cond (fun _ => ?_) (fun _ => ?_)
    | with_reducible refine po_bind_cond (fun _ => ?_) (fun _ => ?_)
    | with_reducible refine po_bl (fun _ _ => ?_))
theorem km_d_tellDoor_135 {n : Nat} {F : Nat → Int32} {A : Nat → Nat → Int32} {J : Nat → Nat → Int64}  (h : KM Fr Ar F A) : po (d_tellDoor_135 n F A J) (fun r => KM Fr Ar r.2.1 r.2.2.1) := by
  unfold d_tellDoor_135
  repeat' (first
    | with_reducible exact po_some (by assumption)
    | (with_reducible refine km_pf (by assumption) (by decide) ?_; intro _ _)
    | (with_reducible refine km_st (by assumption) (by decide) ?_; intro _ _)
    | (with_reducible refine km_pz (by assumption) (by decide) ?_; intro _ _)
    | with_reducible exact km_d_must (by assumption)
    | (with_reducible refine po_call (km_d_must (by assumption)) ?_; rintro ⟨_, _, _, _⟩ _; try dsimp only)
    | with_reducible refine po_cond (fun _ => ?_) (fun _ => ?_)
    | with_reducible refine po_bind_cond (fun _ => ?_) (fun _ => ?_)
    | with_reducible refine po_bl (fun _ _ => ?_))
theorem km_d_tellDoor_121 {n : Nat} {F : Nat → Int32} {A : Nat → Nat → Int32} {J : Nat → Nat → Int64} {x1 : Int32} {s1 : Int32} {s2 : Int32}  (h : KM Fr Ar F A) : po (d_tellDoor_121 n F A J x1 s1 s2) (fun r => KM Fr Ar r.2.1 r.2.2.1) := by
  unfold d_tellDoor_121
  repeat' (first
    | with_reducible exact po_some (by assumption)
    | (with_reducible refine km_pf (by assumption) (by decide) ?_; intro _ _)
    | (with_reducible refine km_st (by assumption) (by decide) ?_; intro _ _)
    | (with_reducible refine km_pz (by assumption) (by decide) ?_; intro _ _)
    | with_reducible exact km_d_tellDoor_135 (by assumption)
    | (with_reducible refine po_call (km_d_tellDoor_135 (by assumption)) ?_; rintro ⟨_, _, _, _⟩ _; try dsimp only)
    | with_reducible exact km_d_goesOn (by assumption)
    | (with_reducible refine po_call (km_d_goesOn (by assumption)) ?_; rintro ⟨_, _, _, _⟩ _; try dsimp only)
    | with_reducible exact km_d_must (by assumption)
    | (with_reducible refine po_call (km_d_must (by assumption)) ?_; rintro ⟨_, _, _, _⟩ _; try dsimp only)
    | with_reducible refine po_cond (fun _ => ?_) (fun _ => ?_)
    | with_reducible refine po_bind_cond (fun _ => ?_) (fun _ => ?_)
    | with_reducible refine po_bl (fun _ _ => ?_))
theorem km_d_tellDoor_120 {n : Nat} {F : Nat → Int32} {A : Nat → Nat → Int32} {J : Nat → Nat → Int64} {x1 : Int32} {s1 : Int32}  (h : KM Fr Ar F A) : po (d_tellDoor_120 n F A J x1 s1) (fun r => KM Fr Ar r.2.1 r.2.2.1) := by
  unfold d_tellDoor_120
  repeat' (first
    | with_reducible exact po_some (by assumption)
    | (with_reducible refine km_pf (by assumption) (by decide) ?_; intro _ _)
    | (with_reducible refine km_st (by assumption) (by decide) ?_; intro _ _)
    | (with_reducible refine km_pz (by assumption) (by decide) ?_; intro _ _)
    | with_reducible exact km_d_tellDoor_121 (by assumption)
    | (with_reducible refine po_call (km_d_tellDoor_121 (by assumption)) ?_; rintro ⟨_, _, _, _⟩ _; try dsimp only)
    | with_reducible refine po_cond (fun _ => ?_) (fun _ => ?_)
    | with_reducible refine po_bind_cond (fun _ => ?_) (fun _ => ?_)
    | with_reducible refine po_bl (fun _ _ => ?_))
theorem km_d_tellDoor_82 {n : Nat} {F : Nat → Int32} {A : Nat → Nat → Int32} {J : Nat → Nat → Int64} {x1 : Int32}  (h : KM Fr Ar F A) : po (d_tellDoor_82 n F A J x1) (fun r => KM Fr Ar r.2.1 r.2.2.1) := by
  unfold d_tellDoor_82
  repeat' (first
    | with_reducible exact po_some (by assumption)
    | (with_reducible refine km_pf (by assumption) (by decide) ?_; intro _ _)
    | (with_reducible refine km_st (by assumption) (by decide) ?_; intro _ _)
    | (with_reducible refine km_pz (by assumption) (by decide) ?_; intro _ _)
    | with_reducible exact km_d_bounded (by assumption)
    | (with_reducible refine po_call (km_d_bounded (by assumption)) ?_; rintro ⟨_, _, _, _⟩ _; try dsimp only)
    | with_reducible exact km_d_tellDoor_120 (by assumption)
    | (with_reducible refine po_call (km_d_tellDoor_120 (by assumption)) ?_; rintro ⟨_, _, _, _⟩ _; try dsimp only)
    | with_reducible exact km_d_tellDoor_121 (by assumption)
    | (with_reducible refine po_call (km_d_tellDoor_121 (by assumption)) ?_; rintro ⟨_, _, _, _⟩ _; try dsimp only)
    | with_reducible refine po_cond (fun _ => ?_) (fun _ => ?_)
    | with_reducible refine po_bind_cond (fun _ => ?_) (fun _ => ?_)
    | with_reducible refine po_bl (fun _ _ => ?_))
theorem km_d_tellDoor {n : Nat} {F : Nat → Int32} {A : Nat → Nat → Int32} {J : Nat → Nat → Int64}  (h : KM Fr Ar F A) : po (d_tellDoor n F A J) (fun r => KM Fr Ar r.2.1 r.2.2.1) := by
  unfold d_tellDoor
  repeat' (first
    | with_reducible exact po_some (by assumption)
    | (with_reducible refine km_pf (by assumption) (by decide) ?_; intro _ _)
    | (with_reducible refine km_st (by assumption) (by decide) ?_; intro _ _)
    | (with_reducible refine km_pz (by assumption) (by decide) ?_; intro _ _)
    | with_reducible exact km_d_known (by assumption)
    | (with_reducible refine po_call (km_d_known (by assumption)) ?_; rintro ⟨_, _, _, _⟩ _; try dsimp only)
    | with_reducible exact km_d_tellDoor_82 (by assumption)
    | (with_reducible refine po_call (km_d_tellDoor_82 (by assumption)) ?_; rintro ⟨_, _, _, _⟩ _; try dsimp only)
    | with_reducible exact km_d_wrong (by assumption)
    | (with_reducible refine po_call (km_d_wrong (by assumption)) ?_; rintro ⟨_, _, _, _⟩ _; try dsimp only)
    | with_reducible exact km_d_bounded (by assumption)
    | (with_reducible refine po_call (km_d_bounded (by assumption)) ?_; rintro ⟨_, _, _, _⟩ _; try dsimp only)
    | with_reducible exact km_d_tellDoor_120 (by assumption)
    | (with_reducible refine po_call (km_d_tellDoor_120 (by assumption)) ?_; rintro ⟨_, _, _, _⟩ _; try dsimp only)
    | with_reducible exact km_d_tellDoor_121 (by assumption)
    | (with_reducible refine po_call (km_d_tellDoor_121 (by assumption)) ?_; rintro ⟨_, _, _, _⟩ _; try dsimp only)
    | with_reducible refine po_cond (fun _ => ?_) (fun _ => ?_)
    | with_reducible refine po_bind_cond (fun _ => ?_) (fun _ => ?_)
    | with_reducible refine po_bl (fun _ _ => ?_))
theorem km_d_tellTool {n : Nat} {F : Nat → Int32} {A : Nat → Nat → Int32} {J : Nat → Nat → Int64}  (h : KM Fr Ar F A) : po (d_tellTool n F A J) (fun r => KM Fr Ar r.2.1 r.2.2.1) := by
  unfold d_tellTool
  repeat' (first
    | with_reducible exact po_some (by assumption)
    | (with_reducible refine km_pf (by assumption) (by decide) ?_; intro _ _)
    | (with_reducible refine km_st (by assumption) (by decide) ?_; intro _ _)
    | (with_reducible refine km_pz (by assumption) (by decide) ?_; intro _ _)
    | with_reducible exact km_d_named (by assumption)
    | (with_reducible refine po_call (km_d_named (by assumption)) ?_; rintro ⟨_, _, _, _⟩ _; try dsimp only)
    | with_reducible exact km_d_known (by assumption)
    | (with_reducible refine po_call (km_d_known (by assumption)) ?_; rintro ⟨_, _, _, _⟩ _; try dsimp only)
    | with_reducible exact km_d_must (by assumption)
    | (with_reducible refine po_call (km_d_must (by assumption)) ?_; rintro ⟨_, _, _, _⟩ _; try dsimp only)
    | with_reducible exact km_d_notes (by assumption)
    | (with_reducible refine po_call (km_d_notes (by assumption)) ?_; rintro ⟨_, _, _, _⟩ _; try dsimp only)
    | with_reducible refine po_cond (fun _ => ?_) (fun _ => ?_)
    | with_reducible refine po_bind_cond (fun _ => ?_) (fun _ => ?_)
    | with_reducible refine po_bl (fun _ _ => ?_))
theorem km_d_tellTask {n : Nat} {F : Nat → Int32} {A : Nat → Nat → Int32} {J : Nat → Nat → Int64}  (h : KM Fr Ar F A) : po (d_tellTask n F A J) (fun r => KM Fr Ar r.2.1 r.2.2.1) := by
  unfold d_tellTask
  repeat' (first
    | with_reducible exact po_some (by assumption)
    | (with_reducible refine km_pf (by assumption) (by decide) ?_; intro _ _)
    | (with_reducible refine km_st (by assumption) (by decide) ?_; intro _ _)
    | (with_reducible refine km_pz (by assumption) (by decide) ?_; intro _ _)
    | with_reducible exact km_d_named (by assumption)
    | (with_reducible refine po_call (km_d_named (by assumption)) ?_; rintro ⟨_, _, _, _⟩ _; try dsimp only)
    | with_reducible exact km_d_known (by assumption)
    | (with_reducible refine po_call (km_d_known (by assumption)) ?_; rintro ⟨_, _, _, _⟩ _; try dsimp only)
    | with_reducible exact km_d_bounded (by assumption)
    | (with_reducible refine po_call (km_d_bounded (by assumption)) ?_; rintro ⟨_, _, _, _⟩ _; try dsimp only)
    | with_reducible exact km_d_must (by assumption)
    | (with_reducible refine po_call (km_d_must (by assumption)) ?_; rintro ⟨_, _, _, _⟩ _; try dsimp only)
    | with_reducible exact km_d_notes (by assumption)
    | (with_reducible refine po_call (km_d_notes (by assumption)) ?_; rintro ⟨_, _, _, _⟩ _; try dsimp only)
    | with_reducible refine po_cond (fun _ => ?_) (fun _ => ?_)
    | with_reducible refine po_bind_cond (fun _ => ?_) (fun _ => ?_)
    | with_reducible refine po_bl (fun _ _ => ?_))
theorem km_d_tellStep_174 {n : Nat} {F : Nat → Int32} {A : Nat → Nat → Int32} {J : Nat → Nat → Int64} {x2 : Int32} {x4 : Int32} {x5 : Int32} {x6 : Int32} {x7 : Int32} {x8 : Int32} {x9 : Int32} {x10 : Int32}  (h : KM Fr Ar F A) : po (d_tellStep_174 n F A J x2 x4 x5 x6 x7 x8 x9 x10) (fun r => KM Fr Ar r.2.1 r.2.2.1) := by
  unfold d_tellStep_174
  repeat' (first
    | with_reducible exact po_some (by assumption)
    | (with_reducible refine km_pf (by assumption) (by decide) ?_; intro _ _)
    | (with_reducible refine km_st (by assumption) (by decide) ?_; intro _ _)
    | (with_reducible refine km_pz (by assumption) (by decide) ?_; intro _ _)
    | with_reducible exact km_d_must (by assumption)
    | (with_reducible refine po_call (km_d_must (by assumption)) ?_; rintro ⟨_, _, _, _⟩ _; try dsimp only)
    | with_reducible refine po_cond (fun _ => ?_) (fun _ => ?_)
    | with_reducible refine po_bind_cond (fun _ => ?_) (fun _ => ?_)
    | with_reducible refine po_bl (fun _ _ => ?_))
theorem km_d_tellStep_169 {n : Nat} {F : Nat → Int32} {A : Nat → Nat → Int32} {J : Nat → Nat → Int64} {x2 : Int32} {x4 : Int32} {x5 : Int32} {x6 : Int32} {x7 : Int32} {x8 : Int32} {x9 : Int32} {s1 : Int32} {s2 : Int32}  (h : KM Fr Ar F A) : po (d_tellStep_169 n F A J x2 x4 x5 x6 x7 x8 x9 s1 s2) (fun r => KM Fr Ar r.2.1 r.2.2.1) := by
  unfold d_tellStep_169
  repeat' (first
    | with_reducible exact po_some (by assumption)
    | (with_reducible refine km_pf (by assumption) (by decide) ?_; intro _ _)
    | (with_reducible refine km_st (by assumption) (by decide) ?_; intro _ _)
    | (with_reducible refine km_pz (by assumption) (by decide) ?_; intro _ _)
    | with_reducible exact km_d_bounded (by assumption)
    | (with_reducible refine po_call (km_d_bounded (by assumption)) ?_; rintro ⟨_, _, _, _⟩ _; try dsimp only)
    | with_reducible exact km_d_tellStep_174 (by assumption)
    | (with_reducible refine po_call (km_d_tellStep_174 (by assumption)) ?_; rintro ⟨_, _, _, _⟩ _; try dsimp only)
    | with_reducible refine po_cond (fun _ => ?_) (fun _ => ?_)
    | with_reducible refine po_bind_cond (fun _ => ?_) (fun _ => ?_)
    | with_reducible refine po_bl (fun _ _ => ?_))
theorem km_d_tellStep_134 {n : Nat} {F : Nat → Int32} {A : Nat → Nat → Int32} {J : Nat → Nat → Int64} {x2 : Int32} {x3 : Int32} {x4 : Int32} {x5 : Int32} {x6 : Int32} {x7 : Int32} {x8 : Int32} {x9 : Int32} {x10 : Int32}  (h : KM Fr Ar F A) : po (d_tellStep_134 n F A J x2 x3 x4 x5 x6 x7 x8 x9 x10) (fun r => KM Fr Ar r.2.1 r.2.2.1) := by
  unfold d_tellStep_134
  repeat' (first
    | with_reducible exact po_some (by assumption)
    | (with_reducible refine km_pf (by assumption) (by decide) ?_; intro _ _)
    | (with_reducible refine km_st (by assumption) (by decide) ?_; intro _ _)
    | (with_reducible refine km_pz (by assumption) (by decide) ?_; intro _ _)
    | with_reducible exact km_d_tellStep_174 (by assumption)
    | (with_reducible refine po_call (km_d_tellStep_174 (by assumption)) ?_; rintro ⟨_, _, _, _⟩ _; try dsimp only)
    | with_reducible exact km_d_goesOn (by assumption)
    | (with_reducible refine po_call (km_d_goesOn (by assumption)) ?_; rintro ⟨_, _, _, _⟩ _; try dsimp only)
    | with_reducible exact km_d_tellStep_169 (by assumption)
    | (with_reducible refine po_call (km_d_tellStep_169 (by assumption)) ?_; rintro ⟨_, _, _, _⟩ _; try dsimp only)
    | with_reducible refine po_cond (fun _ => ?_) (fun _ => ?_)
    | with_reducible refine po_bind_cond (fun _ => ?_) (fun _ => ?_)
    | with_reducible refine po_bl (fun _ _ => ?_))
theorem km_d_tellStep_59 {n : Nat} {F : Nat → Int32} {A : Nat → Nat → Int32} {J : Nat → Nat → Int64} {x2 : Int32} {x3 : Int32} {s0 : Int32} {s1 : Int32} {s2 : Int32}  (h : KM Fr Ar F A) : po (d_tellStep_59 n F A J x2 x3 s0 s1 s2) (fun r => KM Fr Ar r.2.1 r.2.2.1) := by
  unfold d_tellStep_59
  repeat' (first
    | with_reducible exact po_some (by assumption)
    | (with_reducible refine km_pf (by assumption) (by decide) ?_; intro _ _)
    | (with_reducible refine km_st (by assumption) (by decide) ?_; intro _ _)
    | (with_reducible refine km_pz (by assumption) (by decide) ?_; intro _ _)
    | with_reducible exact km_d_bounded (by assumption)
    | (with_reducible refine po_call (km_d_bounded (by assumption)) ?_; rintro ⟨_, _, _, _⟩ _; try dsimp only)
    | with_reducible exact km_d_tellStep_134 (by assumption)
    | (with_reducible refine po_call (km_d_tellStep_134 (by assumption)) ?_; rintro ⟨_, _, _, _⟩ _; try dsimp only)
    | with_reducible exact km_d_goesOn (by assumption)
    | (with_reducible refine po_call (km_d_goesOn (by assumption)) ?_; rintro ⟨_, _, _, _⟩ _; try dsimp only)
    | with_reducible exact km_d_known (by assumption)
    | (with_reducible refine po_call (km_d_known (by assumption)) ?_; rintro ⟨_, _, _, _⟩ _; try dsimp only)
    | with_reducible refine po_cond (fun _ => ?_) (fun _ => ?_)
    | with_reducible refine po_bind_cond (fun _ => ?_) (fun _ => ?_)
    | with_reducible refine po_bl (fun _ _ => ?_))
theorem km_d_tellStep_41 {n : Nat} {F : Nat → Int32} {A : Nat → Nat → Int32} {J : Nat → Nat → Int64} {x2 : Int32} {x3 : Int32}  (h : KM Fr Ar F A) : po (d_tellStep_41 n F A J x2 x3) (fun r => KM Fr Ar r.2.1 r.2.2.1) := by
  unfold d_tellStep_41
  repeat' (first
    | with_reducible exact po_some (by assumption)
    | (with_reducible refine km_pf (by assumption) (by decide) ?_; intro _ _)
    | (with_reducible refine km_st (by assumption) (by decide) ?_; intro _ _)
    | (with_reducible refine km_pz (by assumption) (by decide) ?_; intro _ _)
    | with_reducible exact km_d_tellStep_59 (by assumption)
    | (with_reducible refine po_call (km_d_tellStep_59 (by assumption)) ?_; rintro ⟨_, _, _, _⟩ _; try dsimp only)
    | with_reducible refine po_cond (fun _ => ?_) (fun _ => ?_)
    | with_reducible refine po_bind_cond (fun _ => ?_) (fun _ => ?_)
    | with_reducible refine po_bl (fun _ _ => ?_))
theorem km_d_failAt {F : Nat → Int32} {A : Nat → Nat → Int32} {J : Nat → Nat → Int64} {x1 : Int32} {x2 : Int32}  (h : KM Fr Ar F A) : po (d_failAt F A J x1 x2) (fun r => KM Fr Ar r.2.1 r.2.2.1) := by
  unfold d_failAt
  repeat' (first
    | with_reducible exact po_some (by assumption)
    | (with_reducible refine km_pf (by assumption) (by decide) ?_; intro _ _)
    | (with_reducible refine km_st (by assumption) (by decide) ?_; intro _ _)
    | (with_reducible refine km_pz (by assumption) (by decide) ?_; intro _ _)
    | with_reducible refine po_cond (fun _ => ?_) (fun _ => ?_)
    | with_reducible refine po_bind_cond (fun _ => ?_) (fun _ => ?_)
    | with_reducible refine po_bl (fun _ _ => ?_))
theorem km_d_tellStep_28 {n : Nat} {F : Nat → Int32} {A : Nat → Nat → Int32} {J : Nat → Nat → Int64} {x1 : Int32} {x2 : Int32} {s0 : Int32}  (h : KM Fr Ar F A) : po (d_tellStep_28 n F A J x1 x2 s0) (fun r => KM Fr Ar r.2.1 r.2.2.1) := by
  unfold d_tellStep_28
  repeat' (first
    | with_reducible exact po_some (by assumption)
    | (with_reducible refine km_pf (by assumption) (by decide) ?_; intro _ _)
    | (with_reducible refine km_st (by assumption) (by decide) ?_; intro _ _)
    | (with_reducible refine km_pz (by assumption) (by decide) ?_; intro _ _)
    | with_reducible exact km_d_tellStep_41 (by assumption)
    | (with_reducible refine po_call (km_d_tellStep_41 (by assumption)) ?_; rintro ⟨_, _, _, _⟩ _; try dsimp only)
    | with_reducible exact km_d_failAt (by assumption)
    | (with_reducible refine po_call (km_d_failAt (by assumption)) ?_; rintro ⟨_, _, _, _⟩ _; try dsimp only)
    | with_reducible exact km_d_tellStep_59 (by assumption)
    | (with_reducible refine po_call (km_d_tellStep_59 (by assumption)) ?_; rintro ⟨_, _, _, _⟩ _; try dsimp only)
    | with_reducible refine po_cond (fun _ => ?_) (fun _ => ?_)
    | with_reducible refine po_bind_cond (fun _ => ?_) (fun _ => ?_)
    | with_reducible refine po_bl (fun _ _ => ?_))
theorem km_d_tellStep {n : Nat} {F : Nat → Int32} {A : Nat → Nat → Int32} {J : Nat → Nat → Int64} {x1 : Int32}  (h : KM Fr Ar F A) : po (d_tellStep n F A J x1) (fun r => KM Fr Ar r.2.1 r.2.2.1) := by
  unfold d_tellStep
  repeat' (first
    | with_reducible exact po_some (by assumption)
    | (with_reducible refine km_pf (by assumption) (by decide) ?_; intro _ _)
    | (with_reducible refine km_st (by assumption) (by decide) ?_; intro _ _)
    | (with_reducible refine km_pz (by assumption) (by decide) ?_; intro _ _)
    | with_reducible exact km_d_known (by assumption)
    | (with_reducible refine po_call (km_d_known (by assumption)) ?_; rintro ⟨_, _, _, _⟩ _; try dsimp only)
    | with_reducible exact km_d_tellStep_41 (by assumption)
    | (with_reducible refine po_call (km_d_tellStep_41 (by assumption)) ?_; rintro ⟨_, _, _, _⟩ _; try dsimp only)
    | with_reducible exact km_d_failAt (by assumption)
    | (with_reducible refine po_call (km_d_failAt (by assumption)) ?_; rintro ⟨_, _, _, _⟩ _; try dsimp only)
    | with_reducible exact km_d_tellStep_59 (by assumption)
    | (with_reducible refine po_call (km_d_tellStep_59 (by assumption)) ?_; rintro ⟨_, _, _, _⟩ _; try dsimp only)
    | with_reducible exact km_d_tellStep_28 (by assumption)
    | (with_reducible refine po_call (km_d_tellStep_28 (by assumption)) ?_; rintro ⟨_, _, _, _⟩ _; try dsimp only)
    | with_reducible refine po_cond (fun _ => ?_) (fun _ => ?_)
    | with_reducible refine po_bind_cond (fun _ => ?_) (fun _ => ?_)
    | with_reducible refine po_bl (fun _ _ => ?_))
theorem km_d_tellMan_118 {n : Nat} {F : Nat → Int32} {A : Nat → Nat → Int32} {J : Nat → Nat → Int64} {x2 : Int32}  (h : KM Fr Ar F A) : po (d_tellMan_118 n F A J x2) (fun r => KM Fr Ar r.2.1 r.2.2.1) := by
  unfold d_tellMan_118
  repeat' (first
    | with_reducible exact po_some (by assumption)
    | (with_reducible refine km_pf (by assumption) (by decide) ?_; intro _ _)
    | (with_reducible refine km_st (by assumption) (by decide) ?_; intro _ _)
    | (with_reducible refine km_pz (by assumption) (by decide) ?_; intro _ _)
    | with_reducible exact km_d_must (by assumption)
    | (with_reducible refine po_call (km_d_must (by assumption)) ?_; rintro ⟨_, _, _, _⟩ _; try dsimp only)
    | with_reducible exact km_d_notes (by assumption)
    | (with_reducible refine po_call (km_d_notes (by assumption)) ?_; rintro ⟨_, _, _, _⟩ _; try dsimp only)
    | with_reducible refine po_cond (fun _ => ?_) (fun _ => ?_)
    | with_reducible refine po_bind_cond (fun _ => ?_) (fun _ => ?_)
    | with_reducible refine po_bl (fun _ _ => ?_))
theorem km_d_tellMan_114 {n : Nat} {F : Nat → Int32} {A : Nat → Nat → Int32} {J : Nat → Nat → Int64} {x2 : Int32} {s1 : Int32} {s3 : Int32} {s4 : Int32}  (h : KM Fr Ar F A) : po (d_tellMan_114 n F A J x2 s1 s3 s4) (fun r => KM Fr Ar r.2.1 r.2.2.1) := by
  unfold d_tellMan_114
  repeat' (first
    | with_reducible exact po_some (by assumption)
    | (with_reducible refine km_pf (by assumption) (by decide) ?_; intro _ _)
    | (with_reducible refine km_st (by assumption) (by decide) ?_; intro _ _)
    | (with_reducible refine km_pz (by assumption) (by decide) ?_; intro _ _)
    | with_reducible exact km_d_bounded (by assumption)
    | (with_reducible refine po_call (km_d_bounded (by assumption)) ?_; rintro ⟨_, _, _, _⟩ _; try dsimp only)
    | with_reducible exact km_d_must (by assumption)
    | (with_reducible refine po_call (km_d_must (by assumption)) ?_; rintro ⟨_, _, _, _⟩ _; try dsimp only)
    | with_reducible exact km_d_notes (by assumption)
    | (with_reducible refine po_call (km_d_notes (by assumption)) ?_; rintro ⟨_, _, _, _⟩ _; try dsimp only)
    | with_reducible refine po_cond (fun _ => ?_) (fun _ => ?_)
    | with_reducible refine po_bind_cond (fun _ => ?_) (fun _ => ?_)
    | with_reducible refine po_bl (fun _ _ => ?_))
theorem km_d_tellMan {n : Nat} {F : Nat → Int32} {A : Nat → Nat → Int32} {J : Nat → Nat → Int64}  (h : KM Fr Ar F A) : po (d_tellMan n F A J) (fun r => KM Fr Ar r.2.1 r.2.2.1) := by
  unfold d_tellMan
  repeat' (first
    | with_reducible exact po_some (by assumption)
    | (with_reducible refine km_pf (by assumption) (by decide) ?_; intro _ _)
    | (with_reducible refine km_st (by assumption) (by decide) ?_; intro _ _)
    | (with_reducible refine km_pz (by assumption) (by decide) ?_; intro _ _)
    | with_reducible exact km_d_named (by assumption)
    | (with_reducible refine po_call (km_d_named (by assumption)) ?_; rintro ⟨_, _, _, _⟩ _; try dsimp only)
    | with_reducible exact km_d_known (by assumption)
    | (with_reducible refine po_call (km_d_known (by assumption)) ?_; rintro ⟨_, _, _, _⟩ _; try dsimp only)
    | with_reducible exact km_d_tellMan_118 (by assumption)
    | (with_reducible refine po_call (km_d_tellMan_118 (by assumption)) ?_; rintro ⟨_, _, _, _⟩ _; try dsimp only)
    | with_reducible exact km_d_goesOn (by assumption)
    | (with_reducible refine po_call (km_d_goesOn (by assumption)) ?_; rintro ⟨_, _, _, _⟩ _; try dsimp only)
    | with_reducible exact km_d_tellMan_114 (by assumption)
    | (with_reducible refine po_call (km_d_tellMan_114 (by assumption)) ?_; rintro ⟨_, _, _, _⟩ _; try dsimp only)
    | with_reducible refine po_cond (fun _ => ?_) (fun _ => ?_)
    | with_reducible refine po_bind_cond (fun _ => ?_) (fun _ => ?_)
    | with_reducible refine po_bl (fun _ _ => ?_))
theorem km_d_term_24 {n : Nat} {F : Nat → Int32} {A : Nat → Nat → Int32} {J : Nat → Nat → Int64}  (h : KM Fr Ar F A) : po (d_term_24 n F A J) (fun r => KM Fr Ar r.2.1 r.2.2.1) := by
  unfold d_term_24
  repeat' (first
    | with_reducible exact po_some (by assumption)
    | (with_reducible refine km_pf (by assumption) (by decide) ?_; intro _ _)
    | (with_reducible refine km_st (by assumption) (by decide) ?_; intro _ _)
    | (with_reducible refine km_pz (by assumption) (by decide) ?_; intro _ _)
    | with_reducible refine po_cond (fun _ => ?_) (fun _ => ?_)
    | with_reducible refine po_bind_cond (fun _ => ?_) (fun _ => ?_)
    | with_reducible refine po_bl (fun _ _ => ?_))
theorem km_d_unit_88 {F : Nat → Int32} {A : Nat → Nat → Int32} {J : Nat → Nat → Int64}  (h : KM Fr Ar F A) : po (d_unit_88 F A J) (fun r => KM Fr Ar r.2.1 r.2.2.1) := by
  unfold d_unit_88
  repeat' (first
    | with_reducible exact po_some (by assumption)
    | (with_reducible refine km_pf (by assumption) (by decide) ?_; intro _ _)
    | (with_reducible refine km_st (by assumption) (by decide) ?_; intro _ _)
    | (with_reducible refine km_pz (by assumption) (by decide) ?_; intro _ _)
    | with_reducible exact km_d_fail (by assumption)
    | (with_reducible refine po_call (km_d_fail (by assumption)) ?_; rintro ⟨_, _, _, _⟩ _; try dsimp only)
    | with_reducible refine po_cond (fun _ => ?_) (fun _ => ?_)
    | with_reducible refine po_bind_cond (fun _ => ?_) (fun _ => ?_)
    | with_reducible refine po_bl (fun _ _ => ?_))
theorem km_d_emit {F : Nat → Int32} {A : Nat → Nat → Int32} {J : Nat → Nat → Int64} {x1 : Int32} {x2 : Int32}  (h : KM Fr Ar F A) : po (d_emit F A J x1 x2) (fun r => KM Fr Ar r.2.1 r.2.2.1) := by
  unfold d_emit
  repeat' (first
    | with_reducible exact po_some (by assumption)
    | (with_reducible refine km_pf (by assumption) (by decide) ?_; intro _ _)
    | (with_reducible refine km_st (by assumption) (by decide) ?_; intro _ _)
    | (with_reducible refine km_pz (by assumption) (by decide) ?_; intro _ _)
    | with_reducible refine po_cond (fun _ => ?_) (fun _ => ?_)
    | with_reducible refine po_bind_cond (fun _ => ?_) (fun _ => ?_)
    | with_reducible refine po_bl (fun _ _ => ?_))
theorem km_d_unit {F : Nat → Int32} {A : Nat → Nat → Int32} {J : Nat → Nat → Int64}  (h : KM Fr Ar F A) : po (d_unit F A J) (fun r => KM Fr Ar r.2.1 r.2.2.1) := by
  unfold d_unit
  repeat' (first
    | with_reducible exact po_some (by assumption)
    | (with_reducible refine km_pf (by assumption) (by decide) ?_; intro _ _)
    | (with_reducible refine km_st (by assumption) (by decide) ?_; intro _ _)
    | (with_reducible refine km_pz (by assumption) (by decide) ?_; intro _ _)
    | with_reducible exact km_d_unit_88 (by assumption)
    | (with_reducible refine po_call (km_d_unit_88 (by assumption)) ?_; rintro ⟨_, _, _, _⟩ _; try dsimp only)
    | with_reducible exact km_d_emit (by assumption)
    | (with_reducible refine po_call (km_d_emit (by assumption)) ?_; rintro ⟨_, _, _, _⟩ _; try dsimp only)
    | with_reducible exact km_d_goesOn (by assumption)
    | (with_reducible refine po_call (km_d_goesOn (by assumption)) ?_; rintro ⟨_, _, _, _⟩ _; try dsimp only)
    | with_reducible refine po_cond (fun _ => ?_) (fun _ => ?_)
    | with_reducible refine po_bind_cond (fun _ => ?_) (fun _ => ?_)
    | with_reducible refine po_bl (fun _ _ => ?_))
theorem km_d_comesOut_84 {K0 : (Nat → Int32) → (Nat → Nat → Int32) → (Nat → Nat → Int64) → Int32 → Option (Unit × (Nat → Int32) × (Nat → Nat → Int32) × (Nat → Nat → Int64))} {n : Nat} {F : Nat → Int32} {A : Nat → Nat → Int32} {J : Nat → Nat → Int64} {x1 : Int32} {s1 : Int32} (hK0 : ∀ (a0 : Nat → Int32) (a1 : Nat → Nat → Int32) (a2 : Nat → Nat → Int64) (a3 : Int32), KM Fr Ar a0 a1 → po (K0 a0 a1 a2 a3) (fun r => KM Fr Ar r.2.1 r.2.2.1)) (h : KM Fr Ar F A) : po (d_comesOut_84 K0 n F A J x1 s1) (fun r => KM Fr Ar r.2.1 r.2.2.1) := by
  unfold d_comesOut_84
  repeat' (first
    | with_reducible exact po_some (by assumption)
    | (with_reducible refine km_pf (by assumption) (by decide) ?_; intro _ _)
    | (with_reducible refine km_st (by assumption) (by decide) ?_; intro _ _)
    | (with_reducible refine km_pz (by assumption) (by decide) ?_; intro _ _)
    | with_reducible exact km_d_emit (by assumption)
    | (with_reducible refine po_call (km_d_emit (by assumption)) ?_; rintro ⟨_, _, _, _⟩ _; try dsimp only)
    | with_reducible exact hK0 _ _ _ _ (by assumption)
    | (intros; with_reducible exact hK0 _ _ _ _ (by assumption))
    | with_reducible refine po_cond (fun _ => ?_) (fun _ => ?_)
    | with_reducible refine po_bind_cond (fun _ => ?_) (fun _ => ?_)
    | with_reducible refine po_bl (fun _ _ => ?_))
theorem km_d_comesOut_42 {K0 : (Nat → Int32) → (Nat → Nat → Int32) → (Nat → Nat → Int64) → Int32 → Option (Unit × (Nat → Int32) × (Nat → Nat → Int32) × (Nat → Nat → Int64))} {n : Nat} {F : Nat → Int32} {A : Nat → Nat → Int32} {J : Nat → Nat → Int64} {x1 : Int32} {x2 : Int32} (hK0 : ∀ (a0 : Nat → Int32) (a1 : Nat → Nat → Int32) (a2 : Nat → Nat → Int64) (a3 : Int32), KM Fr Ar a0 a1 → po (K0 a0 a1 a2 a3) (fun r => KM Fr Ar r.2.1 r.2.2.1)) (h : KM Fr Ar F A) : po (d_comesOut_42 K0 n F A J x1 x2) (fun r => KM Fr Ar r.2.1 r.2.2.1) := by
  unfold d_comesOut_42
  repeat' (first
    | with_reducible exact po_some (by assumption)
    | (with_reducible refine km_pf (by assumption) (by decide) ?_; intro _ _)
    | (with_reducible refine km_st (by assumption) (by decide) ?_; intro _ _)
    | (with_reducible refine km_pz (by assumption) (by decide) ?_; intro _ _)
    | with_reducible refine km_d_comesOut_84 ?_ (by assumption)
    | (with_reducible refine po_call (km_d_comesOut_84 ?_ (by assumption)) ?_)
    | with_reducible exact hK0 _ _ _ _ (by assumption)
    | (intros; with_reducible exact hK0 _ _ _ _ (by assumption))
    | with_reducible refine po_cond (fun _ => ?_) (fun _ => ?_)
    | with_reducible refine po_bind_cond (fun _ => ?_) (fun _ => ?_)
    | with_reducible refine po_bl (fun _ _ => ?_))
theorem km_d_comesOut_0   : ∀ {n : Nat} {F : Nat → Int32} {A : Nat → Nat → Int32} {J : Nat → Nat → Int64} {x1 : Int32}, KM Fr Ar F A → po (d_comesOut_0  n F A J x1) (fun r => KM Fr Ar r.2.1 r.2.2.1) := by
  intro n
  induction n with
  | zero => intro F A J x1 _ r hr; cases hr
  | succ n ih =>
    intro F A J x1 h
    unfold d_comesOut_0
    repeat' (first
      | with_reducible exact po_some (by assumption)
      | (with_reducible refine km_pf (by assumption) (by decide) ?_; intro _ _)
      | (with_reducible refine km_st (by assumption) (by decide) ?_; intro _ _)
      | (with_reducible refine km_pz (by assumption) (by decide) ?_; intro _ _)
      | with_reducible refine km_d_comesOut_42 ?_ (by assumption)
      | (with_reducible refine po_call (km_d_comesOut_42 ?_ (by assumption)) ?_)
      | with_reducible exact ih (by assumption)
      | (with_reducible refine po_call (ih (by assumption)) ?_; rintro ⟨_, _, _, _⟩ _; try dsimp only)
      | (intros; with_reducible exact ih (by assumption))
      | with_reducible refine po_cond (fun _ => ?_) (fun _ => ?_)
      | with_reducible refine po_bind_cond (fun _ => ?_) (fun _ => ?_)
      | with_reducible refine po_bl (fun _ _ => ?_))
theorem km_d_comesOut {n : Nat} {F : Nat → Int32} {A : Nat → Nat → Int32} {J : Nat → Nat → Int64} {x1 : Int32}  (h : KM Fr Ar F A) : po (d_comesOut n F A J x1) (fun r => KM Fr Ar r.2.1 r.2.2.1) := by
  unfold d_comesOut
  repeat' (first
    | with_reducible exact po_some (by assumption)
    | (with_reducible refine km_pf (by assumption) (by decide) ?_; intro _ _)
    | (with_reducible refine km_st (by assumption) (by decide) ?_; intro _ _)
    | (with_reducible refine km_pz (by assumption) (by decide) ?_; intro _ _)
    | with_reducible exact km_d_comesOut_0 (by assumption)
    | (with_reducible refine po_call (km_d_comesOut_0 (by assumption)) ?_; rintro ⟨_, _, _, _⟩ _; try dsimp only)
    | with_reducible refine po_cond (fun _ => ?_) (fun _ => ?_)
    | with_reducible refine po_bind_cond (fun _ => ?_) (fun _ => ?_)
    | with_reducible refine po_bl (fun _ _ => ?_))
theorem km_d_expression_234 {K12 : (Nat → Int32) → (Nat → Nat → Int32) → (Nat → Nat → Int64) → Int32 → Int32 → Option (Unit × (Nat → Int32) × (Nat → Nat → Int32) × (Nat → Nat → Int64))} {n : Nat} {F : Nat → Int32} {A : Nat → Nat → Int32} {J : Nat → Nat → Int64} {x1 : Int32} {x2 : Int32} {s1 : Int32} (hK12 : ∀ (a0 : Nat → Int32) (a1 : Nat → Nat → Int32) (a2 : Nat → Nat → Int64) (a3 : Int32) (a4 : Int32), KM Fr Ar a0 a1 → po (K12 a0 a1 a2 a3 a4) (fun r => KM Fr Ar r.2.1 r.2.2.1)) (h : KM Fr Ar F A) : po (d_expression_234 K12 n F A J x1 x2 s1) (fun r => KM Fr Ar r.2.1 r.2.2.1) := by
  unfold d_expression_234
  repeat' (first
    | with_reducible exact po_some (by assumption)
    | (with_reducible refine km_pf (by assumption) (by decide) ?_; intro _ _)
    | (with_reducible refine km_st (by assumption) (by decide) ?_; intro _ _)
    | (with_reducible refine km_pz (by assumption) (by decide) ?_; intro _ _)
    | with_reducible exact km_d_comesOut (by assumption)
    | (with_reducible refine po_call (km_d_comesOut (by assumption)) ?_; rintro ⟨_, _, _, _⟩ _; try dsimp only)
    | with_reducible exact km_d_goesOn (by assumption)
    | (with_reducible refine po_call (km_d_goesOn (by assumption)) ?_; rintro ⟨_, _, _, _⟩ _; try dsimp only)
    | with_reducible exact hK12 _ _ _ _ _ (by assumption)
    | (intros; with_reducible exact hK12 _ _ _ _ _ (by assumption))
    | with_reducible refine po_cond (fun _ => ?_) (fun _ => ?_)
    | with_reducible refine po_bind_cond (fun _ => ?_) (fun _ => ?_)
    | with_reducible refine po_bl (fun _ _ => ?_))
theorem km_d_expression_229 {K12 : (Nat → Int32) → (Nat → Nat → Int32) → (Nat → Nat → Int64) → Int32 → Int32 → Option (Unit × (Nat → Int32) × (Nat → Nat → Int32) × (Nat → Nat → Int64))} {n : Nat} {F : Nat → Int32} {A : Nat → Nat → Int32} {J : Nat → Nat → Int64} {x1 : Int32} {x2 : Int32} (hK12 : ∀ (a0 : Nat → Int32) (a1 : Nat → Nat → Int32) (a2 : Nat → Nat → Int64) (a3 : Int32) (a4 : Int32), KM Fr Ar a0 a1 → po (K12 a0 a1 a2 a3 a4) (fun r => KM Fr Ar r.2.1 r.2.2.1)) (h : KM Fr Ar F A) : po (d_expression_229 K12 n F A J x1 x2) (fun r => KM Fr Ar r.2.1 r.2.2.1) := by
  unfold d_expression_229
  repeat' (first
    | with_reducible exact po_some (by assumption)
    | (with_reducible refine km_pf (by assumption) (by decide) ?_; intro _ _)
    | (with_reducible refine km_st (by assumption) (by decide) ?_; intro _ _)
    | (with_reducible refine km_pz (by assumption) (by decide) ?_; intro _ _)
    | with_reducible refine km_d_expression_234 ?_ (by assumption)
    | (with_reducible refine po_call (km_d_expression_234 ?_ (by assumption)) ?_)
    | with_reducible exact hK12 _ _ _ _ _ (by assumption)
    | (intros; with_reducible exact hK12 _ _ _ _ _ (by assumption))
    | with_reducible refine po_cond (fun _ => ?_) (fun _ => ?_)
    | with_reducible refine po_bind_cond (fun _ => ?_) (fun _ => ?_)
    | with_reducible refine po_bl (fun _ _ => ?_))
theorem km_d_expression_204 {n : Nat} {F : Nat → Int32} {A : Nat → Nat → Int32} {J : Nat → Nat → Int64}  (h : KM Fr Ar F A) : po (d_expression_204 n F A J) (fun r => KM Fr Ar r.2.1 r.2.2.1) := by
  unfold d_expression_204
  repeat' (first
    | with_reducible exact po_some (by assumption)
    | (with_reducible refine km_pf (by assumption) (by decide) ?_; intro _ _)
    | (with_reducible refine km_st (by assumption) (by decide) ?_; intro _ _)
    | (with_reducible refine km_pz (by assumption) (by decide) ?_; intro _ _)
    | with_reducible exact km_d_comesOut (by assumption)
    | (with_reducible refine po_call (km_d_comesOut (by assumption)) ?_; rintro ⟨_, _, _, _⟩ _; try dsimp only)
    | with_reducible refine po_cond (fun _ => ?_) (fun _ => ?_)
    | with_reducible refine po_bind_cond (fun _ => ?_) (fun _ => ?_)
    | with_reducible refine po_bl (fun _ _ => ?_))
theorem km_d_expression_186 {K12 : (Nat → Int32) → (Nat → Nat → Int32) → (Nat → Nat → Int64) → Int32 → Int32 → Option (Unit × (Nat → Int32) × (Nat → Nat → Int32) × (Nat → Nat → Int64))} {n : Nat} {F : Nat → Int32} {A : Nat → Nat → Int32} {J : Nat → Nat → Int64} {x1 : Int32} {s0 : Int32} (hK12 : ∀ (a0 : Nat → Int32) (a1 : Nat → Nat → Int32) (a2 : Nat → Nat → Int64) (a3 : Int32) (a4 : Int32), KM Fr Ar a0 a1 → po (K12 a0 a1 a2 a3 a4) (fun r => KM Fr Ar r.2.1 r.2.2.1)) (h : KM Fr Ar F A) : po (d_expression_186 K12 n F A J x1 s0) (fun r => KM Fr Ar r.2.1 r.2.2.1) := by
  unfold d_expression_186
  repeat' (first
    | with_reducible exact po_some (by assumption)
    | (with_reducible refine km_pf (by assumption) (by decide) ?_; intro _ _)
    | (with_reducible refine km_st (by assumption) (by decide) ?_; intro _ _)
    | (with_reducible refine km_pz (by assumption) (by decide) ?_; intro _ _)
    | with_reducible refine km_d_expression_229 ?_ (by assumption)
    | (with_reducible refine po_call (km_d_expression_229 ?_ (by assumption)) ?_)
    | with_reducible refine km_d_expression_234 ?_ (by assumption)
    | (with_reducible refine po_call (km_d_expression_234 ?_ (by assumption)) ?_)
    | with_reducible exact km_d_expression_204 (by assumption)
    | (with_reducible refine po_call (km_d_expression_204 (by assumption)) ?_; rintro ⟨_, _, _, _⟩ _; try dsimp only)
    | with_reducible exact km_d_fail (by assumption)
    | (with_reducible refine po_call (km_d_fail (by assumption)) ?_; rintro ⟨_, _, _, _⟩ _; try dsimp only)
    | with_reducible exact km_d_comesOut (by assumption)
    | (with_reducible refine po_call (km_d_comesOut (by assumption)) ?_; rintro ⟨_, _, _, _⟩ _; try dsimp only)
    | with_reducible exact hK12 _ _ _ _ _ (by assumption)
    | (intros; with_reducible exact hK12 _ _ _ _ _ (by assumption))
    | with_reducible refine po_cond (fun _ => ?_) (fun _ => ?_)
    | with_reducible refine po_bind_cond (fun _ => ?_) (fun _ => ?_)
    | with_reducible refine po_bl (fun _ _ => ?_))
theorem km_d_expression_181 {K12 : (Nat → Int32) → (Nat → Nat → Int32) → (Nat → Nat → Int64) → Int32 → Int32 → Option (Unit × (Nat → Int32) × (Nat → Nat → Int32) × (Nat → Nat → Int64))} {n : Nat} {F : Nat → Int32} {A : Nat → Nat → Int32} {J : Nat → Nat → Int64} {x1 : Int32} (hK12 : ∀ (a0 : Nat → Int32) (a1 : Nat → Nat → Int32) (a2 : Nat → Nat → Int64) (a3 : Int32) (a4 : Int32), KM Fr Ar a0 a1 → po (K12 a0 a1 a2 a3 a4) (fun r => KM Fr Ar r.2.1 r.2.2.1)) (h : KM Fr Ar F A) : po (d_expression_181 K12 n F A J x1) (fun r => KM Fr Ar r.2.1 r.2.2.1) := by
  unfold d_expression_181
  repeat' (first
    | with_reducible exact po_some (by assumption)
    | (with_reducible refine km_pf (by assumption) (by decide) ?_; intro _ _)
    | (with_reducible refine km_st (by assumption) (by decide) ?_; intro _ _)
    | (with_reducible refine km_pz (by assumption) (by decide) ?_; intro _ _)
    | with_reducible refine km_d_expression_186 ?_ (by assumption)
    | (with_reducible refine po_call (km_d_expression_186 ?_ (by assumption)) ?_)
    | with_reducible exact hK12 _ _ _ _ _ (by assumption)
    | (intros; with_reducible exact hK12 _ _ _ _ _ (by assumption))
    | with_reducible refine po_cond (fun _ => ?_) (fun _ => ?_)
    | with_reducible refine po_bind_cond (fun _ => ?_) (fun _ => ?_)
    | with_reducible refine po_bl (fun _ _ => ?_))
theorem km_d_expression_145 {K12 : (Nat → Int32) → (Nat → Nat → Int32) → (Nat → Nat → Int64) → Int32 → Int32 → Option (Unit × (Nat → Int32) × (Nat → Nat → Int32) × (Nat → Nat → Int64))} {n : Nat} {F : Nat → Int32} {A : Nat → Nat → Int32} {J : Nat → Nat → Int64} {x1 : Int32} (hK12 : ∀ (a0 : Nat → Int32) (a1 : Nat → Nat → Int32) (a2 : Nat → Nat → Int64) (a3 : Int32) (a4 : Int32), KM Fr Ar a0 a1 → po (K12 a0 a1 a2 a3 a4) (fun r => KM Fr Ar r.2.1 r.2.2.1)) (h : KM Fr Ar F A) : po (d_expression_145 K12 n F A J x1) (fun r => KM Fr Ar r.2.1 r.2.2.1) := by
  unfold d_expression_145
  repeat' (first
    | with_reducible exact po_some (by assumption)
    | (with_reducible refine km_pf (by assumption) (by decide) ?_; intro _ _)
    | (with_reducible refine km_st (by assumption) (by decide) ?_; intro _ _)
    | (with_reducible refine km_pz (by assumption) (by decide) ?_; intro _ _)
    | with_reducible refine km_d_expression_181 ?_ (by assumption)
    | (with_reducible refine po_call (km_d_expression_181 ?_ (by assumption)) ?_)
    | with_reducible refine km_d_expression_186 ?_ (by assumption)
    | (with_reducible refine po_call (km_d_expression_186 ?_ (by assumption)) ?_)
    | with_reducible exact hK12 _ _ _ _ _ (by assumption)
    | (intros; with_reducible exact hK12 _ _ _ _ _ (by assumption))
    | with_reducible refine po_cond (fun _ => ?_) (fun _ => ?_)
    | with_reducible refine po_bind_cond (fun _ => ?_) (fun _ => ?_)
    | with_reducible refine po_bl (fun _ _ => ?_))
theorem km_d_expression_96 {K12 : (Nat → Int32) → (Nat → Nat → Int32) → (Nat → Nat → Int64) → Int32 → Int32 → Option (Unit × (Nat → Int32) × (Nat → Nat → Int32) × (Nat → Nat → Int64))} (hK12 : ∀ (a0 : Nat → Int32) (a1 : Nat → Nat → Int32) (a2 : Nat → Nat → Int64) (a3 : Int32) (a4 : Int32), KM Fr Ar a0 a1 → po (K12 a0 a1 a2 a3 a4) (fun r => KM Fr Ar r.2.1 r.2.2.1)) : ∀ {n : Nat} {F : Nat → Int32} {A : Nat → Nat → Int32} {J : Nat → Nat → Int64} {x1 : Int32}, KM Fr Ar F A → po (d_expression_96 K12 n F A J x1) (fun r => KM Fr Ar r.2.1 r.2.2.1) := by
  intro n
  induction n with
  | zero => intro F A J x1 _ r hr; cases hr
  | succ n ih =>
    intro F A J x1 h
    unfold d_expression_96
    repeat' (first
      | with_reducible exact po_some (by assumption)
      | (with_reducible refine km_pf (by assumption) (by decide) ?_; intro _ _)
      | (with_reducible refine km_st (by assumption) (by decide) ?_; intro _ _)
      | (with_reducible refine km_pz (by assumption) (by decide) ?_; intro _ _)
      | with_reducible refine km_d_expression_145 ?_ (by assumption)
      | (with_reducible refine po_call (km_d_expression_145 ?_ (by assumption)) ?_)
      | with_reducible exact km_d_comesOut (by assumption)
      | (with_reducible refine po_call (km_d_comesOut (by assumption)) ?_; rintro ⟨_, _, _, _⟩ _; try dsimp only)
      | with_reducible exact km_d_goesOn (by assumption)
      | (with_reducible refine po_call (km_d_goesOn (by assumption)) ?_; rintro ⟨_, _, _, _⟩ _; try dsimp only)
      | with_reducible exact hK12 _ _ _ _ _ (by assumption)
      | (intros; with_reducible exact hK12 _ _ _ _ _ (by assumption))
      | with_reducible exact ih (by assumption)
      | (with_reducible refine po_call (ih (by assumption)) ?_; rintro ⟨_, _, _, _⟩ _; try dsimp only)
      | (intros; with_reducible exact ih (by assumption))
      | with_reducible refine po_cond (fun _ => ?_) (fun _ => ?_)
      | with_reducible refine po_bind_cond (fun _ => ?_) (fun _ => ?_)
      | with_reducible refine po_bl (fun _ _ => ?_))
theorem km_d_expression_46 {K12 : (Nat → Int32) → (Nat → Nat → Int32) → (Nat → Nat → Int64) → Int32 → Int32 → Option (Unit × (Nat → Int32) × (Nat → Nat → Int32) × (Nat → Nat → Int64))} {K23 : (Nat → Int32) → (Nat → Nat → Int32) → (Nat → Nat → Int64) → Int32 → Option (Unit × (Nat → Int32) × (Nat → Nat → Int32) × (Nat → Nat → Int64))} {n : Nat} {F : Nat → Int32} {A : Nat → Nat → Int32} {J : Nat → Nat → Int64} {x1 : Int32} (hK12 : ∀ (a0 : Nat → Int32) (a1 : Nat → Nat → Int32) (a2 : Nat → Nat → Int64) (a3 : Int32) (a4 : Int32), KM Fr Ar a0 a1 → po (K12 a0 a1 a2 a3 a4) (fun r => KM Fr Ar r.2.1 r.2.2.1)) (hK23 : ∀ (a0 : Nat → Int32) (a1 : Nat → Nat → Int32) (a2 : Nat → Nat → Int64) (a3 : Int32), KM Fr Ar a0 a1 → po (K23 a0 a1 a2 a3) (fun r => KM Fr Ar r.2.1 r.2.2.1)) (h : KM Fr Ar F A) : po (d_expression_46 K12 K23 n F A J x1) (fun r => KM Fr Ar r.2.1 r.2.2.1) := by
  unfold d_expression_46
  repeat' (first
    | with_reducible exact po_some (by assumption)
    | (with_reducible refine km_pf (by assumption) (by decide) ?_; intro _ _)
    | (with_reducible refine km_st (by assumption) (by decide) ?_; intro _ _)
    | (with_reducible refine km_pz (by assumption) (by decide) ?_; intro _ _)
    | with_reducible exact km_d_goesOn (by assumption)
    | (with_reducible refine po_call (km_d_goesOn (by assumption)) ?_; rintro ⟨_, _, _, _⟩ _; try dsimp only)
    | with_reducible exact hK12 _ _ _ _ _ (by assumption)
    | (intros; with_reducible exact hK12 _ _ _ _ _ (by assumption))
    | with_reducible exact hK23 _ _ _ _ (by assumption)
    | (intros; with_reducible exact hK23 _ _ _ _ (by assumption))
    | with_reducible refine po_cond (fun _ => ?_) (fun _ => ?_)
    | with_reducible refine po_bind_cond (fun _ => ?_) (fun _ => ?_)
    | with_reducible refine po_bl (fun _ _ => ?_))
theorem km_d_expression_23 {K12 : (Nat → Int32) → (Nat → Nat → Int32) → (Nat → Nat → Int64) → Int32 → Int32 → Option (Unit × (Nat → Int32) × (Nat → Nat → Int32) × (Nat → Nat → Int64))} (hK12 : ∀ (a0 : Nat → Int32) (a1 : Nat → Nat → Int32) (a2 : Nat → Nat → Int64) (a3 : Int32) (a4 : Int32), KM Fr Ar a0 a1 → po (K12 a0 a1 a2 a3 a4) (fun r => KM Fr Ar r.2.1 r.2.2.1)) : ∀ {n : Nat} {F : Nat → Int32} {A : Nat → Nat → Int32} {J : Nat → Nat → Int64} {x1 : Int32}, KM Fr Ar F A → po (d_expression_23 K12 n F A J x1) (fun r => KM Fr Ar r.2.1 r.2.2.1) := by
  intro n
  induction n with
  | zero => intro F A J x1 _ r hr; cases hr
  | succ n ih =>
    intro F A J x1 h
    unfold d_expression_23
    repeat' (first
      | with_reducible exact po_some (by assumption)
      | (with_reducible refine km_pf (by assumption) (by decide) ?_; intro _ _)
      | (with_reducible refine km_st (by assumption) (by decide) ?_; intro _ _)
      | (with_reducible refine km_pz (by assumption) (by decide) ?_; intro _ _)
      | with_reducible exact km_d_unit (by assumption)
      | (with_reducible refine po_call (km_d_unit (by assumption)) ?_; rintro ⟨_, _, _, _⟩ _; try dsimp only)
      | with_reducible refine km_d_expression_96 ?_ (by assumption)
      | (with_reducible refine po_call (km_d_expression_96 ?_ (by assumption)) ?_)
      | with_reducible refine km_d_expression_46 ?_ ?_ (by assumption)
      | (with_reducible refine po_call (km_d_expression_46 ?_ ?_ (by assumption)) ?_)
      | with_reducible exact km_d_fail (by assumption)
      | (with_reducible refine po_call (km_d_fail (by assumption)) ?_; rintro ⟨_, _, _, _⟩ _; try dsimp only)
      | with_reducible exact km_d_goesOn (by assumption)
      | (with_reducible refine po_call (km_d_goesOn (by assumption)) ?_; rintro ⟨_, _, _, _⟩ _; try dsimp only)
      | with_reducible exact hK12 _ _ _ _ _ (by assumption)
      | (intros; with_reducible exact hK12 _ _ _ _ _ (by assumption))
      | with_reducible exact ih (by assumption)
      | (with_reducible refine po_call (ih (by assumption)) ?_; rintro ⟨_, _, _, _⟩ _; try dsimp only)
      | (intros; with_reducible exact ih (by assumption))
      | with_reducible refine po_cond (fun _ => ?_) (fun _ => ?_)
      | with_reducible refine po_bind_cond (fun _ => ?_) (fun _ => ?_)
      | with_reducible refine po_bl (fun _ _ => ?_))
theorem km_d_expression_12   : ∀ {n : Nat} {F : Nat → Int32} {A : Nat → Nat → Int32} {J : Nat → Nat → Int64} {x1 : Int32} {x2 : Int32}, KM Fr Ar F A → po (d_expression_12  n F A J x1 x2) (fun r => KM Fr Ar r.2.1 r.2.2.1) := by
  intro n
  induction n with
  | zero => intro F A J x1 x2 _ r hr; cases hr
  | succ n ih =>
    intro F A J x1 x2 h
    unfold d_expression_12
    repeat' (first
      | with_reducible exact po_some (by assumption)
      | (with_reducible refine km_pf (by assumption) (by decide) ?_; intro _ _)
      | (with_reducible refine km_st (by assumption) (by decide) ?_; intro _ _)
      | (with_reducible refine km_pz (by assumption) (by decide) ?_; intro _ _)
      | with_reducible refine km_d_expression_23 ?_ (by assumption)
      | (with_reducible refine po_call (km_d_expression_23 ?_ (by assumption)) ?_)
      | with_reducible exact ih (by assumption)
      | (with_reducible refine po_call (ih (by assumption)) ?_; rintro ⟨_, _, _, _⟩ _; try dsimp only)
      | (intros; with_reducible exact ih (by assumption))
      | with_reducible refine po_cond (fun _ => ?_) (fun _ => ?_)
      | with_reducible refine po_bind_cond (fun _ => ?_) (fun _ => ?_)
      | with_reducible refine po_bl (fun _ _ => ?_))
theorem km_d_expression {n : Nat} {F : Nat → Int32} {A : Nat → Nat → Int32} {J : Nat → Nat → Int64}  (h : KM Fr Ar F A) : po (d_expression n F A J) (fun r => KM Fr Ar r.2.1 r.2.2.1) := by
  unfold d_expression
  repeat' (first
    | with_reducible exact po_some (by assumption)
    | (with_reducible refine km_pf (by assumption) (by decide) ?_; intro _ _)
    | (with_reducible refine km_st (by assumption) (by decide) ?_; intro _ _)
    | (with_reducible refine km_pz (by assumption) (by decide) ?_; intro _ _)
    | with_reducible exact km_d_expression_12 (by assumption)
    | (with_reducible refine po_call (km_d_expression_12 (by assumption)) ?_; rintro ⟨_, _, _, _⟩ _; try dsimp only)
    | with_reducible refine po_cond (fun _ => ?_) (fun _ => ?_)
    | with_reducible refine po_bind_cond (fun _ => ?_) (fun _ => ?_)
    | with_reducible refine po_bl (fun _ _ => ?_))
theorem km_d_term {n : Nat} {F : Nat → Int32} {A : Nat → Nat → Int32} {J : Nat → Nat → Int64}  (h : KM Fr Ar F A) : po (d_term n F A J) (fun r => KM Fr Ar r.2.1 r.2.2.1) := by
  unfold d_term
  repeat' (first
    | with_reducible exact po_some (by assumption)
    | (with_reducible refine km_pf (by assumption) (by decide) ?_; intro _ _)
    | (with_reducible refine km_st (by assumption) (by decide) ?_; intro _ _)
    | (with_reducible refine km_pz (by assumption) (by decide) ?_; intro _ _)
    | with_reducible exact km_d_term_24 (by assumption)
    | (with_reducible refine po_call (km_d_term_24 (by assumption)) ?_; rintro ⟨_, _, _, _⟩ _; try dsimp only)
    | with_reducible exact km_d_expression (by assumption)
    | (with_reducible refine po_call (km_d_expression (by assumption)) ?_; rintro ⟨_, _, _, _⟩ _; try dsimp only)
    | with_reducible refine po_cond (fun _ => ?_) (fun _ => ?_)
    | with_reducible refine po_bind_cond (fun _ => ?_) (fun _ => ?_)
    | with_reducible refine po_bl (fun _ _ => ?_))
theorem km_d_tellLaw_135 {n : Nat} {F : Nat → Int32} {A : Nat → Nat → Int32} {J : Nat → Nat → Int64} {x1 : Int32} {x2 : Int32}  (h : KM Fr Ar F A) : po (d_tellLaw_135 n F A J x1 x2) (fun r => KM Fr Ar r.2.1 r.2.2.1) := by
  unfold d_tellLaw_135
  repeat' (first
    | with_reducible exact po_some (by assumption)
    | (with_reducible refine km_pf (by assumption) (by decide) ?_; intro _ _)
    | (with_reducible refine km_st (by assumption) (by decide) ?_; intro _ _)
    | (with_reducible refine km_pz (by assumption) (by decide) ?_; intro _ _)
    | with_reducible exact km_d_term (by assumption)
    | (with_reducible refine po_call (km_d_term (by assumption)) ?_; rintro ⟨_, _, _, _⟩ _; try dsimp only)
    | with_reducible exact km_d_must (by assumption)
    | (with_reducible refine po_call (km_d_must (by assumption)) ?_; rintro ⟨_, _, _, _⟩ _; try dsimp only)
    | with_reducible refine po_cond (fun _ => ?_) (fun _ => ?_)
    | with_reducible refine po_bind_cond (fun _ => ?_) (fun _ => ?_)
    | with_reducible refine po_bl (fun _ _ => ?_))
theorem km_d_tellLaw_116 {K18 : (Nat → Int32) → (Nat → Nat → Int32) → (Nat → Nat → Int64) → Int32 → Int32 → Int32 → Option (Unit × (Nat → Int32) × (Nat → Nat → Int32) × (Nat → Nat → Int64))} {n : Nat} {F : Nat → Int32} {A : Nat → Nat → Int32} {J : Nat → Nat → Int64} {x1 : Int32} {x2 : Int32} {x3 : Int32} (hK18 : ∀ (a0 : Nat → Int32) (a1 : Nat → Nat → Int32) (a2 : Nat → Nat → Int64) (a3 : Int32) (a4 : Int32) (a5 : Int32), KM Fr Ar a0 a1 → po (K18 a0 a1 a2 a3 a4 a5) (fun r => KM Fr Ar r.2.1 r.2.2.1)) (h : KM Fr Ar F A) : po (d_tellLaw_116 K18 n F A J x1 x2 x3) (fun r => KM Fr Ar r.2.1 r.2.2.1) := by
  unfold d_tellLaw_116
  repeat' (first
    | with_reducible exact po_some (by assumption)
    | (with_reducible refine km_pf (by assumption) (by decide) ?_; intro _ _)
    | (with_reducible refine km_st (by assumption) (by decide) ?_; intro _ _)
    | (with_reducible refine km_pz (by assumption) (by decide) ?_; intro _ _)
    | with_reducible exact km_d_must (by assumption)
    | (with_reducible refine po_call (km_d_must (by assumption)) ?_; rintro ⟨_, _, _, _⟩ _; try dsimp only)
    | with_reducible exact km_d_term (by assumption)
    | (with_reducible refine po_call (km_d_term (by assumption)) ?_; rintro ⟨_, _, _, _⟩ _; try dsimp only)
    | with_reducible exact hK18 _ _ _ _ _ _ (by assumption)
    | (intros; with_reducible exact hK18 _ _ _ _ _ _ (by assumption))
    | with_reducible refine po_cond (fun _ => ?_) (fun _ => ?_)
    | with_reducible refine po_bind_cond (fun _ => ?_) (fun _ => ?_)
    | with_reducible refine po_bl (fun _ _ => ?_))
theorem km_d_tellLaw_44 {K18 : (Nat → Int32) → (Nat → Nat → Int32) → (Nat → Nat → Int64) → Int32 → Int32 → Int32 → Option (Unit × (Nat → Int32) × (Nat → Nat → Int32) × (Nat → Nat → Int64))} {n : Nat} {F : Nat → Int32} {A : Nat → Nat → Int32} {J : Nat → Nat → Int64} {x1 : Int32} {x2 : Int32} {x3 : Int32} (hK18 : ∀ (a0 : Nat → Int32) (a1 : Nat → Nat → Int32) (a2 : Nat → Nat → Int64) (a3 : Int32) (a4 : Int32) (a5 : Int32), KM Fr Ar a0 a1 → po (K18 a0 a1 a2 a3 a4 a5) (fun r => KM Fr Ar r.2.1 r.2.2.1)) (h : KM Fr Ar F A) : po (d_tellLaw_44 K18 n F A J x1 x2 x3) (fun r => KM Fr Ar r.2.1 r.2.2.1) := by
  unfold d_tellLaw_44
  repeat' (first
    | with_reducible exact po_some (by assumption)
    | (with_reducible refine km_pf (by assumption) (by decide) ?_; intro _ _)
    | (with_reducible refine km_st (by assumption) (by decide) ?_; intro _ _)
    | (with_reducible refine km_pz (by assumption) (by decide) ?_; intro _ _)
    | with_reducible exact km_d_goesOn (by assumption)
    | (with_reducible refine po_call (km_d_goesOn (by assumption)) ?_; rintro ⟨_, _, _, _⟩ _; try dsimp only)
    | with_reducible exact km_d_expression (by assumption)
    | (with_reducible refine po_call (km_d_expression (by assumption)) ?_; rintro ⟨_, _, _, _⟩ _; try dsimp only)
    | with_reducible exact km_d_must (by assumption)
    | (with_reducible refine po_call (km_d_must (by assumption)) ?_; rintro ⟨_, _, _, _⟩ _; try dsimp only)
    | with_reducible refine km_d_tellLaw_116 ?_ (by assumption)
    | (with_reducible refine po_call (km_d_tellLaw_116 ?_ (by assumption)) ?_)
    | with_reducible exact km_d_term (by assumption)
    | (with_reducible refine po_call (km_d_term (by assumption)) ?_; rintro ⟨_, _, _, _⟩ _; try dsimp only)
    | with_reducible exact hK18 _ _ _ _ _ _ (by assumption)
    | (intros; with_reducible exact hK18 _ _ _ _ _ _ (by assumption))
    | with_reducible refine po_cond (fun _ => ?_) (fun _ => ?_)
    | with_reducible refine po_bind_cond (fun _ => ?_) (fun _ => ?_)
    | with_reducible refine po_bl (fun _ _ => ?_))
theorem km_d_tellLaw_18   : ∀ {n : Nat} {F : Nat → Int32} {A : Nat → Nat → Int32} {J : Nat → Nat → Int64} {x1 : Int32} {x2 : Int32} {x3 : Int32}, KM Fr Ar F A → po (d_tellLaw_18  n F A J x1 x2 x3) (fun r => KM Fr Ar r.2.1 r.2.2.1) := by
  intro n
  induction n with
  | zero => intro F A J x1 x2 x3 _ r hr; cases hr
  | succ n ih =>
    intro F A J x1 x2 x3 h
    unfold d_tellLaw_18
    repeat' (first
      | with_reducible exact po_some (by assumption)
      | (with_reducible refine km_pf (by assumption) (by decide) ?_; intro _ _)
      | (with_reducible refine km_st (by assumption) (by decide) ?_; intro _ _)
      | (with_reducible refine km_pz (by assumption) (by decide) ?_; intro _ _)
      | with_reducible exact km_d_tellLaw_135 (by assumption)
      | (with_reducible refine po_call (km_d_tellLaw_135 (by assumption)) ?_; rintro ⟨_, _, _, _⟩ _; try dsimp only)
      | with_reducible refine km_d_tellLaw_44 ?_ (by assumption)
      | (with_reducible refine po_call (km_d_tellLaw_44 ?_ (by assumption)) ?_)
      | with_reducible exact km_d_fail (by assumption)
      | (with_reducible refine po_call (km_d_fail (by assumption)) ?_; rintro ⟨_, _, _, _⟩ _; try dsimp only)
      | with_reducible exact km_d_goesOn (by assumption)
      | (with_reducible refine po_call (km_d_goesOn (by assumption)) ?_; rintro ⟨_, _, _, _⟩ _; try dsimp only)
      | with_reducible exact km_d_expression (by assumption)
      | (with_reducible refine po_call (km_d_expression (by assumption)) ?_; rintro ⟨_, _, _, _⟩ _; try dsimp only)
      | with_reducible exact km_d_must (by assumption)
      | (with_reducible refine po_call (km_d_must (by assumption)) ?_; rintro ⟨_, _, _, _⟩ _; try dsimp only)
      | with_reducible refine km_d_tellLaw_116 ?_ (by assumption)
      | (with_reducible refine po_call (km_d_tellLaw_116 ?_ (by assumption)) ?_)
      | with_reducible exact km_d_term (by assumption)
      | (with_reducible refine po_call (km_d_term (by assumption)) ?_; rintro ⟨_, _, _, _⟩ _; try dsimp only)
      | with_reducible exact ih (by assumption)
      | (with_reducible refine po_call (ih (by assumption)) ?_; rintro ⟨_, _, _, _⟩ _; try dsimp only)
      | (intros; with_reducible exact ih (by assumption))
      | with_reducible refine po_cond (fun _ => ?_) (fun _ => ?_)
      | with_reducible refine po_bind_cond (fun _ => ?_) (fun _ => ?_)
      | with_reducible refine po_bl (fun _ _ => ?_))
theorem km_d_tellLaw {n : Nat} {F : Nat → Int32} {A : Nat → Nat → Int32} {J : Nat → Nat → Int64}  (h : KM Fr Ar F A) : po (d_tellLaw n F A J) (fun r => KM Fr Ar r.2.1 r.2.2.1) := by
  unfold d_tellLaw
  repeat' (first
    | with_reducible exact po_some (by assumption)
    | (with_reducible refine km_pf (by assumption) (by decide) ?_; intro _ _)
    | (with_reducible refine km_st (by assumption) (by decide) ?_; intro _ _)
    | (with_reducible refine km_pz (by assumption) (by decide) ?_; intro _ _)
    | with_reducible exact km_d_known (by assumption)
    | (with_reducible refine po_call (km_d_known (by assumption)) ?_; rintro ⟨_, _, _, _⟩ _; try dsimp only)
    | with_reducible exact km_d_must (by assumption)
    | (with_reducible refine po_call (km_d_must (by assumption)) ?_; rintro ⟨_, _, _, _⟩ _; try dsimp only)
    | with_reducible exact km_d_tellLaw_18 (by assumption)
    | (with_reducible refine po_call (km_d_tellLaw_18 (by assumption)) ?_; rintro ⟨_, _, _, _⟩ _; try dsimp only)
    | with_reducible refine po_cond (fun _ => ?_) (fun _ => ?_)
    | with_reducible refine po_bind_cond (fun _ => ?_) (fun _ => ?_)
    | with_reducible refine po_bl (fun _ _ => ?_))
theorem km_d_tell0 {n : Nat} {F : Nat → Int32} {A : Nat → Nat → Int32} {J : Nat → Nat → Int64}  (h : KM Fr Ar F A) : po (d_tell0 n F A J) (fun r => KM Fr Ar r.2.1 r.2.2.1) := by
  unfold d_tell0
  repeat' (first
    | with_reducible exact po_some (by assumption)
    | (with_reducible refine km_pf (by assumption) (by decide) ?_; intro _ _)
    | (with_reducible refine km_st (by assumption) (by decide) ?_; intro _ _)
    | (with_reducible refine km_pz (by assumption) (by decide) ?_; intro _ _)
    | with_reducible exact km_d_roomFor (by assumption)
    | (with_reducible refine po_call (km_d_roomFor (by assumption)) ?_; rintro ⟨_, _, _, _⟩ _; try dsimp only)
    | with_reducible exact km_d_tellRoom (by assumption)
    | (with_reducible refine po_call (km_d_tellRoom (by assumption)) ?_; rintro ⟨_, _, _, _⟩ _; try dsimp only)
    | with_reducible exact km_d_tellDoor (by assumption)
    | (with_reducible refine po_call (km_d_tellDoor (by assumption)) ?_; rintro ⟨_, _, _, _⟩ _; try dsimp only)
    | with_reducible exact km_d_fail (by assumption)
    | (with_reducible refine po_call (km_d_fail (by assumption)) ?_; rintro ⟨_, _, _, _⟩ _; try dsimp only)
    | with_reducible exact km_d_tellTool (by assumption)
    | (with_reducible refine po_call (km_d_tellTool (by assumption)) ?_; rintro ⟨_, _, _, _⟩ _; try dsimp only)
    | with_reducible exact km_d_tellTask (by assumption)
    | (with_reducible refine po_call (km_d_tellTask (by assumption)) ?_; rintro ⟨_, _, _, _⟩ _; try dsimp only)
    | with_reducible exact km_d_goesOn (by assumption)
    | (with_reducible refine po_call (km_d_goesOn (by assumption)) ?_; rintro ⟨_, _, _, _⟩ _; try dsimp only)
    | with_reducible exact km_d_tellStep (by assumption)
    | (with_reducible refine po_call (km_d_tellStep (by assumption)) ?_; rintro ⟨_, _, _, _⟩ _; try dsimp only)
    | with_reducible exact km_d_tellMan (by assumption)
    | (with_reducible refine po_call (km_d_tellMan (by assumption)) ?_; rintro ⟨_, _, _, _⟩ _; try dsimp only)
    | with_reducible exact km_d_tellLaw (by assumption)
    | (with_reducible refine po_call (km_d_tellLaw (by assumption)) ?_; rintro ⟨_, _, _, _⟩ _; try dsimp only)
    | with_reducible exact km_d_bounded (by assumption)
    | (with_reducible refine po_call (km_d_bounded (by assumption)) ?_; rintro ⟨_, _, _, _⟩ _; try dsimp only)
    | with_reducible exact km_d_must (by assumption)
    | (with_reducible refine po_call (km_d_must (by assumption)) ?_; rintro ⟨_, _, _, _⟩ _; try dsimp only)
    | with_reducible refine po_cond (fun _ => ?_) (fun _ => ?_)
    | with_reducible refine po_bind_cond (fun _ => ?_) (fun _ => ?_)
    | with_reducible refine po_bl (fun _ _ => ?_))
theorem km_d_begins_219 {K176 : (Nat → Int32) → (Nat → Nat → Int32) → (Nat → Nat → Int64) → Int32 → Option (Unit × (Nat → Int32) × (Nat → Nat → Int32) × (Nat → Nat → Int64))} {n : Nat} {F : Nat → Int32} {A : Nat → Nat → Int32} {J : Nat → Nat → Int64} {x1 : Int32} (hK176 : ∀ (a0 : Nat → Int32) (a1 : Nat → Nat → Int32) (a2 : Nat → Nat → Int64) (a3 : Int32), KM Fr Ar a0 a1 → po (K176 a0 a1 a2 a3) (fun r => KM Fr Ar r.2.1 r.2.2.1)) (h : KM Fr Ar F A) : po (d_begins_219 K176 n F A J x1) (fun r => KM Fr Ar r.2.1 r.2.2.1) := by
  unfold d_begins_219
  repeat' (first
    | with_reducible exact po_some (by assumption)
    | (with_reducible refine km_pf (by assumption) (by decide) ?_; intro _ _)
    | (with_reducible refine km_st (by assumption) (by decide) ?_; intro _ _)
    | (with_reducible refine km_pz (by assumption) (by decide) ?_; intro _ _)
    | with_reducible exact hK176 _ _ _ _ (by assumption)
    | (intros; with_reducible exact hK176 _ _ _ _ (by assumption))
    | with_reducible refine po_cond (fun _ => ?_) (fun _ => ?_)
    | with_reducible refine po_bind_cond (fun _ => ?_) (fun _ => ?_)
    | with_reducible refine po_bl (fun _ _ => ?_))
theorem km_d_begins_176   : ∀ {n : Nat} {F : Nat → Int32} {A : Nat → Nat → Int32} {J : Nat → Nat → Int64} {x1 : Int32}, KM Fr Ar F A → po (d_begins_176  n F A J x1) (fun r => KM Fr Ar r.2.1 r.2.2.1) := by
  intro n
  induction n with
  | zero => intro F A J x1 _ r hr; cases hr
  | succ n ih =>
    intro F A J x1 h
    unfold d_begins_176
    repeat' (first
      | with_reducible exact po_some (by assumption)
      | (with_reducible refine km_pf (by assumption) (by decide) ?_; intro _ _)
      | (with_reducible refine km_st (by assumption) (by decide) ?_; intro _ _)
      | (with_reducible refine km_pz (by assumption) (by decide) ?_; intro _ _)
      | with_reducible refine km_d_begins_219 ?_ (by assumption)
      | (with_reducible refine po_call (km_d_begins_219 ?_ (by assumption)) ?_)
      | with_reducible exact ih (by assumption)
      | (with_reducible refine po_call (ih (by assumption)) ?_; rintro ⟨_, _, _, _⟩ _; try dsimp only)
      | (intros; with_reducible exact ih (by assumption))
      | with_reducible refine po_cond (fun _ => ?_) (fun _ => ?_)
      | with_reducible refine po_bind_cond (fun _ => ?_) (fun _ => ?_)
      | with_reducible refine po_bl (fun _ _ => ?_))
theorem km_d_begins_132   : ∀ {n : Nat} {F : Nat → Int32} {A : Nat → Nat → Int32} {J : Nat → Nat → Int64} {x1 : Int32}, KM Fr Ar F A → po (d_begins_132  n F A J x1) (fun r => KM Fr Ar r.2.1 r.2.2.1) := by
  intro n
  induction n with
  | zero => intro F A J x1 _ r hr; cases hr
  | succ n ih =>
    intro F A J x1 h
    unfold d_begins_132
    repeat' (first
      | with_reducible exact po_some (by assumption)
      | (with_reducible refine km_pf (by assumption) (by decide) ?_; intro _ _)
      | (with_reducible refine km_st (by assumption) (by decide) ?_; intro _ _)
      | (with_reducible refine km_pz (by assumption) (by decide) ?_; intro _ _)
      | with_reducible exact km_d_begins_176 (by assumption)
      | (with_reducible refine po_call (km_d_begins_176 (by assumption)) ?_; rintro ⟨_, _, _, _⟩ _; try dsimp only)
      | with_reducible exact ih (by assumption)
      | (with_reducible refine po_call (ih (by assumption)) ?_; rintro ⟨_, _, _, _⟩ _; try dsimp only)
      | (intros; with_reducible exact ih (by assumption))
      | with_reducible refine po_cond (fun _ => ?_) (fun _ => ?_)
      | with_reducible refine po_bind_cond (fun _ => ?_) (fun _ => ?_)
      | with_reducible refine po_bl (fun _ _ => ?_))
theorem km_d_begins_59   : ∀ {n : Nat} {F : Nat → Int32} {A : Nat → Nat → Int32} {J : Nat → Nat → Int64} {x1 : Int32}, KM Fr Ar F A → po (d_begins_59  n F A J x1) (fun r => KM Fr Ar r.2.1 r.2.2.1) := by
  intro n
  induction n with
  | zero => intro F A J x1 _ r hr; cases hr
  | succ n ih =>
    intro F A J x1 h
    unfold d_begins_59
    repeat' (first
      | with_reducible exact po_some (by assumption)
      | (with_reducible refine km_pf (by assumption) (by decide) ?_; intro _ _)
      | (with_reducible refine km_st (by assumption) (by decide) ?_; intro _ _)
      | (with_reducible refine km_pz (by assumption) (by decide) ?_; intro _ _)
      | with_reducible exact km_d_begins_132 (by assumption)
      | (with_reducible refine po_call (km_d_begins_132 (by assumption)) ?_; rintro ⟨_, _, _, _⟩ _; try dsimp only)
      | with_reducible exact ih (by assumption)
      | (with_reducible refine po_call (ih (by assumption)) ?_; rintro ⟨_, _, _, _⟩ _; try dsimp only)
      | (intros; with_reducible exact ih (by assumption))
      | with_reducible refine po_cond (fun _ => ?_) (fun _ => ?_)
      | with_reducible refine po_bind_cond (fun _ => ?_) (fun _ => ?_)
      | with_reducible refine po_bl (fun _ _ => ?_))
theorem km_d_begins_23   : ∀ {n : Nat} {F : Nat → Int32} {A : Nat → Nat → Int32} {J : Nat → Nat → Int64} {x1 : Int32}, KM Fr Ar F A → po (d_begins_23  n F A J x1) (fun r => KM Fr Ar r.2.1 r.2.2.1) := by
  intro n
  induction n with
  | zero => intro F A J x1 _ r hr; cases hr
  | succ n ih =>
    intro F A J x1 h
    unfold d_begins_23
    repeat' (first
      | with_reducible exact po_some (by assumption)
      | (with_reducible refine km_pf (by assumption) (by decide) ?_; intro _ _)
      | (with_reducible refine km_st (by assumption) (by decide) ?_; intro _ _)
      | (with_reducible refine km_pz (by assumption) (by decide) ?_; intro _ _)
      | with_reducible exact km_d_begins_59 (by assumption)
      | (with_reducible refine po_call (km_d_begins_59 (by assumption)) ?_; rintro ⟨_, _, _, _⟩ _; try dsimp only)
      | with_reducible exact ih (by assumption)
      | (with_reducible refine po_call (ih (by assumption)) ?_; rintro ⟨_, _, _, _⟩ _; try dsimp only)
      | (intros; with_reducible exact ih (by assumption))
      | with_reducible refine po_cond (fun _ => ?_) (fun _ => ?_)
      | with_reducible refine po_bind_cond (fun _ => ?_) (fun _ => ?_)
      | with_reducible refine po_bl (fun _ _ => ?_))
theorem km_d_begins_2   : ∀ {n : Nat} {F : Nat → Int32} {A : Nat → Nat → Int32} {J : Nat → Nat → Int64} {x1 : Int32}, KM Fr Ar F A → po (d_begins_2  n F A J x1) (fun r => KM Fr Ar r.2.1 r.2.2.1) := by
  intro n
  induction n with
  | zero => intro F A J x1 _ r hr; cases hr
  | succ n ih =>
    intro F A J x1 h
    unfold d_begins_2
    repeat' (first
      | with_reducible exact po_some (by assumption)
      | (with_reducible refine km_pf (by assumption) (by decide) ?_; intro _ _)
      | (with_reducible refine km_st (by assumption) (by decide) ?_; intro _ _)
      | (with_reducible refine km_pz (by assumption) (by decide) ?_; intro _ _)
      | with_reducible exact km_d_begins_23 (by assumption)
      | (with_reducible refine po_call (km_d_begins_23 (by assumption)) ?_; rintro ⟨_, _, _, _⟩ _; try dsimp only)
      | with_reducible exact ih (by assumption)
      | (with_reducible refine po_call (ih (by assumption)) ?_; rintro ⟨_, _, _, _⟩ _; try dsimp only)
      | (intros; with_reducible exact ih (by assumption))
      | with_reducible refine po_cond (fun _ => ?_) (fun _ => ?_)
      | with_reducible refine po_bind_cond (fun _ => ?_) (fun _ => ?_)
      | with_reducible refine po_bl (fun _ _ => ?_))
theorem km_d_begins {n : Nat} {F : Nat → Int32} {A : Nat → Nat → Int32} {J : Nat → Nat → Int64}  (h : KM Fr Ar F A) : po (d_begins n F A J) (fun r => KM Fr Ar r.2.1 r.2.2.1) := by
  unfold d_begins
  repeat' (first
    | with_reducible exact po_some (by assumption)
    | (with_reducible refine km_pf (by assumption) (by decide) ?_; intro _ _)
    | (with_reducible refine km_st (by assumption) (by decide) ?_; intro _ _)
    | (with_reducible refine km_pz (by assumption) (by decide) ?_; intro _ _)
    | with_reducible exact km_d_begins_2 (by assumption)
    | (with_reducible refine po_call (km_d_begins_2 (by assumption)) ?_; rintro ⟨_, _, _, _⟩ _; try dsimp only)
    | with_reducible refine po_cond (fun _ => ?_) (fun _ => ?_)
    | with_reducible refine po_bind_cond (fun _ => ?_) (fun _ => ?_)
    | with_reducible refine po_bl (fun _ _ => ?_))
theorem km_d_hold_20   : ∀ {n : Nat} {F : Nat → Int32} {A : Nat → Nat → Int32} {J : Nat → Nat → Int64} {x1 : Int32} {x2 : Int32}, KM Fr Ar F A → po (d_hold_20  n F A J x1 x2) (fun r => KM Fr Ar r.2.1 r.2.2.1) := by
  intro n
  induction n with
  | zero => intro F A J x1 x2 _ r hr; cases hr
  | succ n ih =>
    intro F A J x1 x2 h
    unfold d_hold_20
    repeat' (first
      | with_reducible exact po_some (by assumption)
      | (with_reducible refine km_pf (by assumption) (by decide) ?_; intro _ _)
      | (with_reducible refine km_st (by assumption) (by decide) ?_; intro _ _)
      | (with_reducible refine km_pz (by assumption) (by decide) ?_; intro _ _)
      | with_reducible exact ih (by assumption)
      | (with_reducible refine po_call (ih (by assumption)) ?_; rintro ⟨_, _, _, _⟩ _; try dsimp only)
      | (intros; with_reducible exact ih (by assumption))
      | with_reducible refine po_cond (fun _ => ?_) (fun _ => ?_)
      | with_reducible refine po_bind_cond (fun _ => ?_) (fun _ => ?_)
      | with_reducible refine po_bl (fun _ _ => ?_))
end H9ex1
