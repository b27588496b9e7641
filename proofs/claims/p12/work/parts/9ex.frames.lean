/-! the three scalars that both sides share between calls: how much was told, how far undo reaches, what is held (the frames printed by wip/frames.py) -/
section H9ex
variable {F0 : Nat → Nat → Int32} {Fr : Nat → Int32} {Ar : Nat → Nat → Int32}
/-- the class's scalars are as they were -/
def KS (F0 F : Nat → Nat → Int32) : Prop := F 25 2 = F0 25 2 ∧ F 4 2 = F0 4 2 ∧ F 0 10 = F0 0 10
theorem KS.rfl' {F : Nat → Nat → Int32} : KS F F := ⟨rfl, rfl, rfl⟩
theorem KS.tr {F F1 F2 : Nat → Nat → Int32} (h : KS F F1) (h' : KS F1 F2) : KS F F2 := ⟨h'.1.trans h.1, h'.2.1.trans h.2.1, h'.2.2.trans h.2.2⟩
theorem ks_pf {γ : Type} {q k : Nat} {x : Int32} {F : Nat → Nat → Int32} {g : (Nat → Nat → Int32) → Option γ} {Q : γ → Prop} (h : KS F0 F) (hk : (k ≠ 2 ∨ (q ≠ 25 ∧ q ≠ 4)) ∧ (k ≠ 10 ∨ q ≠ 0)) (kk : ∀ F', KS F0 F' → po (g F') Q) : po ((c_pf F q k x).bind g) Q :=
  po_bl (fun F' e => by
    have a := (gg_cpf e).2
    exact kk F' ⟨(a 25 2 (fun e => by omega)).trans h.1, (a 4 2 (fun e => by omega)).trans h.2.1, (a 0 10 (fun e => by omega)).trans h.2.2⟩)
/-- the reference's are as they were -/
def KM (F0 : Nat → Int32) (A0 : Nat → Nat → Int32) (F : Nat → Int32) (A : Nat → Nat → Int32) : Prop := F 77 = F0 77 ∧ F 74 = F0 74 ∧ A 61 = A0 61
theorem KM.rfl' {F : Nat → Int32} {A : Nat → Nat → Int32} : KM F A F A := ⟨rfl, rfl, rfl⟩
theorem KM.tr {F F1 F2 : Nat → Int32} {A A1 A2 : Nat → Nat → Int32} (h : KM F A F1 A1) (h' : KM F1 A1 F2 A2) : KM F A F2 A2 := ⟨h'.1.trans h.1, h'.2.1.trans h.2.1, h'.2.2.trans h.2.2⟩
theorem km_pf {γ : Type} {k : Nat} {x : Int32} {F : Nat → Int32} {A : Nat → Nat → Int32} {g : (Nat → Int32) → Option γ} {Q : γ → Prop} (h : KM Fr Ar F A) (hk : k ≠ 77 ∧ k ≠ 74) (kk : ∀ F', KM Fr Ar F' A → po (g F') Q) : po ((m_pf F k x).bind g) Q :=
  po_bl (fun F' e => by
    have a := (gg_pf e).2
    exact kk F' ⟨(a 77 (fun e => hk.1 e.symm)).trans h.1, (a 74 (fun e => hk.2 e.symm)).trans h.2.1, h.2.2⟩)
theorem km_st {γ : Type} {j n : Nat} {i x : Int32} {F : Nat → Int32} {A : Nat → Nat → Int32} {g : (Nat → Nat → Int32) → Option γ} {Q : γ → Prop} (h : KM Fr Ar F A) (hj : j ≠ 61) (kk : ∀ A', KM Fr Ar F A' → po (g A') Q) : po ((m_st A j n i x).bind g) Q :=
  po_bl (fun A' e => kk A' ⟨h.1, h.2.1, ((gg_st e).2.2.1 61 (fun e => hj e.symm)).trans h.2.2⟩)
theorem gg_pz {F F' : Nat → Int32} {k : Nat} {x : Int32} (h : m_pfz F k x = some F') : F' k = x ∧ ∀ q, q ≠ k → F' q = F q := by
  unfold m_pfz at h
  split at h
  · cases h
    exact ⟨if_pos rfl, fun _ h => if_neg h⟩
  · cases h
theorem km_pz {γ : Type} {k : Nat} {x : Int32} {F : Nat → Int32} {A : Nat → Nat → Int32} {g : (Nat → Int32) → Option γ} {Q : γ → Prop} (h : KM Fr Ar F A) (hk : k ≠ 77 ∧ k ≠ 74) (kk : ∀ F', KM Fr Ar F' A → po (g F') Q) : po ((m_pfz F k x).bind g) Q :=
  po_bl (fun F' e => by
    have a := (gg_pz e).2
    exact kk F' ⟨(a 77 (fun e => hk.1 e.symm)).trans h.1, (a 74 (fun e => hk.2 e.symm)).trans h.2.1, h.2.2⟩)
theorem ks_e_Ways_between_27 {n : Nat} {P : Nat → Nat → Nat} {F : Nat → Nat → Int32} {A : Nat → Nat → Nat → Int32} {J : Nat → Nat → Nat → Int64} {x3 : Int32} {x4 : Int32}  (h : KS F0 F) : po (e_Ways_between_27 n P F A J x3 x4) (fun r => KS F0 r.2.2.1) := by
  unfold e_Ways_between_27
  repeat' (first
    | with_reducible exact po_some (by assumption)
    | (with_reducible refine ks_pf (by assumption) (by simp) ?_; intro _ _)
    | with_reducible refine po_cond (fun _ => ?_) (fun _ => ?_)
    | with_reducible refine po_bind_cond (fun _ => ?_) (fun _ => ?_)
    | with_reducible refine po_bl (fun _ _ => ?_))
theorem ks_e_Ways_takeDoors_127 {K39 : (Nat → Nat → Nat) → (Nat → Nat → Int32) → (Nat → Nat → Nat → Int32) → (Nat → Nat → Nat → Int64) → Nat → Int32 → Int32 → Option (Unit × (Nat → Nat → Nat) × (Nat → Nat → Int32) × (Nat → Nat → Nat → Int32) × (Nat → Nat → Nat → Int64))} {n : Nat} {P : Nat → Nat → Nat} {F : Nat → Nat → Int32} {A : Nat → Nat → Nat → Int32} {J : Nat → Nat → Nat → Int64} {r1 : Nat} {x2 : Int32} {x3 : Int32} (hK39 : ∀ (a0 : Nat → Nat → Nat) (a1 : Nat → Nat → Int32) (a2 : Nat → Nat → Nat → Int32) (a3 : Nat → Nat → Nat → Int64) (a4 : Nat) (a5 : Int32) (a6 : Int32), KS F0 a1 → po (K39 a0 a1 a2 a3 a4 a5 a6) (fun r => KS F0 r.2.2.1)) (h : KS F0 F) : po (e_Ways_takeDoors_127 K39 n P F A J r1 x2 x3) (fun r => KS F0 r.2.2.1) := by
  unfold e_Ways_takeDoors_127
  repeat' (first
    | with_reducible exact po_some (by assumption)
    | (with_reducible refine ks_pf (by assumption) (by simp) ?_; intro _ _)
    | with_reducible exact hK39 _ _ _ _ _ _ _ (by assumption)
    | (intros; with_reducible exact hK39 _ _ _ _ _ _ _ (by assumption))
    | with_reducible refine po_cond (fun _ => ?_) (fun _ => ?_)
    | with_reducible refine po_bind_cond (fun _ => ?_) (fun _ => ?_)
    | with_reducible refine po_bl (fun _ _ => ?_))
theorem ks_e_Ways_takeDoors_39   : ∀ {n : Nat} {P : Nat → Nat → Nat} {F : Nat → Nat → Int32} {A : Nat → Nat → Nat → Int32} {J : Nat → Nat → Nat → Int64} {r1 : Nat} {x2 : Int32} {x3 : Int32}, KS F0 F → po (e_Ways_takeDoors_39  n P F A J r1 x2 x3) (fun r => KS F0 r.2.2.1) := by
  intro n
  induction n with
  | zero => intro P F A J r1 x2 x3 _ r hr; cases hr
  | succ n ih =>
    intro P F A J r1 x2 x3 h
    unfold e_Ways_takeDoors_39
    repeat' (first
      | with_reducible exact po_some (by assumption)
      | (with_reducible refine ks_pf (by assumption) (by simp) ?_; intro _ _)
      | with_reducible refine ks_e_Ways_takeDoors_127 ?_ (by assumption)
      | (with_reducible refine po_call (ks_e_Ways_takeDoors_127 ?_ (by assumption)) ?_)
      | with_reducible exact ih (by assumption)
      | (with_reducible refine po_call (ih (by assumption)) ?_; rintro ⟨_, _, _, _, _⟩ _; try dsimp only)
      | (intros; with_reducible exact ih (by assumption))
      | with_reducible refine po_cond (fun _ => ?_) (fun _ => ?_)
      | with_reducible refine po_bind_cond (fun _ => ?_) (fun _ => ?_)
      | with_reducible refine po_bl (fun _ _ => ?_))
theorem ks_e_Ways_takeDoors_11   : ∀ {n : Nat} {P : Nat → Nat → Nat} {F : Nat → Nat → Int32} {A : Nat → Nat → Nat → Int32} {J : Nat → Nat → Nat → Int64} {r1 : Nat} {x2 : Int32} {x3 : Int32}, KS F0 F → po (e_Ways_takeDoors_11  n P F A J r1 x2 x3) (fun r => KS F0 r.2.2.1) := by
  intro n
  induction n with
  | zero => intro P F A J r1 x2 x3 _ r hr; cases hr
  | succ n ih =>
    intro P F A J r1 x2 x3 h
    unfold e_Ways_takeDoors_11
    repeat' (first
      | with_reducible exact po_some (by assumption)
      | (with_reducible refine ks_pf (by assumption) (by simp) ?_; intro _ _)
      | with_reducible exact ks_e_Ways_takeDoors_39 (by assumption)
      | (with_reducible refine po_call (ks_e_Ways_takeDoors_39 (by assumption)) ?_; rintro ⟨_, _, _, _, _⟩ _; try dsimp only)
      | with_reducible exact ih (by assumption)
      | (with_reducible refine po_call (ih (by assumption)) ?_; rintro ⟨_, _, _, _, _⟩ _; try dsimp only)
      | (intros; with_reducible exact ih (by assumption))
      | with_reducible refine po_cond (fun _ => ?_) (fun _ => ?_)
      | with_reducible refine po_bind_cond (fun _ => ?_) (fun _ => ?_)
      | with_reducible refine po_bl (fun _ _ => ?_))
theorem ks_e_Ways_takeDoors {n : Nat} {P : Nat → Nat → Nat} {F : Nat → Nat → Int32} {A : Nat → Nat → Nat → Int32} {J : Nat → Nat → Nat → Int64} {r1 : Nat} {x2 : Int32}  (h : KS F0 F) : po (e_Ways_takeDoors n P F A J r1 x2) (fun r => KS F0 r.2.2.1) := by
  unfold e_Ways_takeDoors
  repeat' (first
    | with_reducible exact po_some (by assumption)
    | (with_reducible refine ks_pf (by assumption) (by simp) ?_; intro _ _)
    | with_reducible exact ks_e_Ways_takeDoors_11 (by assumption)
    | (with_reducible refine po_call (ks_e_Ways_takeDoors_11 (by assumption)) ?_; rintro ⟨_, _, _, _, _⟩ _; try dsimp only)
    | with_reducible refine po_cond (fun _ => ?_) (fun _ => ?_)
    | with_reducible refine po_bind_cond (fun _ => ?_) (fun _ => ?_)
    | with_reducible refine po_bl (fun _ _ => ?_))
theorem ks_e_Ways_joinWays_97 {K2 : (Nat → Nat → Nat) → (Nat → Nat → Int32) → (Nat → Nat → Nat → Int32) → (Nat → Nat → Nat → Int64) → Int32 → Int32 → Option (Unit × (Nat → Nat → Nat) × (Nat → Nat → Int32) × (Nat → Nat → Nat → Int32) × (Nat → Nat → Nat → Int64))} {K9 : (Nat → Nat → Nat) → (Nat → Nat → Int32) → (Nat → Nat → Nat → Int32) → (Nat → Nat → Nat → Int64) → Int32 → Int32 → Int32 → Option (Unit × (Nat → Nat → Nat) × (Nat → Nat → Int32) × (Nat → Nat → Nat → Int32) × (Nat → Nat → Nat → Int64))} {n : Nat} {P : Nat → Nat → Nat} {F : Nat → Nat → Int32} {A : Nat → Nat → Nat → Int32} {J : Nat → Nat → Nat → Int64} {x1 : Int32} {x2 : Int32} {x3 : Int32} (hK2 : ∀ (a0 : Nat → Nat → Nat) (a1 : Nat → Nat → Int32) (a2 : Nat → Nat → Nat → Int32) (a3 : Nat → Nat → Nat → Int64) (a4 : Int32) (a5 : Int32), KS F0 a1 → po (K2 a0 a1 a2 a3 a4 a5) (fun r => KS F0 r.2.2.1)) (hK9 : ∀ (a0 : Nat → Nat → Nat) (a1 : Nat → Nat → Int32) (a2 : Nat → Nat → Nat → Int32) (a3 : Nat → Nat → Nat → Int64) (a4 : Int32) (a5 : Int32) (a6 : Int32), KS F0 a1 → po (K9 a0 a1 a2 a3 a4 a5 a6) (fun r => KS F0 r.2.2.1)) (h : KS F0 F) : po (e_Ways_joinWays_97 K2 K9 n P F A J x1 x2 x3) (fun r => KS F0 r.2.2.1) := by
  unfold e_Ways_joinWays_97
  repeat' (first
    | with_reducible exact po_some (by assumption)
    | (with_reducible refine ks_pf (by assumption) (by simp) ?_; intro _ _)
    | with_reducible exact hK2 _ _ _ _ _ _ (by assumption)
    | (intros; with_reducible exact hK2 _ _ _ _ _ _ (by assumption))
    | with_reducible exact hK9 _ _ _ _ _ _ _ (by assumption)
    | (intros; with_reducible exact hK9 _ _ _ _ _ _ _ (by assumption))
    | with_reducible refine po_cond (fun _ => ?_) (fun _ => ?_)
    | with_reducible refine po_bind_cond (fun _ => ?_) (fun _ => ?_)
    | with_reducible refine po_bl (fun _ _ => ?_))
theorem ks_e_Ways_joinWays_91 {K2 : (Nat → Nat → Nat) → (Nat → Nat → Int32) → (Nat → Nat → Nat → Int32) → (Nat → Nat → Nat → Int64) → Int32 → Int32 → Option (Unit × (Nat → Nat → Nat) × (Nat → Nat → Int32) × (Nat → Nat → Nat → Int32) × (Nat → Nat → Nat → Int64))} {K9 : (Nat → Nat → Nat) → (Nat → Nat → Int32) → (Nat → Nat → Nat → Int32) → (Nat → Nat → Nat → Int64) → Int32 → Int32 → Int32 → Option (Unit × (Nat → Nat → Nat) × (Nat → Nat → Int32) × (Nat → Nat → Nat → Int32) × (Nat → Nat → Nat → Int64))} {K30 : (Nat → Nat → Nat) → (Nat → Nat → Int32) → (Nat → Nat → Nat → Int32) → (Nat → Nat → Nat → Int64) → Int32 → Int32 → Int32 → Int32 → Int32 → Option (Unit × (Nat → Nat → Nat) × (Nat → Nat → Int32) × (Nat → Nat → Nat → Int32) × (Nat → Nat → Nat → Int64))} {n : Nat} {P : Nat → Nat → Nat} {F : Nat → Nat → Int32} {A : Nat → Nat → Nat → Int32} {J : Nat → Nat → Nat → Int64} {x1 : Int32} {x2 : Int32} {x3 : Int32} {x4 : Int32} {x5 : Int32} (hK2 : ∀ (a0 : Nat → Nat → Nat) (a1 : Nat → Nat → Int32) (a2 : Nat → Nat → Nat → Int32) (a3 : Nat → Nat → Nat → Int64) (a4 : Int32) (a5 : Int32), KS F0 a1 → po (K2 a0 a1 a2 a3 a4 a5) (fun r => KS F0 r.2.2.1)) (hK9 : ∀ (a0 : Nat → Nat → Nat) (a1 : Nat → Nat → Int32) (a2 : Nat → Nat → Nat → Int32) (a3 : Nat → Nat → Nat → Int64) (a4 : Int32) (a5 : Int32) (a6 : Int32), KS F0 a1 → po (K9 a0 a1 a2 a3 a4 a5 a6) (fun r => KS F0 r.2.2.1)) (hK30 : ∀ (a0 : Nat → Nat → Nat) (a1 : Nat → Nat → Int32) (a2 : Nat → Nat → Nat → Int32) (a3 : Nat → Nat → Nat → Int64) (a4 : Int32) (a5 : Int32) (a6 : Int32) (a7 : Int32) (a8 : Int32), KS F0 a1 → po (K30 a0 a1 a2 a3 a4 a5 a6 a7 a8) (fun r => KS F0 r.2.2.1)) (h : KS F0 F) : po (e_Ways_joinWays_91 K2 K9 K30 n P F A J x1 x2 x3 x4 x5) (fun r => KS F0 r.2.2.1) := by
  unfold e_Ways_joinWays_91
  repeat' (first
    | with_reducible exact po_some (by assumption)
    | (with_reducible refine ks_pf (by assumption) (by simp) ?_; intro _ _)
    | with_reducible exact hK2 _ _ _ _ _ _ (by assumption)
    | (intros; with_reducible exact hK2 _ _ _ _ _ _ (by assumption))
    | with_reducible exact hK9 _ _ _ _ _ _ _ (by assumption)
    | (intros; with_reducible exact hK9 _ _ _ _ _ _ _ (by assumption))
    | with_reducible exact hK30 _ _ _ _ _ _ _ _ _ (by assumption)
    | (intros; with_reducible exact hK30 _ _ _ _ _ _ _ _ _ (by assumption))
    | with_reducible refine po_cond (fun _ => ?_) (fun _ => ?_)
    | with_reducible refine po_bind_cond (fun _ => ?_) (fun _ => ?_)
    | with_reducible refine po_bl (fun _ _ => ?_))
theorem ks_e_Ways_joinWays_30 {K2 : (Nat → Nat → Nat) → (Nat → Nat → Int32) → (Nat → Nat → Nat → Int32) → (Nat → Nat → Nat → Int64) → Int32 → Int32 → Option (Unit × (Nat → Nat → Nat) × (Nat → Nat → Int32) × (Nat → Nat → Nat → Int32) × (Nat → Nat → Nat → Int64))} {K9 : (Nat → Nat → Nat) → (Nat → Nat → Int32) → (Nat → Nat → Nat → Int32) → (Nat → Nat → Nat → Int64) → Int32 → Int32 → Int32 → Option (Unit × (Nat → Nat → Nat) × (Nat → Nat → Int32) × (Nat → Nat → Nat → Int32) × (Nat → Nat → Nat → Int64))} (hK2 : ∀ (a0 : Nat → Nat → Nat) (a1 : Nat → Nat → Int32) (a2 : Nat → Nat → Nat → Int32) (a3 : Nat → Nat → Nat → Int64) (a4 : Int32) (a5 : Int32), KS F0 a1 → po (K2 a0 a1 a2 a3 a4 a5) (fun r => KS F0 r.2.2.1)) (hK9 : ∀ (a0 : Nat → Nat → Nat) (a1 : Nat → Nat → Int32) (a2 : Nat → Nat → Nat → Int32) (a3 : Nat → Nat → Nat → Int64) (a4 : Int32) (a5 : Int32) (a6 : Int32), KS F0 a1 → po (K9 a0 a1 a2 a3 a4 a5 a6) (fun r => KS F0 r.2.2.1)) : ∀ {n : Nat} {P : Nat → Nat → Nat} {F : Nat → Nat → Int32} {A : Nat → Nat → Nat → Int32} {J : Nat → Nat → Nat → Int64} {x1 : Int32} {x2 : Int32} {x3 : Int32} {x4 : Int32} {x5 : Int32}, KS F0 F → po (e_Ways_joinWays_30 K2 K9 n P F A J x1 x2 x3 x4 x5) (fun r => KS F0 r.2.2.1) := by
  intro n
  induction n with
  | zero => intro P F A J x1 x2 x3 x4 x5 _ r hr; cases hr
  | succ n ih =>
    intro P F A J x1 x2 x3 x4 x5 h
    unfold e_Ways_joinWays_30
    repeat' (first
      | with_reducible exact po_some (by assumption)
      | (with_reducible refine ks_pf (by assumption) (by simp) ?_; intro _ _)
      | with_reducible refine ks_e_Ways_joinWays_97 ?_ ?_ (by assumption)
      | (with_reducible refine po_call (ks_e_Ways_joinWays_97 ?_ ?_ (by assumption)) ?_)
      | with_reducible refine ks_e_Ways_joinWays_91 ?_ ?_ ?_ (by assumption)
      | (with_reducible refine po_call (ks_e_Ways_joinWays_91 ?_ ?_ ?_ (by assumption)) ?_)
      | with_reducible exact hK2 _ _ _ _ _ _ (by assumption)
      | (intros; with_reducible exact hK2 _ _ _ _ _ _ (by assumption))
      | with_reducible exact hK9 _ _ _ _ _ _ _ (by assumption)
      | (intros; with_reducible exact hK9 _ _ _ _ _ _ _ (by assumption))
      | with_reducible exact ih (by assumption)
      | (with_reducible refine po_call (ih (by assumption)) ?_; rintro ⟨_, _, _, _, _⟩ _; try dsimp only)
      | (intros; with_reducible exact ih (by assumption))
      | with_reducible refine po_cond (fun _ => ?_) (fun _ => ?_)
      | with_reducible refine po_bind_cond (fun _ => ?_) (fun _ => ?_)
      | with_reducible refine po_bl (fun _ _ => ?_))
theorem ks_e_Ways_joinWays_9 {K2 : (Nat → Nat → Nat) → (Nat → Nat → Int32) → (Nat → Nat → Nat → Int32) → (Nat → Nat → Nat → Int64) → Int32 → Int32 → Option (Unit × (Nat → Nat → Nat) × (Nat → Nat → Int32) × (Nat → Nat → Nat → Int32) × (Nat → Nat → Nat → Int64))} (hK2 : ∀ (a0 : Nat → Nat → Nat) (a1 : Nat → Nat → Int32) (a2 : Nat → Nat → Nat → Int32) (a3 : Nat → Nat → Nat → Int64) (a4 : Int32) (a5 : Int32), KS F0 a1 → po (K2 a0 a1 a2 a3 a4 a5) (fun r => KS F0 r.2.2.1)) : ∀ {n : Nat} {P : Nat → Nat → Nat} {F : Nat → Nat → Int32} {A : Nat → Nat → Nat → Int32} {J : Nat → Nat → Nat → Int64} {x1 : Int32} {x2 : Int32} {x3 : Int32}, KS F0 F → po (e_Ways_joinWays_9 K2 n P F A J x1 x2 x3) (fun r => KS F0 r.2.2.1) := by
  intro n
  induction n with
  | zero => intro P F A J x1 x2 x3 _ r hr; cases hr
  | succ n ih =>
    intro P F A J x1 x2 x3 h
    unfold e_Ways_joinWays_9
    repeat' (first
      | with_reducible exact po_some (by assumption)
      | (with_reducible refine ks_pf (by assumption) (by simp) ?_; intro _ _)
      | with_reducible refine ks_e_Ways_joinWays_30 ?_ ?_ (by assumption)
      | (with_reducible refine po_call (ks_e_Ways_joinWays_30 ?_ ?_ (by assumption)) ?_)
      | with_reducible exact hK2 _ _ _ _ _ _ (by assumption)
      | (intros; with_reducible exact hK2 _ _ _ _ _ _ (by assumption))
      | with_reducible exact ih (by assumption)
      | (with_reducible refine po_call (ih (by assumption)) ?_; rintro ⟨_, _, _, _, _⟩ _; try dsimp only)
      | (intros; with_reducible exact ih (by assumption))
      | with_reducible refine po_cond (fun _ => ?_) (fun _ => ?_)
      | with_reducible refine po_bind_cond (fun _ => ?_) (fun _ => ?_)
      | with_reducible refine po_bl (fun _ _ => ?_))
theorem ks_e_Ways_joinWays_2   : ∀ {n : Nat} {P : Nat → Nat → Nat} {F : Nat → Nat → Int32} {A : Nat → Nat → Nat → Int32} {J : Nat → Nat → Nat → Int64} {x1 : Int32} {x2 : Int32}, KS F0 F → po (e_Ways_joinWays_2  n P F A J x1 x2) (fun r => KS F0 r.2.2.1) := by
  intro n
  induction n with
  | zero => intro P F A J x1 x2 _ r hr; cases hr
  | succ n ih =>
    intro P F A J x1 x2 h
    unfold e_Ways_joinWays_2
    repeat' (first
      | with_reducible exact po_some (by assumption)
      | (with_reducible refine ks_pf (by assumption) (by simp) ?_; intro _ _)
      | with_reducible refine ks_e_Ways_joinWays_9 ?_ (by assumption)
      | (with_reducible refine po_call (ks_e_Ways_joinWays_9 ?_ (by assumption)) ?_)
      | with_reducible exact ih (by assumption)
      | (with_reducible refine po_call (ih (by assumption)) ?_; rintro ⟨_, _, _, _, _⟩ _; try dsimp only)
      | (intros; with_reducible exact ih (by assumption))
      | with_reducible refine po_cond (fun _ => ?_) (fun _ => ?_)
      | with_reducible refine po_bind_cond (fun _ => ?_) (fun _ => ?_)
      | with_reducible refine po_bl (fun _ _ => ?_))
theorem ks_e_Ways_joinWays {n : Nat} {P : Nat → Nat → Nat} {F : Nat → Nat → Int32} {A : Nat → Nat → Nat → Int32} {J : Nat → Nat → Nat → Int64} {x1 : Int32}  (h : KS F0 F) : po (e_Ways_joinWays n P F A J x1) (fun r => KS F0 r.2.2.1) := by
  unfold e_Ways_joinWays
  repeat' (first
    | with_reducible exact po_some (by assumption)
    | (with_reducible refine ks_pf (by assumption) (by simp) ?_; intro _ _)
    | with_reducible exact ks_e_Ways_joinWays_2 (by assumption)
    | (with_reducible refine po_call (ks_e_Ways_joinWays_2 (by assumption)) ?_; rintro ⟨_, _, _, _, _⟩ _; try dsimp only)
    | with_reducible refine po_cond (fun _ => ?_) (fun _ => ?_)
    | with_reducible refine po_bind_cond (fun _ => ?_) (fun _ => ?_)
    | with_reducible refine po_bl (fun _ _ => ?_))
theorem ks_e_Ways_between {n : Nat} {P : Nat → Nat → Nat} {F : Nat → Nat → Int32} {A : Nat → Nat → Nat → Int32} {J : Nat → Nat → Nat → Int64} {r1 : Nat} {x2 : Int32} {x3 : Int32} {x4 : Int32}  (h : KS F0 F) : po (e_Ways_between n P F A J r1 x2 x3 x4) (fun r => KS F0 r.2.2.1) := by
  unfold e_Ways_between
  repeat' (first
    | with_reducible exact po_some (by assumption)
    | (with_reducible refine ks_pf (by assumption) (by simp) ?_; intro _ _)
    | with_reducible exact ks_e_Ways_between_27 (by assumption)
    | (with_reducible refine po_call (ks_e_Ways_between_27 (by assumption)) ?_; rintro ⟨_, _, _, _, _⟩ _; try dsimp only)
    | with_reducible exact ks_e_Ways_takeDoors (by assumption)
    | (with_reducible refine po_call (ks_e_Ways_takeDoors (by assumption)) ?_; rintro ⟨_, _, _, _, _⟩ _; try dsimp only)
    | with_reducible exact ks_e_Ways_joinWays (by assumption)
    | (with_reducible refine po_call (ks_e_Ways_joinWays (by assumption)) ?_; rintro ⟨_, _, _, _, _⟩ _; try dsimp only)
    | with_reducible refine po_cond (fun _ => ?_) (fun _ => ?_)
    | with_reducible refine po_bind_cond (fun _ => ?_) (fun _ => ?_)
    | with_reducible refine po_bl (fun _ _ => ?_))
theorem ks_e_Evening_minutesBetween {n : Nat} {P : Nat → Nat → Nat} {F : Nat → Nat → Int32} {A : Nat → Nat → Nat → Int32} {J : Nat → Nat → Nat → Int64} {x1 : Int32} {x2 : Int32}  (h : KS F0 F) : po (e_Evening_minutesBetween n P F A J x1 x2) (fun r => KS F0 r.2.2.1) := by
  unfold e_Evening_minutesBetween
  repeat' (first
    | with_reducible exact po_some (by assumption)
    | (with_reducible refine ks_pf (by assumption) (by simp) ?_; intro _ _)
    | with_reducible exact ks_e_Ways_between (by assumption)
    | (with_reducible refine po_call (ks_e_Ways_between (by assumption)) ?_; rintro ⟨_, _, _, _, _⟩ _; try dsimp only)
    | with_reducible refine po_cond (fun _ => ?_) (fun _ => ?_)
    | with_reducible refine po_bind_cond (fun _ => ?_) (fun _ => ?_)
    | with_reducible refine po_bl (fun _ _ => ?_))
theorem ks_e_SleepWork_way {n : Nat} {P : Nat → Nat → Nat} {F : Nat → Nat → Int32} {A : Nat → Nat → Nat → Int32} {J : Nat → Nat → Nat → Int64} {x1 : Int32} {x2 : Int32}  (h : KS F0 F) : po (e_SleepWork_way n P F A J x1 x2) (fun r => KS F0 r.2.2.1) := by
  unfold e_SleepWork_way
  repeat' (first
    | with_reducible exact po_some (by assumption)
    | (with_reducible refine ks_pf (by assumption) (by simp) ?_; intro _ _)
    | with_reducible exact ks_e_Evening_minutesBetween (by assumption)
    | (with_reducible refine po_call (ks_e_Evening_minutesBetween (by assumption)) ?_; rintro ⟨_, _, _, _, _⟩ _; try dsimp only)
    | with_reducible refine po_cond (fun _ => ?_) (fun _ => ?_)
    | with_reducible refine po_bind_cond (fun _ => ?_) (fun _ => ?_)
    | with_reducible refine po_bl (fun _ _ => ?_))
theorem ks_e_Evening_setStale {P : Nat → Nat → Nat} {F : Nat → Nat → Int32} {A : Nat → Nat → Nat → Int32} {J : Nat → Nat → Nat → Int64}  (h : KS F0 F) : po (e_Evening_setStale P F A J) (fun r => KS F0 r.2.2.1) := by
  unfold e_Evening_setStale
  repeat' (first
    | with_reducible exact po_some (by assumption)
    | (with_reducible refine ks_pf (by assumption) (by simp) ?_; intro _ _)
    | with_reducible refine po_cond (fun _ => ?_) (fun _ => ?_)
    | with_reducible refine po_bind_cond (fun _ => ?_) (fun _ => ?_)
    | with_reducible refine po_bl (fun _ _ => ?_))
theorem ks_e_SleepWork_leave_69 {P : Nat → Nat → Nat} {F : Nat → Nat → Int32} {A : Nat → Nat → Nat → Int32} {J : Nat → Nat → Nat → Int64} {s1 : Int32} {s2 : Int32}  (h : KS F0 F) : po (e_SleepWork_leave_69 P F A J s1 s2) (fun r => KS F0 r.2.2.1) := by
  unfold e_SleepWork_leave_69
  repeat' (first
    | with_reducible exact po_some (by assumption)
    | (with_reducible refine ks_pf (by assumption) (by simp) ?_; intro _ _)
    | with_reducible exact ks_e_Evening_setStale (by assumption)
    | (with_reducible refine po_call (ks_e_Evening_setStale (by assumption)) ?_; rintro ⟨_, _, _, _, _⟩ _; try dsimp only)
    | with_reducible refine po_cond (fun _ => ?_) (fun _ => ?_)
    | with_reducible refine po_bind_cond (fun _ => ?_) (fun _ => ?_)
    | with_reducible refine po_bl (fun _ _ => ?_))
theorem ks_e_SleepWork_leave_46 {P : Nat → Nat → Nat} {F : Nat → Nat → Int32} {A : Nat → Nat → Nat → Int32} {J : Nat → Nat → Nat → Int64} {x1 : Int32} {x2 : Int32} {x3 : Int32} {x4 : Int32}  (h : KS F0 F) : po (e_SleepWork_leave_46 P F A J x1 x2 x3 x4) (fun r => KS F0 r.2.2.1) := by
  unfold e_SleepWork_leave_46
  repeat' (first
    | with_reducible exact po_some (by assumption)
    | (with_reducible refine ks_pf (by assumption) (by simp) ?_; intro _ _)
    | with_reducible exact ks_e_SleepWork_leave_69 (by assumption)
    | (with_reducible refine po_call (ks_e_SleepWork_leave_69 (by assumption)) ?_; rintro ⟨_, _, _, _, _⟩ _; try dsimp only)
    | with_reducible refine po_cond (fun _ => ?_) (fun _ => ?_)
    | with_reducible refine po_bind_cond (fun _ => ?_) (fun _ => ?_)
    | with_reducible refine po_bl (fun _ _ => ?_))
theorem ks_e_SleepWork_leave_25 {P : Nat → Nat → Nat} {F : Nat → Nat → Int32} {A : Nat → Nat → Nat → Int32} {J : Nat → Nat → Nat → Int64} {x1 : Int32} {x2 : Int32} {x3 : Int32} {s0 : Int32}  (h : KS F0 F) : po (e_SleepWork_leave_25 P F A J x1 x2 x3 s0) (fun r => KS F0 r.2.2.1) := by
  unfold e_SleepWork_leave_25
  repeat' (first
    | with_reducible exact po_some (by assumption)
    | (with_reducible refine ks_pf (by assumption) (by simp) ?_; intro _ _)
    | with_reducible exact ks_e_SleepWork_leave_46 (by assumption)
    | (with_reducible refine po_call (ks_e_SleepWork_leave_46 (by assumption)) ?_; rintro ⟨_, _, _, _, _⟩ _; try dsimp only)
    | with_reducible refine po_cond (fun _ => ?_) (fun _ => ?_)
    | with_reducible refine po_bind_cond (fun _ => ?_) (fun _ => ?_)
    | with_reducible refine po_bl (fun _ _ => ?_))
theorem ks_e_SleepWork_leave_24 {P : Nat → Nat → Nat} {F : Nat → Nat → Int32} {A : Nat → Nat → Nat → Int32} {J : Nat → Nat → Nat → Int64} {x1 : Int32} {x2 : Int32} {x3 : Int32}  (h : KS F0 F) : po (e_SleepWork_leave_24 P F A J x1 x2 x3) (fun r => KS F0 r.2.2.1) := by
  unfold e_SleepWork_leave_24
  repeat' (first
    | with_reducible exact po_some (by assumption)
    | (with_reducible refine ks_pf (by assumption) (by simp) ?_; intro _ _)
    | with_reducible exact ks_e_SleepWork_leave_25 (by assumption)
    | (with_reducible refine po_call (ks_e_SleepWork_leave_25 (by assumption)) ?_; rintro ⟨_, _, _, _, _⟩ _; try dsimp only)
    | with_reducible refine po_cond (fun _ => ?_) (fun _ => ?_)
    | with_reducible refine po_bind_cond (fun _ => ?_) (fun _ => ?_)
    | with_reducible refine po_bl (fun _ _ => ?_))
theorem ks_e_SleepWork_leave {P : Nat → Nat → Nat} {F : Nat → Nat → Int32} {A : Nat → Nat → Nat → Int32} {J : Nat → Nat → Nat → Int64} {x1 : Int32} {x2 : Int32} {x3 : Int32}  (h : KS F0 F) : po (e_SleepWork_leave P F A J x1 x2 x3) (fun r => KS F0 r.2.2.1) := by
  unfold e_SleepWork_leave
  repeat' (first
    | with_reducible exact po_some (by assumption)
    | (with_reducible refine ks_pf (by assumption) (by simp) ?_; intro _ _)
    | with_reducible exact ks_e_SleepWork_leave_24 (by assumption)
    | (with_reducible refine po_call (ks_e_SleepWork_leave_24 (by assumption)) ?_; rintro ⟨_, _, _, _, _⟩ _; try dsimp only)
    | with_reducible exact ks_e_SleepWork_leave_25 (by assumption)
    | (with_reducible refine po_call (ks_e_SleepWork_leave_25 (by assumption)) ?_; rintro ⟨_, _, _, _, _⟩ _; try dsimp only)
    | with_reducible refine po_cond (fun _ => ?_) (fun _ => ?_)
    | with_reducible refine po_bind_cond (fun _ => ?_) (fun _ => ?_)
    | with_reducible refine po_bl (fun _ _ => ?_))
theorem ks_e_House_finish {P : Nat → Nat → Nat} {F : Nat → Nat → Int32} {A : Nat → Nat → Nat → Int32} {J : Nat → Nat → Nat → Int64} {r0 : Nat} {r1 : Nat} {x2 : Int32} {x3 : Int32}  (h : KS F0 F) : po (e_House_finish P F A J r0 r1 x2 x3) (fun r => KS F0 r.2.2.1) := by
  unfold e_House_finish
  repeat' (first
    | with_reducible exact po_some (by assumption)
    | (with_reducible refine ks_pf (by assumption) (by simp) ?_; intro _ _)
    | with_reducible refine po_cond (fun _ => ?_) (fun _ => ?_)
    | with_reducible refine po_bind_cond (fun _ => ?_) (fun _ => ?_)
    | with_reducible refine po_bl (fun _ _ => ?_))
theorem ks_e_SleepWork_work {P : Nat → Nat → Nat} {F : Nat → Nat → Int32} {A : Nat → Nat → Nat → Int32} {J : Nat → Nat → Nat → Int64} {x1 : Int32} {x2 : Int32}  (h : KS F0 F) : po (e_SleepWork_work P F A J x1 x2) (fun r => KS F0 r.2.2.1) := by
  unfold e_SleepWork_work
  repeat' (first
    | with_reducible exact po_some (by assumption)
    | (with_reducible refine ks_pf (by assumption) (by simp) ?_; intro _ _)
    | with_reducible exact ks_e_House_finish (by assumption)
    | (with_reducible refine po_call (ks_e_House_finish (by assumption)) ?_; rintro ⟨_, _, _, _, _⟩ _; try dsimp only)
    | with_reducible exact ks_e_Evening_setStale (by assumption)
    | (with_reducible refine po_call (ks_e_Evening_setStale (by assumption)) ?_; rintro ⟨_, _, _, _, _⟩ _; try dsimp only)
    | with_reducible refine po_cond (fun _ => ?_) (fun _ => ?_)
    | with_reducible refine po_bind_cond (fun _ => ?_) (fun _ => ?_)
    | with_reducible refine po_bl (fun _ _ => ?_))
theorem ks_e_SleepWork_lay {P : Nat → Nat → Nat} {F : Nat → Nat → Int32} {A : Nat → Nat → Nat → Int32} {J : Nat → Nat → Nat → Int64} {x1 : Int32} {x2 : Int32}  (h : KS F0 F) : po (e_SleepWork_lay P F A J x1 x2) (fun r => KS F0 r.2.2.1) := by
  unfold e_SleepWork_lay
  repeat' (first
    | with_reducible exact po_some (by assumption)
    | (with_reducible refine ks_pf (by assumption) (by simp) ?_; intro _ _)
    | with_reducible exact ks_e_Evening_setStale (by assumption)
    | (with_reducible refine po_call (ks_e_Evening_setStale (by assumption)) ?_; rintro ⟨_, _, _, _, _⟩ _; try dsimp only)
    | with_reducible refine po_cond (fun _ => ?_) (fun _ => ?_)
    | with_reducible refine po_bind_cond (fun _ => ?_) (fun _ => ?_)
    | with_reducible refine po_bl (fun _ _ => ?_))
theorem ks_e_SleepWork_give {P : Nat → Nat → Nat} {F : Nat → Nat → Int32} {A : Nat → Nat → Nat → Int32} {J : Nat → Nat → Nat → Int64} {x1 : Int32} {x2 : Int32}  (h : KS F0 F) : po (e_SleepWork_give P F A J x1 x2) (fun r => KS F0 r.2.2.1) := by
  unfold e_SleepWork_give
  repeat' (first
    | with_reducible exact po_some (by assumption)
    | (with_reducible refine ks_pf (by assumption) (by simp) ?_; intro _ _)
    | with_reducible exact ks_e_Evening_setStale (by assumption)
    | (with_reducible refine po_call (ks_e_Evening_setStale (by assumption)) ?_; rintro ⟨_, _, _, _, _⟩ _; try dsimp only)
    | with_reducible refine po_cond (fun _ => ?_) (fun _ => ?_)
    | with_reducible refine po_bind_cond (fun _ => ?_) (fun _ => ?_)
    | with_reducible refine po_bl (fun _ _ => ?_))
theorem ks_e_SleepWork_bar_52 {P : Nat → Nat → Nat} {F : Nat → Nat → Int32} {A : Nat → Nat → Nat → Int32} {J : Nat → Nat → Nat → Int64} {rs0 : Nat} {s1 : Int32}  (h : KS F0 F) : po (e_SleepWork_bar_52 P F A J rs0 s1) (fun r => KS F0 r.2.2.1) := by
  unfold e_SleepWork_bar_52
  repeat' (first
    | with_reducible exact po_some (by assumption)
    | (with_reducible refine ks_pf (by assumption) (by simp) ?_; intro _ _)
    | with_reducible exact ks_e_Evening_setStale (by assumption)
    | (with_reducible refine po_call (ks_e_Evening_setStale (by assumption)) ?_; rintro ⟨_, _, _, _, _⟩ _; try dsimp only)
    | with_reducible refine po_cond (fun _ => ?_) (fun _ => ?_)
    | with_reducible refine po_bind_cond (fun _ => ?_) (fun _ => ?_)
    | with_reducible refine po_bl (fun _ _ => ?_))
theorem ks_e_SleepWork_bar {P : Nat → Nat → Nat} {F : Nat → Nat → Int32} {A : Nat → Nat → Nat → Int32} {J : Nat → Nat → Nat → Int64} {x1 : Int32} {x2 : Int32}  (h : KS F0 F) : po (e_SleepWork_bar P F A J x1 x2) (fun r => KS F0 r.2.2.1) := by
  unfold e_SleepWork_bar
  repeat' (first
    | with_reducible exact po_some (by assumption)
    | (with_reducible refine ks_pf (by assumption) (by simp) ?_; intro _ _)
    | with_reducible exact ks_e_SleepWork_bar_52 (by assumption)
    | (with_reducible refine po_call (ks_e_SleepWork_bar_52 (by assumption)) ?_; rintro ⟨_, _, _, _, _⟩ _; try dsimp only)
    | with_reducible refine po_cond (fun _ => ?_) (fun _ => ?_)
    | with_reducible refine po_bind_cond (fun _ => ?_) (fun _ => ?_)
    | with_reducible refine po_bl (fun _ _ => ?_))
theorem ks_e_State_copy {P : Nat → Nat → Nat} {F : Nat → Nat → Int32} {A : Nat → Nat → Nat → Int32} {J : Nat → Nat → Nat → Int64} {r0 : Nat} {r1 : Nat}  (h : KS F0 F) : po (e_State_copy P F A J r0 r1) (fun r => KS F0 r.2.2.1) := by
  unfold e_State_copy
  repeat' (first
    | with_reducible exact po_some (by assumption)
    | (with_reducible refine ks_pf (by assumption) (by simp) ?_; intro _ _)
    | with_reducible refine po_cond (fun _ => ?_) (fun _ => ?_)
    | with_reducible refine po_bind_cond (fun _ => ?_) (fun _ => ?_)
    | with_reducible refine po_bl (fun _ _ => ?_))
theorem ks_e_Sleep_getUp_145 {K2 : (Nat → Nat → Nat) → (Nat → Nat → Int32) → (Nat → Nat → Nat → Int32) → (Nat → Nat → Nat → Int64) → Int32 → Option (Unit × (Nat → Nat → Nat) × (Nat → Nat → Int32) × (Nat → Nat → Nat → Int32) × (Nat → Nat → Nat → Int64))} {n : Nat} {P : Nat → Nat → Nat} {F : Nat → Nat → Int32} {A : Nat → Nat → Nat → Int32} {J : Nat → Nat → Nat → Int64} {x1 : Int32} (hK2 : ∀ (a0 : Nat → Nat → Nat) (a1 : Nat → Nat → Int32) (a2 : Nat → Nat → Nat → Int32) (a3 : Nat → Nat → Nat → Int64) (a4 : Int32), KS F0 a1 → po (K2 a0 a1 a2 a3 a4) (fun r => KS F0 r.2.2.1)) (h : KS F0 F) : po (e_Sleep_getUp_145 K2 n P F A J x1) (fun r => KS F0 r.2.2.1) := by
  unfold e_Sleep_getUp_145
  repeat' (first
    | with_reducible exact po_some (by assumption)
    | (with_reducible refine ks_pf (by assumption) (by simp) ?_; intro _ _)
    | with_reducible exact hK2 _ _ _ _ _ (by assumption)
    | (intros; with_reducible exact hK2 _ _ _ _ _ (by assumption))
    | with_reducible refine po_cond (fun _ => ?_) (fun _ => ?_)
    | with_reducible refine po_bind_cond (fun _ => ?_) (fun _ => ?_)
    | with_reducible refine po_bl (fun _ _ => ?_))
theorem ks_e_Sleep_getUp_2   : ∀ {n : Nat} {P : Nat → Nat → Nat} {F : Nat → Nat → Int32} {A : Nat → Nat → Nat → Int32} {J : Nat → Nat → Nat → Int64} {x1 : Int32}, KS F0 F → po (e_Sleep_getUp_2  n P F A J x1) (fun r => KS F0 r.2.2.1) := by
  intro n
  induction n with
  | zero => intro P F A J x1 _ r hr; cases hr
  | succ n ih =>
    intro P F A J x1 h
    unfold e_Sleep_getUp_2
    repeat' (first
      | with_reducible exact po_some (by assumption)
      | (with_reducible refine ks_pf (by assumption) (by simp) ?_; intro _ _)
      | with_reducible refine ks_e_Sleep_getUp_145 ?_ (by assumption)
      | (with_reducible refine po_call (ks_e_Sleep_getUp_145 ?_ (by assumption)) ?_)
      | with_reducible exact ks_e_Ways_between (by assumption)
      | (with_reducible refine po_call (ks_e_Ways_between (by assumption)) ?_; rintro ⟨_, _, _, _, _⟩ _; try dsimp only)
      | with_reducible exact ih (by assumption)
      | (with_reducible refine po_call (ih (by assumption)) ?_; rintro ⟨_, _, _, _, _⟩ _; try dsimp only)
      | (intros; with_reducible exact ih (by assumption))
      | with_reducible refine po_cond (fun _ => ?_) (fun _ => ?_)
      | with_reducible refine po_bind_cond (fun _ => ?_) (fun _ => ?_)
      | with_reducible refine po_bl (fun _ _ => ?_))
theorem ks_e_Sleep_getUp {n : Nat} {P : Nat → Nat → Nat} {F : Nat → Nat → Int32} {A : Nat → Nat → Nat → Int32} {J : Nat → Nat → Nat → Int64}  (h : KS F0 F) : po (e_Sleep_getUp n P F A J) (fun r => KS F0 r.2.2.1) := by
  unfold e_Sleep_getUp
  repeat' (first
    | with_reducible exact po_some (by assumption)
    | (with_reducible refine ks_pf (by assumption) (by simp) ?_; intro _ _)
    | with_reducible exact ks_e_Sleep_getUp_2 (by assumption)
    | (with_reducible refine po_call (ks_e_Sleep_getUp_2 (by assumption)) ?_; rintro ⟨_, _, _, _, _⟩ _; try dsimp only)
    | with_reducible refine po_cond (fun _ => ?_) (fun _ => ?_)
    | with_reducible refine po_bind_cond (fun _ => ?_) (fun _ => ?_)
    | with_reducible refine po_bl (fun _ _ => ?_))
theorem ks_e_Sleep_nextMinute_5   : ∀ {n : Nat} {P : Nat → Nat → Nat} {F : Nat → Nat → Int32} {A : Nat → Nat → Nat → Int32} {J : Nat → Nat → Nat → Int64} {x1 : Int32} {x2 : Int32}, KS F0 F → po (e_Sleep_nextMinute_5  n P F A J x1 x2) (fun r => KS F0 r.2.2.1) := by
  intro n
  induction n with
  | zero => intro P F A J x1 x2 _ r hr; cases hr
  | succ n ih =>
    intro P F A J x1 x2 h
    unfold e_Sleep_nextMinute_5
    repeat' (first
      | with_reducible exact po_some (by assumption)
      | (with_reducible refine ks_pf (by assumption) (by simp) ?_; intro _ _)
      | with_reducible exact ih (by assumption)
      | (with_reducible refine po_call (ih (by assumption)) ?_; rintro ⟨_, _, _, _, _⟩ _; try dsimp only)
      | (intros; with_reducible exact ih (by assumption))
      | with_reducible refine po_cond (fun _ => ?_) (fun _ => ?_)
      | with_reducible refine po_bind_cond (fun _ => ?_) (fun _ => ?_)
      | with_reducible refine po_bl (fun _ _ => ?_))
theorem ks_e_Sleep_nextMinute {n : Nat} {P : Nat → Nat → Nat} {F : Nat → Nat → Int32} {A : Nat → Nat → Nat → Int32} {J : Nat → Nat → Nat → Int64}  (h : KS F0 F) : po (e_Sleep_nextMinute n P F A J) (fun r => KS F0 r.2.2.1) := by
  unfold e_Sleep_nextMinute
  repeat' (first
    | with_reducible exact po_some (by assumption)
    | (with_reducible refine ks_pf (by assumption) (by simp) ?_; intro _ _)
    | with_reducible exact ks_e_Sleep_nextMinute_5 (by assumption)
    | (with_reducible refine po_call (ks_e_Sleep_nextMinute_5 (by assumption)) ?_; rintro ⟨_, _, _, _, _⟩ _; try dsimp only)
    | with_reducible refine po_cond (fun _ => ?_) (fun _ => ?_)
    | with_reducible refine po_bind_cond (fun _ => ?_) (fun _ => ?_)
    | with_reducible refine po_bl (fun _ _ => ?_))
theorem ks_e_Sleep_wakeUp_99 {K2 : (Nat → Nat → Nat) → (Nat → Nat → Int32) → (Nat → Nat → Nat → Int32) → (Nat → Nat → Nat → Int64) → Int32 → Option (Unit × (Nat → Nat → Nat) × (Nat → Nat → Int32) × (Nat → Nat → Nat → Int32) × (Nat → Nat → Nat → Int64))} {n : Nat} {P : Nat → Nat → Nat} {F : Nat → Nat → Int32} {A : Nat → Nat → Nat → Int32} {J : Nat → Nat → Nat → Int64} {x1 : Int32} (hK2 : ∀ (a0 : Nat → Nat → Nat) (a1 : Nat → Nat → Int32) (a2 : Nat → Nat → Nat → Int32) (a3 : Nat → Nat → Nat → Int64) (a4 : Int32), KS F0 a1 → po (K2 a0 a1 a2 a3 a4) (fun r => KS F0 r.2.2.1)) (h : KS F0 F) : po (e_Sleep_wakeUp_99 K2 n P F A J x1) (fun r => KS F0 r.2.2.1) := by
  unfold e_Sleep_wakeUp_99
  repeat' (first
    | with_reducible exact po_some (by assumption)
    | (with_reducible refine ks_pf (by assumption) (by simp) ?_; intro _ _)
    | with_reducible exact hK2 _ _ _ _ _ (by assumption)
    | (intros; with_reducible exact hK2 _ _ _ _ _ (by assumption))
    | with_reducible refine po_cond (fun _ => ?_) (fun _ => ?_)
    | with_reducible refine po_bind_cond (fun _ => ?_) (fun _ => ?_)
    | with_reducible refine po_bl (fun _ _ => ?_))
theorem ks_e_Sleep_wakeUp_98 {K2 : (Nat → Nat → Nat) → (Nat → Nat → Int32) → (Nat → Nat → Nat → Int32) → (Nat → Nat → Nat → Int64) → Int32 → Option (Unit × (Nat → Nat → Nat) × (Nat → Nat → Int32) × (Nat → Nat → Nat → Int32) × (Nat → Nat → Nat → Int64))} {n : Nat} {P : Nat → Nat → Nat} {F : Nat → Nat → Int32} {A : Nat → Nat → Nat → Int32} {J : Nat → Nat → Nat → Int64} {x1 : Int32} {rs0 : Nat} {s1 : Int32} {s2 : Int32} (hK2 : ∀ (a0 : Nat → Nat → Nat) (a1 : Nat → Nat → Int32) (a2 : Nat → Nat → Nat → Int32) (a3 : Nat → Nat → Nat → Int64) (a4 : Int32), KS F0 a1 → po (K2 a0 a1 a2 a3 a4) (fun r => KS F0 r.2.2.1)) (h : KS F0 F) : po (e_Sleep_wakeUp_98 K2 n P F A J x1 rs0 s1 s2) (fun r => KS F0 r.2.2.1) := by
  unfold e_Sleep_wakeUp_98
  repeat' (first
    | with_reducible exact po_some (by assumption)
    | (with_reducible refine ks_pf (by assumption) (by simp) ?_; intro _ _)
    | with_reducible exact hK2 _ _ _ _ _ (by assumption)
    | (intros; with_reducible exact hK2 _ _ _ _ _ (by assumption))
    | with_reducible refine po_cond (fun _ => ?_) (fun _ => ?_)
    | with_reducible refine po_bind_cond (fun _ => ?_) (fun _ => ?_)
    | with_reducible refine po_bl (fun _ _ => ?_))
theorem ks_e_Sleep_wakeUp_2   : ∀ {n : Nat} {P : Nat → Nat → Nat} {F : Nat → Nat → Int32} {A : Nat → Nat → Nat → Int32} {J : Nat → Nat → Nat → Int64} {x1 : Int32}, KS F0 F → po (e_Sleep_wakeUp_2  n P F A J x1) (fun r => KS F0 r.2.2.1) := by
  intro n
  induction n with
  | zero => intro P F A J x1 _ r hr; cases hr
  | succ n ih =>
    intro P F A J x1 h
    unfold e_Sleep_wakeUp_2
    repeat' (first
      | with_reducible exact po_some (by assumption)
      | (with_reducible refine ks_pf (by assumption) (by simp) ?_; intro _ _)
      | with_reducible refine ks_e_Sleep_wakeUp_99 ?_ (by assumption)
      | (with_reducible refine po_call (ks_e_Sleep_wakeUp_99 ?_ (by assumption)) ?_)
      | with_reducible refine ks_e_Sleep_wakeUp_98 ?_ (by assumption)
      | (with_reducible refine po_call (ks_e_Sleep_wakeUp_98 ?_ (by assumption)) ?_)
      | with_reducible exact ih (by assumption)
      | (with_reducible refine po_call (ih (by assumption)) ?_; rintro ⟨_, _, _, _, _⟩ _; try dsimp only)
      | (intros; with_reducible exact ih (by assumption))
      | with_reducible refine po_cond (fun _ => ?_) (fun _ => ?_)
      | with_reducible refine po_bind_cond (fun _ => ?_) (fun _ => ?_)
      | with_reducible refine po_bl (fun _ _ => ?_))
theorem ks_e_Sleep_wakeUp {n : Nat} {P : Nat → Nat → Nat} {F : Nat → Nat → Int32} {A : Nat → Nat → Nat → Int32} {J : Nat → Nat → Nat → Int64}  (h : KS F0 F) : po (e_Sleep_wakeUp n P F A J) (fun r => KS F0 r.2.2.1) := by
  unfold e_Sleep_wakeUp
  repeat' (first
    | with_reducible exact po_some (by assumption)
    | (with_reducible refine ks_pf (by assumption) (by simp) ?_; intro _ _)
    | with_reducible exact ks_e_Sleep_wakeUp_2 (by assumption)
    | (with_reducible refine po_call (ks_e_Sleep_wakeUp_2 (by assumption)) ?_; rintro ⟨_, _, _, _, _⟩ _; try dsimp only)
    | with_reducible refine po_cond (fun _ => ?_) (fun _ => ?_)
    | with_reducible refine po_bind_cond (fun _ => ?_) (fun _ => ?_)
    | with_reducible refine po_bl (fun _ _ => ?_))
theorem ks_e_Sleep_goTill_119 {n : Nat} {P : Nat → Nat → Nat} {F : Nat → Nat → Int32} {A : Nat → Nat → Nat → Int32} {J : Nat → Nat → Nat → Int64}  (h : KS F0 F) : po (e_Sleep_goTill_119 n P F A J) (fun r => KS F0 r.2.2.1) := by
  unfold e_Sleep_goTill_119
  repeat' (first
    | with_reducible exact po_some (by assumption)
    | (with_reducible refine ks_pf (by assumption) (by simp) ?_; intro _ _)
    | with_reducible exact ks_e_Sleep_wakeUp (by assumption)
    | (with_reducible refine po_call (ks_e_Sleep_wakeUp (by assumption)) ?_; rintro ⟨_, _, _, _, _⟩ _; try dsimp only)
    | with_reducible refine po_cond (fun _ => ?_) (fun _ => ?_)
    | with_reducible refine po_bind_cond (fun _ => ?_) (fun _ => ?_)
    | with_reducible refine po_bl (fun _ _ => ?_))
theorem ks_e_Sleep_finishAll_122 {K2 : (Nat → Nat → Nat) → (Nat → Nat → Int32) → (Nat → Nat → Nat → Int32) → (Nat → Nat → Nat → Int64) → Int32 → Int32 → Option (Unit × (Nat → Nat → Nat) × (Nat → Nat → Int32) × (Nat → Nat → Nat → Int32) × (Nat → Nat → Nat → Int64))} {n : Nat} {P : Nat → Nat → Nat} {F : Nat → Nat → Int32} {A : Nat → Nat → Nat → Int32} {J : Nat → Nat → Nat → Int64} {x1 : Int32} {x2 : Int32} (hK2 : ∀ (a0 : Nat → Nat → Nat) (a1 : Nat → Nat → Int32) (a2 : Nat → Nat → Nat → Int32) (a3 : Nat → Nat → Nat → Int64) (a4 : Int32) (a5 : Int32), KS F0 a1 → po (K2 a0 a1 a2 a3 a4 a5) (fun r => KS F0 r.2.2.1)) (h : KS F0 F) : po (e_Sleep_finishAll_122 K2 n P F A J x1 x2) (fun r => KS F0 r.2.2.1) := by
  unfold e_Sleep_finishAll_122
  repeat' (first
    | with_reducible exact po_some (by assumption)
    | (with_reducible refine ks_pf (by assumption) (by simp) ?_; intro _ _)
    | with_reducible exact hK2 _ _ _ _ _ _ (by assumption)
    | (intros; with_reducible exact hK2 _ _ _ _ _ _ (by assumption))
    | with_reducible refine po_cond (fun _ => ?_) (fun _ => ?_)
    | with_reducible refine po_bind_cond (fun _ => ?_) (fun _ => ?_)
    | with_reducible refine po_bl (fun _ _ => ?_))
theorem ks_e_Sleep_finishAll_97 {K2 : (Nat → Nat → Nat) → (Nat → Nat → Int32) → (Nat → Nat → Nat → Int32) → (Nat → Nat → Nat → Int64) → Int32 → Int32 → Option (Unit × (Nat → Nat → Nat) × (Nat → Nat → Int32) × (Nat → Nat → Nat → Int32) × (Nat → Nat → Nat → Int64))} {n : Nat} {P : Nat → Nat → Nat} {F : Nat → Nat → Int32} {A : Nat → Nat → Nat → Int32} {J : Nat → Nat → Nat → Int64} {x1 : Int32} {x2 : Int32} {x4 : Int32} (hK2 : ∀ (a0 : Nat → Nat → Nat) (a1 : Nat → Nat → Int32) (a2 : Nat → Nat → Nat → Int32) (a3 : Nat → Nat → Nat → Int64) (a4 : Int32) (a5 : Int32), KS F0 a1 → po (K2 a0 a1 a2 a3 a4 a5) (fun r => KS F0 r.2.2.1)) (h : KS F0 F) : po (e_Sleep_finishAll_97 K2 n P F A J x1 x2 x4) (fun r => KS F0 r.2.2.1) := by
  unfold e_Sleep_finishAll_97
  repeat' (first
    | with_reducible exact po_some (by assumption)
    | (with_reducible refine ks_pf (by assumption) (by simp) ?_; intro _ _)
    | with_reducible exact hK2 _ _ _ _ _ _ (by assumption)
    | (intros; with_reducible exact hK2 _ _ _ _ _ _ (by assumption))
    | with_reducible refine po_cond (fun _ => ?_) (fun _ => ?_)
    | with_reducible refine po_bind_cond (fun _ => ?_) (fun _ => ?_)
    | with_reducible refine po_bl (fun _ _ => ?_))
theorem ks_e_Sleep_finishAll_2   : ∀ {n : Nat} {P : Nat → Nat → Nat} {F : Nat → Nat → Int32} {A : Nat → Nat → Nat → Int32} {J : Nat → Nat → Nat → Int64} {x1 : Int32} {x2 : Int32}, KS F0 F → po (e_Sleep_finishAll_2  n P F A J x1 x2) (fun r => KS F0 r.2.2.1) := by
  intro n
  induction n with
  | zero => intro P F A J x1 x2 _ r hr; cases hr
  | succ n ih =>
    intro P F A J x1 x2 h
    unfold e_Sleep_finishAll_2
    repeat' (first
      | with_reducible exact po_some (by assumption)
      | (with_reducible refine ks_pf (by assumption) (by simp) ?_; intro _ _)
      | with_reducible refine ks_e_Sleep_finishAll_122 ?_ (by assumption)
      | (with_reducible refine po_call (ks_e_Sleep_finishAll_122 ?_ (by assumption)) ?_)
      | with_reducible exact ks_e_House_finish (by assumption)
      | (with_reducible refine po_call (ks_e_House_finish (by assumption)) ?_; rintro ⟨_, _, _, _, _⟩ _; try dsimp only)
      | with_reducible refine ks_e_Sleep_finishAll_97 ?_ (by assumption)
      | (with_reducible refine po_call (ks_e_Sleep_finishAll_97 ?_ (by assumption)) ?_)
      | with_reducible exact ih (by assumption)
      | (with_reducible refine po_call (ih (by assumption)) ?_; rintro ⟨_, _, _, _, _⟩ _; try dsimp only)
      | (intros; with_reducible exact ih (by assumption))
      | with_reducible refine po_cond (fun _ => ?_) (fun _ => ?_)
      | with_reducible refine po_bind_cond (fun _ => ?_) (fun _ => ?_)
      | with_reducible refine po_bl (fun _ _ => ?_))
theorem ks_e_Sleep_finishAll {n : Nat} {P : Nat → Nat → Nat} {F : Nat → Nat → Int32} {A : Nat → Nat → Nat → Int32} {J : Nat → Nat → Nat → Int64} {x1 : Int32}  (h : KS F0 F) : po (e_Sleep_finishAll n P F A J x1) (fun r => KS F0 r.2.2.1) := by
  unfold e_Sleep_finishAll
  repeat' (first
    | with_reducible exact po_some (by assumption)
    | (with_reducible refine ks_pf (by assumption) (by simp) ?_; intro _ _)
    | with_reducible exact ks_e_Sleep_finishAll_2 (by assumption)
    | (with_reducible refine po_call (ks_e_Sleep_finishAll_2 (by assumption)) ?_; rintro ⟨_, _, _, _, _⟩ _; try dsimp only)
    | with_reducible refine po_cond (fun _ => ?_) (fun _ => ?_)
    | with_reducible refine po_bind_cond (fun _ => ?_) (fun _ => ?_)
    | with_reducible refine po_bl (fun _ _ => ?_))
theorem ks_e_Sleep_goTill_111 {K31 : (Nat → Nat → Nat) → (Nat → Nat → Int32) → (Nat → Nat → Nat → Int32) → (Nat → Nat → Nat → Int64) → Int32 → Int32 → Int32 → Option (Unit × (Nat → Nat → Nat) × (Nat → Nat → Int32) × (Nat → Nat → Nat → Int32) × (Nat → Nat → Nat → Int64))} {n : Nat} {P : Nat → Nat → Nat} {F : Nat → Nat → Int32} {A : Nat → Nat → Nat → Int32} {J : Nat → Nat → Nat → Int64} {x1 : Int32} {x5 : Int32} {s0 : Int32} (hK31 : ∀ (a0 : Nat → Nat → Nat) (a1 : Nat → Nat → Int32) (a2 : Nat → Nat → Nat → Int32) (a3 : Nat → Nat → Nat → Int64) (a4 : Int32) (a5 : Int32) (a6 : Int32), KS F0 a1 → po (K31 a0 a1 a2 a3 a4 a5 a6) (fun r => KS F0 r.2.2.1)) (h : KS F0 F) : po (e_Sleep_goTill_111 K31 n P F A J x1 x5 s0) (fun r => KS F0 r.2.2.1) := by
  unfold e_Sleep_goTill_111
  repeat' (first
    | with_reducible exact po_some (by assumption)
    | (with_reducible refine ks_pf (by assumption) (by simp) ?_; intro _ _)
    | with_reducible exact hK31 _ _ _ _ _ _ _ (by assumption)
    | (intros; with_reducible exact hK31 _ _ _ _ _ _ _ (by assumption))
    | with_reducible refine po_cond (fun _ => ?_) (fun _ => ?_)
    | with_reducible refine po_bind_cond (fun _ => ?_) (fun _ => ?_)
    | with_reducible refine po_bl (fun _ _ => ?_))
theorem ks_e_Sleep_goTill_96 {K31 : (Nat → Nat → Nat) → (Nat → Nat → Int32) → (Nat → Nat → Nat → Int32) → (Nat → Nat → Nat → Int64) → Int32 → Int32 → Int32 → Option (Unit × (Nat → Nat → Nat) × (Nat → Nat → Int32) × (Nat → Nat → Nat → Int32) × (Nat → Nat → Nat → Int64))} {n : Nat} {P : Nat → Nat → Nat} {F : Nat → Nat → Int32} {A : Nat → Nat → Nat → Int32} {J : Nat → Nat → Nat → Int64} {x1 : Int32} {x4 : Int32} {x5 : Int32} (hK31 : ∀ (a0 : Nat → Nat → Nat) (a1 : Nat → Nat → Int32) (a2 : Nat → Nat → Nat → Int32) (a3 : Nat → Nat → Nat → Int64) (a4 : Int32) (a5 : Int32) (a6 : Int32), KS F0 a1 → po (K31 a0 a1 a2 a3 a4 a5 a6) (fun r => KS F0 r.2.2.1)) (h : KS F0 F) : po (e_Sleep_goTill_96 K31 n P F A J x1 x4 x5) (fun r => KS F0 r.2.2.1) := by
  unfold e_Sleep_goTill_96
  repeat' (first
    | with_reducible exact po_some (by assumption)
    | (with_reducible refine ks_pf (by assumption) (by simp) ?_; intro _ _)
    | with_reducible refine ks_e_Sleep_goTill_111 ?_ (by assumption)
    | (with_reducible refine po_call (ks_e_Sleep_goTill_111 ?_ (by assumption)) ?_)
    | with_reducible exact ks_e_Sleep_nextMinute (by assumption)
    | (with_reducible refine po_call (ks_e_Sleep_nextMinute (by assumption)) ?_; rintro ⟨_, _, _, _, _⟩ _; try dsimp only)
    | with_reducible exact hK31 _ _ _ _ _ _ _ (by assumption)
    | (intros; with_reducible exact hK31 _ _ _ _ _ _ _ (by assumption))
    | with_reducible refine po_cond (fun _ => ?_) (fun _ => ?_)
    | with_reducible refine po_bind_cond (fun _ => ?_) (fun _ => ?_)
    | with_reducible refine po_bl (fun _ _ => ?_))
theorem ks_e_Sleep_goTill_90 {K31 : (Nat → Nat → Nat) → (Nat → Nat → Int32) → (Nat → Nat → Nat → Int32) → (Nat → Nat → Nat → Int64) → Int32 → Int32 → Int32 → Option (Unit × (Nat → Nat → Nat) × (Nat → Nat → Int32) × (Nat → Nat → Nat → Int32) × (Nat → Nat → Nat → Int64))} {K52 : (Nat → Nat → Nat) → (Nat → Nat → Int32) → (Nat → Nat → Nat → Int32) → (Nat → Nat → Nat → Int64) → Int32 → Int32 → Int32 → Int32 → Option (Unit × (Nat → Nat → Nat) × (Nat → Nat → Int32) × (Nat → Nat → Nat → Int32) × (Nat → Nat → Nat → Int64))} {n : Nat} {P : Nat → Nat → Nat} {F : Nat → Nat → Int32} {A : Nat → Nat → Nat → Int32} {J : Nat → Nat → Nat → Int64} {x1 : Int32} {x4 : Int32} {x5 : Int32} {x6 : Int32} (hK31 : ∀ (a0 : Nat → Nat → Nat) (a1 : Nat → Nat → Int32) (a2 : Nat → Nat → Nat → Int32) (a3 : Nat → Nat → Nat → Int64) (a4 : Int32) (a5 : Int32) (a6 : Int32), KS F0 a1 → po (K31 a0 a1 a2 a3 a4 a5 a6) (fun r => KS F0 r.2.2.1)) (hK52 : ∀ (a0 : Nat → Nat → Nat) (a1 : Nat → Nat → Int32) (a2 : Nat → Nat → Nat → Int32) (a3 : Nat → Nat → Nat → Int64) (a4 : Int32) (a5 : Int32) (a6 : Int32) (a7 : Int32), KS F0 a1 → po (K52 a0 a1 a2 a3 a4 a5 a6 a7) (fun r => KS F0 r.2.2.1)) (h : KS F0 F) : po (e_Sleep_goTill_90 K31 K52 n P F A J x1 x4 x5 x6) (fun r => KS F0 r.2.2.1) := by
  unfold e_Sleep_goTill_90
  repeat' (first
    | with_reducible exact po_some (by assumption)
    | (with_reducible refine ks_pf (by assumption) (by simp) ?_; intro _ _)
    | with_reducible exact hK31 _ _ _ _ _ _ _ (by assumption)
    | (intros; with_reducible exact hK31 _ _ _ _ _ _ _ (by assumption))
    | with_reducible exact hK52 _ _ _ _ _ _ _ _ (by assumption)
    | (intros; with_reducible exact hK52 _ _ _ _ _ _ _ _ (by assumption))
    | with_reducible refine po_cond (fun _ => ?_) (fun _ => ?_)
    | with_reducible refine po_bind_cond (fun _ => ?_) (fun _ => ?_)
    | with_reducible refine po_bl (fun _ _ => ?_))
theorem ks_e_Sleep_lieDown {P : Nat → Nat → Nat} {F : Nat → Nat → Int32} {A : Nat → Nat → Nat → Int32} {J : Nat → Nat → Nat → Int64} {x1 : Int32} {x2 : Int32}  (h : KS F0 F) : po (e_Sleep_lieDown P F A J x1 x2) (fun r => KS F0 r.2.2.1) := by
  unfold e_Sleep_lieDown
  repeat' (first
    | with_reducible exact po_some (by assumption)
    | (with_reducible refine ks_pf (by assumption) (by simp) ?_; intro _ _)
    | with_reducible refine po_cond (fun _ => ?_) (fun _ => ?_)
    | with_reducible refine po_bind_cond (fun _ => ?_) (fun _ => ?_)
    | with_reducible refine po_bl (fun _ _ => ?_))
theorem ks_e_Sleep_begin_59 {n : Nat} {P : Nat → Nat → Nat} {F : Nat → Nat → Int32} {A : Nat → Nat → Nat → Int32} {J : Nat → Nat → Nat → Int64} {x1 : Int32} {x2 : Int32} {s1 : Int32} {s2 : Int32}  (h : KS F0 F) : po (e_Sleep_begin_59 n P F A J x1 x2 s1 s2) (fun r => KS F0 r.2.2.1) := by
  unfold e_Sleep_begin_59
  repeat' (first
    | with_reducible exact po_some (by assumption)
    | (with_reducible refine ks_pf (by assumption) (by simp) ?_; intro _ _)
    | with_reducible exact ks_e_Sleep_lieDown (by assumption)
    | (with_reducible refine po_call (ks_e_Sleep_lieDown (by assumption)) ?_; rintro ⟨_, _, _, _, _⟩ _; try dsimp only)
    | with_reducible refine po_cond (fun _ => ?_) (fun _ => ?_)
    | with_reducible refine po_bind_cond (fun _ => ?_) (fun _ => ?_)
    | with_reducible refine po_bl (fun _ _ => ?_))
theorem ks_e_Sleep_begin_44 {n : Nat} {P : Nat → Nat → Nat} {F : Nat → Nat → Int32} {A : Nat → Nat → Nat → Int32} {J : Nat → Nat → Nat → Int64} {x1 : Int32} {x2 : Int32} {x4 : Int32}  (h : KS F0 F) : po (e_Sleep_begin_44 n P F A J x1 x2 x4) (fun r => KS F0 r.2.2.1) := by
  unfold e_Sleep_begin_44
  repeat' (first
    | with_reducible exact po_some (by assumption)
    | (with_reducible refine ks_pf (by assumption) (by simp) ?_; intro _ _)
    | with_reducible exact ks_e_Sleep_begin_59 (by assumption)
    | (with_reducible refine po_call (ks_e_Sleep_begin_59 (by assumption)) ?_; rintro ⟨_, _, _, _, _⟩ _; try dsimp only)
    | with_reducible refine po_cond (fun _ => ?_) (fun _ => ?_)
    | with_reducible refine po_bind_cond (fun _ => ?_) (fun _ => ?_)
    | with_reducible refine po_bl (fun _ _ => ?_))
theorem ks_e_Laws_tellsTo_233 {n : Nat} {P : Nat → Nat → Nat} {F : Nat → Nat → Int32} {A : Nat → Nat → Nat → Int32} {J : Nat → Nat → Nat → Int64} {r0 : Nat}  (h : KS F0 F) : po (e_Laws_tellsTo_233 n P F A J r0) (fun r => KS F0 r.2.2.1) := by
  unfold e_Laws_tellsTo_233
  repeat' (first
    | with_reducible exact po_some (by assumption)
    | (with_reducible refine ks_pf (by assumption) (by simp) ?_; intro _ _)
    | with_reducible refine po_cond (fun _ => ?_) (fun _ => ?_)
    | with_reducible refine po_bind_cond (fun _ => ?_) (fun _ => ?_)
    | with_reducible refine po_bl (fun _ _ => ?_))
theorem ks_e_Laws_tellsTo_227 {K13 : (Nat → Nat → Nat) → (Nat → Nat → Int32) → (Nat → Nat → Nat → Int32) → (Nat → Nat → Nat → Int64) → Nat → Int32 → Int32 → Int32 → Option (Int32 × (Nat → Nat → Nat) × (Nat → Nat → Int32) × (Nat → Nat → Nat → Int32) × (Nat → Nat → Nat → Int64))} {n : Nat} {P : Nat → Nat → Nat} {F : Nat → Nat → Int32} {A : Nat → Nat → Nat → Int32} {J : Nat → Nat → Nat → Int64} {r0 : Nat} {x3 : Int32} {x4 : Int32} {x5 : Int32} (hK13 : ∀ (a0 : Nat → Nat → Nat) (a1 : Nat → Nat → Int32) (a2 : Nat → Nat → Nat → Int32) (a3 : Nat → Nat → Nat → Int64) (a4 : Nat) (a5 : Int32) (a6 : Int32) (a7 : Int32), KS F0 a1 → po (K13 a0 a1 a2 a3 a4 a5 a6 a7) (fun r => KS F0 r.2.2.1)) (h : KS F0 F) : po (e_Laws_tellsTo_227 K13 n P F A J r0 x3 x4 x5) (fun r => KS F0 r.2.2.1) := by
  unfold e_Laws_tellsTo_227
  repeat' (first
    | with_reducible exact po_some (by assumption)
    | (with_reducible refine ks_pf (by assumption) (by simp) ?_; intro _ _)
    | with_reducible exact hK13 _ _ _ _ _ _ _ _ (by assumption)
    | (intros; with_reducible exact hK13 _ _ _ _ _ _ _ _ (by assumption))
    | with_reducible refine po_cond (fun _ => ?_) (fun _ => ?_)
    | with_reducible refine po_bind_cond (fun _ => ?_) (fun _ => ?_)
    | with_reducible refine po_bl (fun _ _ => ?_))
theorem ks_e_Laws_tellsTo_126 {K13 : (Nat → Nat → Nat) → (Nat → Nat → Int32) → (Nat → Nat → Nat → Int32) → (Nat → Nat → Nat → Int64) → Nat → Int32 → Int32 → Int32 → Option (Int32 × (Nat → Nat → Nat) × (Nat → Nat → Int32) × (Nat → Nat → Nat → Int32) × (Nat → Nat → Nat → Int64))} {n : Nat} {P : Nat → Nat → Nat} {F : Nat → Nat → Int32} {A : Nat → Nat → Nat → Int32} {J : Nat → Nat → Nat → Int64} {r0 : Nat} {x3 : Int32} {x4 : Int32} {x5 : Int32} {rs0 : Nat} {s1 : Int32} {s2 : Int32} (hK13 : ∀ (a0 : Nat → Nat → Nat) (a1 : Nat → Nat → Int32) (a2 : Nat → Nat → Nat → Int32) (a3 : Nat → Nat → Nat → Int64) (a4 : Nat) (a5 : Int32) (a6 : Int32) (a7 : Int32), KS F0 a1 → po (K13 a0 a1 a2 a3 a4 a5 a6 a7) (fun r => KS F0 r.2.2.1)) (h : KS F0 F) : po (e_Laws_tellsTo_126 K13 n P F A J r0 x3 x4 x5 rs0 s1 s2) (fun r => KS F0 r.2.2.1) := by
  unfold e_Laws_tellsTo_126
  repeat' (first
    | with_reducible exact po_some (by assumption)
    | (with_reducible refine ks_pf (by assumption) (by simp) ?_; intro _ _)
    | with_reducible refine ks_e_Laws_tellsTo_227 ?_ (by assumption)
    | (with_reducible refine po_call (ks_e_Laws_tellsTo_227 ?_ (by assumption)) ?_)
    | with_reducible exact hK13 _ _ _ _ _ _ _ _ (by assumption)
    | (intros; with_reducible exact hK13 _ _ _ _ _ _ _ _ (by assumption))
    | with_reducible refine po_cond (fun _ => ?_) (fun _ => ?_)
    | with_reducible refine po_bind_cond (fun _ => ?_) (fun _ => ?_)
    | with_reducible refine po_bl (fun _ _ => ?_))
theorem ks_e_Laws_tellsTo_88 {K13 : (Nat → Nat → Nat) → (Nat → Nat → Int32) → (Nat → Nat → Nat → Int32) → (Nat → Nat → Nat → Int64) → Nat → Int32 → Int32 → Int32 → Option (Int32 × (Nat → Nat → Nat) × (Nat → Nat → Int32) × (Nat → Nat → Nat → Int32) × (Nat → Nat → Nat → Int64))} {n : Nat} {P : Nat → Nat → Nat} {F : Nat → Nat → Int32} {A : Nat → Nat → Nat → Int32} {J : Nat → Nat → Nat → Int64} {r0 : Nat} {x3 : Int32} {x4 : Int32} {x5 : Int32} {x6 : Int32} {x7 : Int32} (hK13 : ∀ (a0 : Nat → Nat → Nat) (a1 : Nat → Nat → Int32) (a2 : Nat → Nat → Nat → Int32) (a3 : Nat → Nat → Nat → Int64) (a4 : Nat) (a5 : Int32) (a6 : Int32) (a7 : Int32), KS F0 a1 → po (K13 a0 a1 a2 a3 a4 a5 a6 a7) (fun r => KS F0 r.2.2.1)) (h : KS F0 F) : po (e_Laws_tellsTo_88 K13 n P F A J r0 x3 x4 x5 x6 x7) (fun r => KS F0 r.2.2.1) := by
  unfold e_Laws_tellsTo_88
  repeat' (first
    | with_reducible exact po_some (by assumption)
    | (with_reducible refine ks_pf (by assumption) (by simp) ?_; intro _ _)
    | with_reducible refine ks_e_Laws_tellsTo_227 ?_ (by assumption)
    | (with_reducible refine po_call (ks_e_Laws_tellsTo_227 ?_ (by assumption)) ?_)
    | with_reducible refine ks_e_Laws_tellsTo_126 ?_ (by assumption)
    | (with_reducible refine po_call (ks_e_Laws_tellsTo_126 ?_ (by assumption)) ?_)
    | with_reducible exact hK13 _ _ _ _ _ _ _ _ (by assumption)
    | (intros; with_reducible exact hK13 _ _ _ _ _ _ _ _ (by assumption))
    | with_reducible refine po_cond (fun _ => ?_) (fun _ => ?_)
    | with_reducible refine po_bind_cond (fun _ => ?_) (fun _ => ?_)
    | with_reducible refine po_bl (fun _ _ => ?_))
theorem ks_e_Laws_tellsTo_153 {n : Nat} {P : Nat → Nat → Nat} {F : Nat → Nat → Int32} {A : Nat → Nat → Nat → Int32} {J : Nat → Nat → Nat → Int64} {r0 : Nat}  (h : KS F0 F) : po (e_Laws_tellsTo_153 n P F A J r0) (fun r => KS F0 r.2.2.1) := by
  unfold e_Laws_tellsTo_153
  repeat' (first
    | with_reducible exact po_some (by assumption)
    | (with_reducible refine ks_pf (by assumption) (by simp) ?_; intro _ _)
    | with_reducible refine po_cond (fun _ => ?_) (fun _ => ?_)
    | with_reducible refine po_bind_cond (fun _ => ?_) (fun _ => ?_)
    | with_reducible refine po_bl (fun _ _ => ?_))
theorem ks_e_Laws_tellsTo_192 {K13 : (Nat → Nat → Nat) → (Nat → Nat → Int32) → (Nat → Nat → Nat → Int32) → (Nat → Nat → Nat → Int64) → Nat → Int32 → Int32 → Int32 → Option (Int32 × (Nat → Nat → Nat) × (Nat → Nat → Int32) × (Nat → Nat → Nat → Int32) × (Nat → Nat → Nat → Int64))} {n : Nat} {P : Nat → Nat → Nat} {F : Nat → Nat → Int32} {A : Nat → Nat → Nat → Int32} {J : Nat → Nat → Nat → Int64} {r0 : Nat} {x4 : Int32} {x5 : Int32} {s0 : Int32} (hK13 : ∀ (a0 : Nat → Nat → Nat) (a1 : Nat → Nat → Int32) (a2 : Nat → Nat → Nat → Int32) (a3 : Nat → Nat → Nat → Int64) (a4 : Nat) (a5 : Int32) (a6 : Int32) (a7 : Int32), KS F0 a1 → po (K13 a0 a1 a2 a3 a4 a5 a6 a7) (fun r => KS F0 r.2.2.1)) (h : KS F0 F) : po (e_Laws_tellsTo_192 K13 n P F A J r0 x4 x5 s0) (fun r => KS F0 r.2.2.1) := by
  unfold e_Laws_tellsTo_192
  repeat' (first
    | with_reducible exact po_some (by assumption)
    | (with_reducible refine ks_pf (by assumption) (by simp) ?_; intro _ _)
    | with_reducible refine ks_e_Laws_tellsTo_227 ?_ (by assumption)
    | (with_reducible refine po_call (ks_e_Laws_tellsTo_227 ?_ (by assumption)) ?_)
    | with_reducible exact hK13 _ _ _ _ _ _ _ _ (by assumption)
    | (intros; with_reducible exact hK13 _ _ _ _ _ _ _ _ (by assumption))
    | with_reducible refine po_cond (fun _ => ?_) (fun _ => ?_)
    | with_reducible refine po_bind_cond (fun _ => ?_) (fun _ => ?_)
    | with_reducible refine po_bl (fun _ _ => ?_))
theorem ks_e_Laws_tellsTo_157 {K13 : (Nat → Nat → Nat) → (Nat → Nat → Int32) → (Nat → Nat → Nat → Int32) → (Nat → Nat → Nat → Int64) → Nat → Int32 → Int32 → Int32 → Option (Int32 × (Nat → Nat → Nat) × (Nat → Nat → Int32) × (Nat → Nat → Nat → Int32) × (Nat → Nat → Nat → Int64))} {n : Nat} {P : Nat → Nat → Nat} {F : Nat → Nat → Int32} {A : Nat → Nat → Nat → Int32} {J : Nat → Nat → Nat → Int64} {r0 : Nat} {x3 : Int32} {x4 : Int32} {x5 : Int32} {x6 : Int32} {x7 : Int32} (hK13 : ∀ (a0 : Nat → Nat → Nat) (a1 : Nat → Nat → Int32) (a2 : Nat → Nat → Nat → Int32) (a3 : Nat → Nat → Nat → Int64) (a4 : Nat) (a5 : Int32) (a6 : Int32) (a7 : Int32), KS F0 a1 → po (K13 a0 a1 a2 a3 a4 a5 a6 a7) (fun r => KS F0 r.2.2.1)) (h : KS F0 F) : po (e_Laws_tellsTo_157 K13 n P F A J r0 x3 x4 x5 x6 x7) (fun r => KS F0 r.2.2.1) := by
  unfold e_Laws_tellsTo_157
  repeat' (first
    | with_reducible exact po_some (by assumption)
    | (with_reducible refine ks_pf (by assumption) (by simp) ?_; intro _ _)
    | with_reducible refine ks_e_Laws_tellsTo_192 ?_ (by assumption)
    | (with_reducible refine po_call (ks_e_Laws_tellsTo_192 ?_ (by assumption)) ?_)
    | with_reducible exact hK13 _ _ _ _ _ _ _ _ (by assumption)
    | (intros; with_reducible exact hK13 _ _ _ _ _ _ _ _ (by assumption))
    | with_reducible refine po_cond (fun _ => ?_) (fun _ => ?_)
    | with_reducible refine po_bind_cond (fun _ => ?_) (fun _ => ?_)
    | with_reducible refine po_bl (fun _ _ => ?_))
theorem ks_e_Laws_tellsTo_13   : ∀ {n : Nat} {P : Nat → Nat → Nat} {F : Nat → Nat → Int32} {A : Nat → Nat → Nat → Int32} {J : Nat → Nat → Nat → Int64} {r0 : Nat} {x3 : Int32} {x4 : Int32} {x5 : Int32}, KS F0 F → po (e_Laws_tellsTo_13  n P F A J r0 x3 x4 x5) (fun r => KS F0 r.2.2.1) := by
  intro n
  induction n with
  | zero => intro P F A J r0 x3 x4 x5 _ r hr; cases hr
  | succ n ih =>
    intro P F A J r0 x3 x4 x5 h
    unfold e_Laws_tellsTo_13
    repeat' (first
      | with_reducible exact po_some (by assumption)
      | (with_reducible refine ks_pf (by assumption) (by simp) ?_; intro _ _)
      | with_reducible exact ks_e_Laws_tellsTo_233 (by assumption)
      | (with_reducible refine po_call (ks_e_Laws_tellsTo_233 (by assumption)) ?_; rintro ⟨_, _, _, _, _⟩ _; try dsimp only)
      | with_reducible refine ks_e_Laws_tellsTo_88 ?_ (by assumption)
      | (with_reducible refine po_call (ks_e_Laws_tellsTo_88 ?_ (by assumption)) ?_)
      | with_reducible exact ks_e_Laws_tellsTo_153 (by assumption)
      | (with_reducible refine po_call (ks_e_Laws_tellsTo_153 (by assumption)) ?_; rintro ⟨_, _, _, _, _⟩ _; try dsimp only)
      | with_reducible refine ks_e_Laws_tellsTo_157 ?_ (by assumption)
      | (with_reducible refine po_call (ks_e_Laws_tellsTo_157 ?_ (by assumption)) ?_)
      | with_reducible exact ih (by assumption)
      | (with_reducible refine po_call (ih (by assumption)) ?_; rintro ⟨_, _, _, _, _⟩ _; try dsimp only)
      | (intros; with_reducible exact ih (by assumption))
      | with_reducible refine po_cond (fun _ => ?_) (fun _ => ?_)
      | with_reducible refine po_bind_cond (fun _ => ?_) (fun _ => ?_)
      | with_reducible refine po_bl (fun _ _ => ?_))
theorem ks_e_Laws_tellsTo {n : Nat} {P : Nat → Nat → Nat} {F : Nat → Nat → Int32} {A : Nat → Nat → Nat → Int32} {J : Nat → Nat → Nat → Int64} {r0 : Nat} {x1 : Int32}  (h : KS F0 F) : po (e_Laws_tellsTo n P F A J r0 x1) (fun r => KS F0 r.2.2.1) := by
  unfold e_Laws_tellsTo
  repeat' (first
    | with_reducible exact po_some (by assumption)
    | (with_reducible refine ks_pf (by assumption) (by simp) ?_; intro _ _)
    | with_reducible exact ks_e_Laws_tellsTo_13 (by assumption)
    | (with_reducible refine po_call (ks_e_Laws_tellsTo_13 (by assumption)) ?_; rintro ⟨_, _, _, _, _⟩ _; try dsimp only)
    | with_reducible refine po_cond (fun _ => ?_) (fun _ => ?_)
    | with_reducible refine po_bind_cond (fun _ => ?_) (fun _ => ?_)
    | with_reducible refine po_bl (fun _ _ => ?_))
theorem ks_e_Sleep_chosenStep {n : Nat} {P : Nat → Nat → Nat} {F : Nat → Nat → Int32} {A : Nat → Nat → Nat → Int32} {J : Nat → Nat → Nat → Int64} {x1 : Int32} {x2 : Int32} {x3 : Int32}  (h : KS F0 F) : po (e_Sleep_chosenStep n P F A J x1 x2 x3) (fun r => KS F0 r.2.2.1) := by
  unfold e_Sleep_chosenStep
  repeat' (first
    | with_reducible exact po_some (by assumption)
    | (with_reducible refine ks_pf (by assumption) (by simp) ?_; intro _ _)
    | with_reducible exact ks_e_Laws_tellsTo (by assumption)
    | (with_reducible refine po_call (ks_e_Laws_tellsTo (by assumption)) ?_; rintro ⟨_, _, _, _, _⟩ _; try dsimp only)
    | with_reducible refine po_cond (fun _ => ?_) (fun _ => ?_)
    | with_reducible refine po_bind_cond (fun _ => ?_) (fun _ => ?_)
    | with_reducible refine po_bl (fun _ _ => ?_))
theorem ks_e_Sleep_begin_168 {n : Nat} {P : Nat → Nat → Nat} {F : Nat → Nat → Int32} {A : Nat → Nat → Nat → Int32} {J : Nat → Nat → Nat → Int64} {x1 : Int32} {x2 : Int32} {x3 : Int32} {x5 : Int32}  (h : KS F0 F) : po (e_Sleep_begin_168 n P F A J x1 x2 x3 x5) (fun r => KS F0 r.2.2.1) := by
  unfold e_Sleep_begin_168
  repeat' (first
    | with_reducible exact po_some (by assumption)
    | (with_reducible refine ks_pf (by assumption) (by simp) ?_; intro _ _)
    | with_reducible refine po_cond (fun _ => ?_) (fun _ => ?_)
    | with_reducible refine po_bind_cond (fun _ => ?_) (fun _ => ?_)
    | with_reducible refine po_bl (fun _ _ => ?_))
theorem ks_e_Sleep_begin_140 {n : Nat} {P : Nat → Nat → Nat} {F : Nat → Nat → Int32} {A : Nat → Nat → Nat → Int32} {J : Nat → Nat → Nat → Int64} {x1 : Int32} {x2 : Int32} {x3 : Int32} {x5 : Int32} {x6 : Int32}  (h : KS F0 F) : po (e_Sleep_begin_140 n P F A J x1 x2 x3 x5 x6) (fun r => KS F0 r.2.2.1) := by
  unfold e_Sleep_begin_140
  repeat' (first
    | with_reducible exact po_some (by assumption)
    | (with_reducible refine ks_pf (by assumption) (by simp) ?_; intro _ _)
    | with_reducible refine po_cond (fun _ => ?_) (fun _ => ?_)
    | with_reducible refine po_bind_cond (fun _ => ?_) (fun _ => ?_)
    | with_reducible refine po_bl (fun _ _ => ?_))
theorem ks_e_Sleep_begin {n : Nat} {P : Nat → Nat → Nat} {F : Nat → Nat → Int32} {A : Nat → Nat → Nat → Int32} {J : Nat → Nat → Nat → Int64} {x1 : Int32} {x2 : Int32}  (h : KS F0 F) : po (e_Sleep_begin n P F A J x1 x2) (fun r => KS F0 r.2.2.1) := by
  unfold e_Sleep_begin
  repeat' (first
    | with_reducible exact po_some (by assumption)
    | (with_reducible refine ks_pf (by assumption) (by simp) ?_; intro _ _)
    | with_reducible exact ks_e_Sleep_begin_44 (by assumption)
    | (with_reducible refine po_call (ks_e_Sleep_begin_44 (by assumption)) ?_; rintro ⟨_, _, _, _, _⟩ _; try dsimp only)
    | with_reducible exact ks_e_Sleep_chosenStep (by assumption)
    | (with_reducible refine po_call (ks_e_Sleep_chosenStep (by assumption)) ?_; rintro ⟨_, _, _, _, _⟩ _; try dsimp only)
    | with_reducible exact ks_e_Sleep_begin_168 (by assumption)
    | (with_reducible refine po_call (ks_e_Sleep_begin_168 (by assumption)) ?_; rintro ⟨_, _, _, _, _⟩ _; try dsimp only)
    | with_reducible exact ks_e_Sleep_begin_140 (by assumption)
    | (with_reducible refine po_call (ks_e_Sleep_begin_140 (by assumption)) ?_; rintro ⟨_, _, _, _, _⟩ _; try dsimp only)
    | with_reducible exact ks_e_Sleep_lieDown (by assumption)
    | (with_reducible refine po_call (ks_e_Sleep_lieDown (by assumption)) ?_; rintro ⟨_, _, _, _, _⟩ _; try dsimp only)
    | with_reducible refine po_cond (fun _ => ?_) (fun _ => ?_)
    | with_reducible refine po_bind_cond (fun _ => ?_) (fun _ => ?_)
    | with_reducible refine po_bl (fun _ _ => ?_))
theorem ks_e_Sleep_goTill_52 {K31 : (Nat → Nat → Nat) → (Nat → Nat → Int32) → (Nat → Nat → Nat → Int32) → (Nat → Nat → Nat → Int64) → Int32 → Int32 → Int32 → Option (Unit × (Nat → Nat → Nat) × (Nat → Nat → Int32) × (Nat → Nat → Nat → Int32) × (Nat → Nat → Nat → Int64))} (hK31 : ∀ (a0 : Nat → Nat → Nat) (a1 : Nat → Nat → Int32) (a2 : Nat → Nat → Nat → Int32) (a3 : Nat → Nat → Nat → Int64) (a4 : Int32) (a5 : Int32) (a6 : Int32), KS F0 a1 → po (K31 a0 a1 a2 a3 a4 a5 a6) (fun r => KS F0 r.2.2.1)) : ∀ {n : Nat} {P : Nat → Nat → Nat} {F : Nat → Nat → Int32} {A : Nat → Nat → Nat → Int32} {J : Nat → Nat → Nat → Int64} {x1 : Int32} {x4 : Int32} {x5 : Int32} {x6 : Int32}, KS F0 F → po (e_Sleep_goTill_52 K31 n P F A J x1 x4 x5 x6) (fun r => KS F0 r.2.2.1) := by
  intro n
  induction n with
  | zero => intro P F A J x1 x4 x5 x6 _ r hr; cases hr
  | succ n ih =>
    intro P F A J x1 x4 x5 x6 h
    unfold e_Sleep_goTill_52
    repeat' (first
      | with_reducible exact po_some (by assumption)
      | (with_reducible refine ks_pf (by assumption) (by simp) ?_; intro _ _)
      | with_reducible refine ks_e_Sleep_goTill_96 ?_ (by assumption)
      | (with_reducible refine po_call (ks_e_Sleep_goTill_96 ?_ (by assumption)) ?_)
      | with_reducible refine ks_e_Sleep_goTill_90 ?_ ?_ (by assumption)
      | (with_reducible refine po_call (ks_e_Sleep_goTill_90 ?_ ?_ (by assumption)) ?_)
      | with_reducible exact ks_e_Sleep_begin (by assumption)
      | (with_reducible refine po_call (ks_e_Sleep_begin (by assumption)) ?_; rintro ⟨_, _, _, _, _⟩ _; try dsimp only)
      | with_reducible exact hK31 _ _ _ _ _ _ _ (by assumption)
      | (intros; with_reducible exact hK31 _ _ _ _ _ _ _ (by assumption))
      | with_reducible exact ih (by assumption)
      | (with_reducible refine po_call (ih (by assumption)) ?_; rintro ⟨_, _, _, _, _⟩ _; try dsimp only)
      | (intros; with_reducible exact ih (by assumption))
      | with_reducible refine po_cond (fun _ => ?_) (fun _ => ?_)
      | with_reducible refine po_bind_cond (fun _ => ?_) (fun _ => ?_)
      | with_reducible refine po_bl (fun _ _ => ?_))
theorem ks_e_Sleep_goTill_31   : ∀ {n : Nat} {P : Nat → Nat → Nat} {F : Nat → Nat → Int32} {A : Nat → Nat → Nat → Int32} {J : Nat → Nat → Nat → Int64} {x1 : Int32} {x4 : Int32} {x5 : Int32}, KS F0 F → po (e_Sleep_goTill_31  n P F A J x1 x4 x5) (fun r => KS F0 r.2.2.1) := by
  intro n
  induction n with
  | zero => intro P F A J x1 x4 x5 _ r hr; cases hr
  | succ n ih =>
    intro P F A J x1 x4 x5 h
    unfold e_Sleep_goTill_31
    repeat' (first
      | with_reducible exact po_some (by assumption)
      | (with_reducible refine ks_pf (by assumption) (by simp) ?_; intro _ _)
      | with_reducible exact ks_e_Sleep_goTill_119 (by assumption)
      | (with_reducible refine po_call (ks_e_Sleep_goTill_119 (by assumption)) ?_; rintro ⟨_, _, _, _, _⟩ _; try dsimp only)
      | with_reducible exact ks_e_Sleep_finishAll (by assumption)
      | (with_reducible refine po_call (ks_e_Sleep_finishAll (by assumption)) ?_; rintro ⟨_, _, _, _, _⟩ _; try dsimp only)
      | with_reducible refine ks_e_Sleep_goTill_52 ?_ (by assumption)
      | (with_reducible refine po_call (ks_e_Sleep_goTill_52 ?_ (by assumption)) ?_)
      | with_reducible exact ih (by assumption)
      | (with_reducible refine po_call (ih (by assumption)) ?_; rintro ⟨_, _, _, _, _⟩ _; try dsimp only)
      | (intros; with_reducible exact ih (by assumption))
      | with_reducible refine po_cond (fun _ => ?_) (fun _ => ?_)
      | with_reducible refine po_bind_cond (fun _ => ?_) (fun _ => ?_)
      | with_reducible refine po_bl (fun _ _ => ?_))
theorem ks_e_Sleep_goTill {n : Nat} {P : Nat → Nat → Nat} {F : Nat → Nat → Int32} {A : Nat → Nat → Nat → Int32} {J : Nat → Nat → Nat → Int64} {x1 : Int32} {r2 : Nat} {r3 : Nat}  (h : KS F0 F) : po (e_Sleep_goTill n P F A J x1 r2 r3) (fun r => KS F0 r.2.2.1) := by
  unfold e_Sleep_goTill
  repeat' (first
    | with_reducible exact po_some (by assumption)
    | (with_reducible refine ks_pf (by assumption) (by simp) ?_; intro _ _)
    | with_reducible exact ks_e_Sleep_getUp (by assumption)
    | (with_reducible refine po_call (ks_e_Sleep_getUp (by assumption)) ?_; rintro ⟨_, _, _, _, _⟩ _; try dsimp only)
    | with_reducible exact ks_e_Sleep_nextMinute (by assumption)
    | (with_reducible refine po_call (ks_e_Sleep_nextMinute (by assumption)) ?_; rintro ⟨_, _, _, _, _⟩ _; try dsimp only)
    | with_reducible exact ks_e_Sleep_goTill_31 (by assumption)
    | (with_reducible refine po_call (ks_e_Sleep_goTill_31 (by assumption)) ?_; rintro ⟨_, _, _, _, _⟩ _; try dsimp only)
    | with_reducible refine po_cond (fun _ => ?_) (fun _ => ?_)
    | with_reducible refine po_bind_cond (fun _ => ?_) (fun _ => ?_)
    | with_reducible refine po_bl (fun _ _ => ?_))
theorem ks_e_Evening_gainOfTrial {n : Nat} {P : Nat → Nat → Nat} {F : Nat → Nat → Int32} {A : Nat → Nat → Nat → Int32} {J : Nat → Nat → Nat → Int64}  (h : KS F0 F) : po (e_Evening_gainOfTrial n P F A J) (fun r => KS F0 r.2.2.1) := by
  unfold e_Evening_gainOfTrial
  repeat' (first
    | with_reducible exact po_some (by assumption)
    | (with_reducible refine ks_pf (by assumption) (by simp) ?_; intro _ _)
    | with_reducible exact ks_e_Sleep_goTill (by assumption)
    | (with_reducible refine po_call (ks_e_Sleep_goTill (by assumption)) ?_; rintro ⟨_, _, _, _, _⟩ _; try dsimp only)
    | with_reducible refine po_cond (fun _ => ?_) (fun _ => ?_)
    | with_reducible refine po_bind_cond (fun _ => ?_) (fun _ => ?_)
    | with_reducible refine po_bl (fun _ _ => ?_))
theorem ks_e_Evening_gainAsItIs {n : Nat} {P : Nat → Nat → Nat} {F : Nat → Nat → Int32} {A : Nat → Nat → Nat → Int32} {J : Nat → Nat → Nat → Int64}  (h : KS F0 F) : po (e_Evening_gainAsItIs n P F A J) (fun r => KS F0 r.2.2.1) := by
  unfold e_Evening_gainAsItIs
  repeat' (first
    | with_reducible exact po_some (by assumption)
    | (with_reducible refine ks_pf (by assumption) (by simp) ?_; intro _ _)
    | with_reducible exact ks_e_State_copy (by assumption)
    | (with_reducible refine po_call (ks_e_State_copy (by assumption)) ?_; rintro ⟨_, _, _, _, _⟩ _; try dsimp only)
    | with_reducible exact ks_e_Evening_gainOfTrial (by assumption)
    | (with_reducible refine po_call (ks_e_Evening_gainOfTrial (by assumption)) ?_; rintro ⟨_, _, _, _, _⟩ _; try dsimp only)
    | with_reducible refine po_cond (fun _ => ?_) (fun _ => ?_)
    | with_reducible refine po_bind_cond (fun _ => ?_) (fun _ => ?_)
    | with_reducible refine po_bl (fun _ _ => ?_))
theorem ks_e_SleepWork_gain {n : Nat} {P : Nat → Nat → Nat} {F : Nat → Nat → Int32} {A : Nat → Nat → Nat → Int32} {J : Nat → Nat → Nat → Int64}  (h : KS F0 F) : po (e_SleepWork_gain n P F A J) (fun r => KS F0 r.2.2.1) := by
  unfold e_SleepWork_gain
  repeat' (first
    | with_reducible exact po_some (by assumption)
    | (with_reducible refine ks_pf (by assumption) (by simp) ?_; intro _ _)
    | with_reducible exact ks_e_Evening_gainAsItIs (by assumption)
    | (with_reducible refine po_call (ks_e_Evening_gainAsItIs (by assumption)) ?_; rintro ⟨_, _, _, _, _⟩ _; try dsimp only)
    | with_reducible refine po_cond (fun _ => ?_) (fun _ => ?_)
    | with_reducible refine po_bind_cond (fun _ => ?_) (fun _ => ?_)
    | with_reducible refine po_bl (fun _ _ => ?_))
theorem ks_e_Evening_isAnswered_26 {n : Nat} {P : Nat → Nat → Nat} {F : Nat → Nat → Int32} {A : Nat → Nat → Nat → Int32} {J : Nat → Nat → Nat → Int64} {x1 : Int32} {x2 : Int32} {x3 : Int32}  (h : KS F0 F) : po (e_Evening_isAnswered_26 n P F A J x1 x2 x3) (fun r => KS F0 r.2.2.1) := by
  unfold e_Evening_isAnswered_26
  repeat' (first
    | with_reducible exact po_some (by assumption)
    | (with_reducible refine ks_pf (by assumption) (by simp) ?_; intro _ _)
    | with_reducible refine po_cond (fun _ => ?_) (fun _ => ?_)
    | with_reducible refine po_bind_cond (fun _ => ?_) (fun _ => ?_)
    | with_reducible refine po_bl (fun _ _ => ?_))
theorem ks_e_Evening_isAnswered {n : Nat} {P : Nat → Nat → Nat} {F : Nat → Nat → Int32} {A : Nat → Nat → Nat → Int32} {J : Nat → Nat → Nat → Int64} {x1 : Int32} {x2 : Int32} {x3 : Int32}  (h : KS F0 F) : po (e_Evening_isAnswered n P F A J x1 x2 x3) (fun r => KS F0 r.2.2.1) := by
  unfold e_Evening_isAnswered
  repeat' (first
    | with_reducible exact po_some (by assumption)
    | (with_reducible refine ks_pf (by assumption) (by simp) ?_; intro _ _)
    | with_reducible exact ks_e_Evening_isAnswered_26 (by assumption)
    | (with_reducible refine po_call (ks_e_Evening_isAnswered_26 (by assumption)) ?_; rintro ⟨_, _, _, _, _⟩ _; try dsimp only)
    | with_reducible refine po_cond (fun _ => ?_) (fun _ => ?_)
    | with_reducible refine po_bind_cond (fun _ => ?_) (fun _ => ?_)
    | with_reducible refine po_bl (fun _ _ => ?_))
theorem ks_e_Evening_seekForOne_73 {K13 : (Nat → Nat → Nat) → (Nat → Nat → Int32) → (Nat → Nat → Nat → Int32) → (Nat → Nat → Nat → Int64) → Int32 → Int32 → Option (Unit × (Nat → Nat → Nat) × (Nat → Nat → Int32) × (Nat → Nat → Nat → Int32) × (Nat → Nat → Nat → Int64))} {n : Nat} {P : Nat → Nat → Nat} {F : Nat → Nat → Int32} {A : Nat → Nat → Nat → Int32} {J : Nat → Nat → Nat → Int64} {x1 : Int32} {x2 : Int32} (hK13 : ∀ (a0 : Nat → Nat → Nat) (a1 : Nat → Nat → Int32) (a2 : Nat → Nat → Nat → Int32) (a3 : Nat → Nat → Nat → Int64) (a4 : Int32) (a5 : Int32), KS F0 a1 → po (K13 a0 a1 a2 a3 a4 a5) (fun r => KS F0 r.2.2.1)) (h : KS F0 F) : po (e_Evening_seekForOne_73 K13 n P F A J x1 x2) (fun r => KS F0 r.2.2.1) := by
  unfold e_Evening_seekForOne_73
  repeat' (first
    | with_reducible exact po_some (by assumption)
    | (with_reducible refine ks_pf (by assumption) (by simp) ?_; intro _ _)
    | with_reducible exact hK13 _ _ _ _ _ _ (by assumption)
    | (intros; with_reducible exact hK13 _ _ _ _ _ _ (by assumption))
    | with_reducible refine po_cond (fun _ => ?_) (fun _ => ?_)
    | with_reducible refine po_bind_cond (fun _ => ?_) (fun _ => ?_)
    | with_reducible refine po_bl (fun _ _ => ?_))
theorem ks_e_Evening_offer {P : Nat → Nat → Nat} {F : Nat → Nat → Int32} {A : Nat → Nat → Nat → Int32} {J : Nat → Nat → Nat → Int64} {x1 : Int32} {x2 : Int32} {x3 : Int32}  (h : KS F0 F) : po (e_Evening_offer P F A J x1 x2 x3) (fun r => KS F0 r.2.2.1) := by
  unfold e_Evening_offer
  repeat' (first
    | with_reducible exact po_some (by assumption)
    | (with_reducible refine ks_pf (by assumption) (by simp) ?_; intro _ _)
    | with_reducible refine po_cond (fun _ => ?_) (fun _ => ?_)
    | with_reducible refine po_bind_cond (fun _ => ?_) (fun _ => ?_)
    | with_reducible refine po_bl (fun _ _ => ?_))
theorem ks_e_Evening_seekForOne_13   : ∀ {n : Nat} {P : Nat → Nat → Nat} {F : Nat → Nat → Int32} {A : Nat → Nat → Nat → Int32} {J : Nat → Nat → Nat → Int64} {x1 : Int32} {x2 : Int32}, KS F0 F → po (e_Evening_seekForOne_13  n P F A J x1 x2) (fun r => KS F0 r.2.2.1) := by
  intro n
  induction n with
  | zero => intro P F A J x1 x2 _ r hr; cases hr
  | succ n ih =>
    intro P F A J x1 x2 h
    unfold e_Evening_seekForOne_13
    repeat' (first
      | with_reducible exact po_some (by assumption)
      | (with_reducible refine ks_pf (by assumption) (by simp) ?_; intro _ _)
      | with_reducible refine ks_e_Evening_seekForOne_73 ?_ (by assumption)
      | (with_reducible refine po_call (ks_e_Evening_seekForOne_73 ?_ (by assumption)) ?_)
      | with_reducible exact ks_e_State_copy (by assumption)
      | (with_reducible refine po_call (ks_e_State_copy (by assumption)) ?_; rintro ⟨_, _, _, _, _⟩ _; try dsimp only)
      | with_reducible exact ks_e_Evening_gainOfTrial (by assumption)
      | (with_reducible refine po_call (ks_e_Evening_gainOfTrial (by assumption)) ?_; rintro ⟨_, _, _, _, _⟩ _; try dsimp only)
      | with_reducible exact ks_e_Evening_offer (by assumption)
      | (with_reducible refine po_call (ks_e_Evening_offer (by assumption)) ?_; rintro ⟨_, _, _, _, _⟩ _; try dsimp only)
      | with_reducible exact ih (by assumption)
      | (with_reducible refine po_call (ih (by assumption)) ?_; rintro ⟨_, _, _, _, _⟩ _; try dsimp only)
      | (intros; with_reducible exact ih (by assumption))
      | with_reducible refine po_cond (fun _ => ?_) (fun _ => ?_)
      | with_reducible refine po_bind_cond (fun _ => ?_) (fun _ => ?_)
      | with_reducible refine po_bl (fun _ _ => ?_))
theorem ks_e_Evening_seekForOne {n : Nat} {P : Nat → Nat → Nat} {F : Nat → Nat → Int32} {A : Nat → Nat → Nat → Int32} {J : Nat → Nat → Nat → Int64} {x1 : Int32}  (h : KS F0 F) : po (e_Evening_seekForOne n P F A J x1) (fun r => KS F0 r.2.2.1) := by
  unfold e_Evening_seekForOne
  repeat' (first
    | with_reducible exact po_some (by assumption)
    | (with_reducible refine ks_pf (by assumption) (by simp) ?_; intro _ _)
    | with_reducible exact ks_e_Evening_isAnswered (by assumption)
    | (with_reducible refine po_call (ks_e_Evening_isAnswered (by assumption)) ?_; rintro ⟨_, _, _, _, _⟩ _; try dsimp only)
    | with_reducible exact ks_e_Evening_seekForOne_13 (by assumption)
    | (with_reducible refine po_call (ks_e_Evening_seekForOne_13 (by assumption)) ?_; rintro ⟨_, _, _, _, _⟩ _; try dsimp only)
    | with_reducible refine po_cond (fun _ => ?_) (fun _ => ?_)
    | with_reducible refine po_bind_cond (fun _ => ?_) (fun _ => ?_)
    | with_reducible refine po_bl (fun _ _ => ?_))
theorem ks_e_SleepWork_best {n : Nat} {P : Nat → Nat → Nat} {F : Nat → Nat → Int32} {A : Nat → Nat → Nat → Int32} {J : Nat → Nat → Nat → Int64} {x1 : Int32} {x2 : Int32}  (h : KS F0 F) : po (e_SleepWork_best n P F A J x1 x2) (fun r => KS F0 r.2.2.1) := by
  unfold e_SleepWork_best
  repeat' (first
    | with_reducible exact po_some (by assumption)
    | (with_reducible refine ks_pf (by assumption) (by simp) ?_; intro _ _)
    | with_reducible exact ks_e_Evening_seekForOne (by assumption)
    | (with_reducible refine po_call (ks_e_Evening_seekForOne (by assumption)) ?_; rintro ⟨_, _, _, _, _⟩ _; try dsimp only)
    | with_reducible refine po_cond (fun _ => ?_) (fun _ => ?_)
    | with_reducible refine po_bind_cond (fun _ => ?_) (fun _ => ?_)
    | with_reducible refine po_bl (fun _ _ => ?_))
theorem ks_e_Evening_seekForTwo_101 {K13 : (Nat → Nat → Nat) → (Nat → Nat → Int32) → (Nat → Nat → Nat → Int32) → (Nat → Nat → Nat → Int64) → Int32 → Int32 → Int32 → Option (Unit × (Nat → Nat → Nat) × (Nat → Nat → Int32) × (Nat → Nat → Nat → Int32) × (Nat → Nat → Nat → Int64))} {n : Nat} {P : Nat → Nat → Nat} {F : Nat → Nat → Int32} {A : Nat → Nat → Nat → Int32} {J : Nat → Nat → Nat → Int64} {x1 : Int32} {x2 : Int32} {x3 : Int32} (hK13 : ∀ (a0 : Nat → Nat → Nat) (a1 : Nat → Nat → Int32) (a2 : Nat → Nat → Nat → Int32) (a3 : Nat → Nat → Nat → Int64) (a4 : Int32) (a5 : Int32) (a6 : Int32), KS F0 a1 → po (K13 a0 a1 a2 a3 a4 a5 a6) (fun r => KS F0 r.2.2.1)) (h : KS F0 F) : po (e_Evening_seekForTwo_101 K13 n P F A J x1 x2 x3) (fun r => KS F0 r.2.2.1) := by
  unfold e_Evening_seekForTwo_101
  repeat' (first
    | with_reducible exact po_some (by assumption)
    | (with_reducible refine ks_pf (by assumption) (by simp) ?_; intro _ _)
    | with_reducible exact hK13 _ _ _ _ _ _ _ (by assumption)
    | (intros; with_reducible exact hK13 _ _ _ _ _ _ _ (by assumption))
    | with_reducible refine po_cond (fun _ => ?_) (fun _ => ?_)
    | with_reducible refine po_bind_cond (fun _ => ?_) (fun _ => ?_)
    | with_reducible refine po_bl (fun _ _ => ?_))
theorem ks_e_Evening_seekForTwo_95 {K13 : (Nat → Nat → Nat) → (Nat → Nat → Int32) → (Nat → Nat → Nat → Int32) → (Nat → Nat → Nat → Int64) → Int32 → Int32 → Int32 → Option (Unit × (Nat → Nat → Nat) × (Nat → Nat → Int32) × (Nat → Nat → Nat → Int32) × (Nat → Nat → Nat → Int64))} {K22 : (Nat → Nat → Nat) → (Nat → Nat → Int32) → (Nat → Nat → Nat → Int32) → (Nat → Nat → Nat → Int64) → Int32 → Int32 → Int32 → Int32 → Option (Unit × (Nat → Nat → Nat) × (Nat → Nat → Int32) × (Nat → Nat → Nat → Int32) × (Nat → Nat → Nat → Int64))} {n : Nat} {P : Nat → Nat → Nat} {F : Nat → Nat → Int32} {A : Nat → Nat → Nat → Int32} {J : Nat → Nat → Nat → Int64} {x1 : Int32} {x2 : Int32} {x3 : Int32} {x4 : Int32} (hK13 : ∀ (a0 : Nat → Nat → Nat) (a1 : Nat → Nat → Int32) (a2 : Nat → Nat → Nat → Int32) (a3 : Nat → Nat → Nat → Int64) (a4 : Int32) (a5 : Int32) (a6 : Int32), KS F0 a1 → po (K13 a0 a1 a2 a3 a4 a5 a6) (fun r => KS F0 r.2.2.1)) (hK22 : ∀ (a0 : Nat → Nat → Nat) (a1 : Nat → Nat → Int32) (a2 : Nat → Nat → Nat → Int32) (a3 : Nat → Nat → Nat → Int64) (a4 : Int32) (a5 : Int32) (a6 : Int32) (a7 : Int32), KS F0 a1 → po (K22 a0 a1 a2 a3 a4 a5 a6 a7) (fun r => KS F0 r.2.2.1)) (h : KS F0 F) : po (e_Evening_seekForTwo_95 K13 K22 n P F A J x1 x2 x3 x4) (fun r => KS F0 r.2.2.1) := by
  unfold e_Evening_seekForTwo_95
  repeat' (first
    | with_reducible exact po_some (by assumption)
    | (with_reducible refine ks_pf (by assumption) (by simp) ?_; intro _ _)
    | with_reducible exact hK13 _ _ _ _ _ _ _ (by assumption)
    | (intros; with_reducible exact hK13 _ _ _ _ _ _ _ (by assumption))
    | with_reducible exact hK22 _ _ _ _ _ _ _ _ (by assumption)
    | (intros; with_reducible exact hK22 _ _ _ _ _ _ _ _ (by assumption))
    | with_reducible refine po_cond (fun _ => ?_) (fun _ => ?_)
    | with_reducible refine po_bind_cond (fun _ => ?_) (fun _ => ?_)
    | with_reducible refine po_bl (fun _ _ => ?_))
theorem ks_e_Evening_seekForTwo_22 {K13 : (Nat → Nat → Nat) → (Nat → Nat → Int32) → (Nat → Nat → Nat → Int32) → (Nat → Nat → Nat → Int64) → Int32 → Int32 → Int32 → Option (Unit × (Nat → Nat → Nat) × (Nat → Nat → Int32) × (Nat → Nat → Nat → Int32) × (Nat → Nat → Nat → Int64))} (hK13 : ∀ (a0 : Nat → Nat → Nat) (a1 : Nat → Nat → Int32) (a2 : Nat → Nat → Nat → Int32) (a3 : Nat → Nat → Nat → Int64) (a4 : Int32) (a5 : Int32) (a6 : Int32), KS F0 a1 → po (K13 a0 a1 a2 a3 a4 a5 a6) (fun r => KS F0 r.2.2.1)) : ∀ {n : Nat} {P : Nat → Nat → Nat} {F : Nat → Nat → Int32} {A : Nat → Nat → Nat → Int32} {J : Nat → Nat → Nat → Int64} {x1 : Int32} {x2 : Int32} {x3 : Int32} {x4 : Int32}, KS F0 F → po (e_Evening_seekForTwo_22 K13 n P F A J x1 x2 x3 x4) (fun r => KS F0 r.2.2.1) := by
  intro n
  induction n with
  | zero => intro P F A J x1 x2 x3 x4 _ r hr; cases hr
  | succ n ih =>
    intro P F A J x1 x2 x3 x4 h
    unfold e_Evening_seekForTwo_22
    repeat' (first
      | with_reducible exact po_some (by assumption)
      | (with_reducible refine ks_pf (by assumption) (by simp) ?_; intro _ _)
      | with_reducible refine ks_e_Evening_seekForTwo_101 ?_ (by assumption)
      | (with_reducible refine po_call (ks_e_Evening_seekForTwo_101 ?_ (by assumption)) ?_)
      | with_reducible refine ks_e_Evening_seekForTwo_95 ?_ ?_ (by assumption)
      | (with_reducible refine po_call (ks_e_Evening_seekForTwo_95 ?_ ?_ (by assumption)) ?_)
      | with_reducible exact ks_e_State_copy (by assumption)
      | (with_reducible refine po_call (ks_e_State_copy (by assumption)) ?_; rintro ⟨_, _, _, _, _⟩ _; try dsimp only)
      | with_reducible exact ks_e_Evening_gainOfTrial (by assumption)
      | (with_reducible refine po_call (ks_e_Evening_gainOfTrial (by assumption)) ?_; rintro ⟨_, _, _, _, _⟩ _; try dsimp only)
      | with_reducible exact ks_e_Evening_offer (by assumption)
      | (with_reducible refine po_call (ks_e_Evening_offer (by assumption)) ?_; rintro ⟨_, _, _, _, _⟩ _; try dsimp only)
      | with_reducible exact hK13 _ _ _ _ _ _ _ (by assumption)
      | (intros; with_reducible exact hK13 _ _ _ _ _ _ _ (by assumption))
      | with_reducible exact ih (by assumption)
      | (with_reducible refine po_call (ih (by assumption)) ?_; rintro ⟨_, _, _, _, _⟩ _; try dsimp only)
      | (intros; with_reducible exact ih (by assumption))
      | with_reducible refine po_cond (fun _ => ?_) (fun _ => ?_)
      | with_reducible refine po_bind_cond (fun _ => ?_) (fun _ => ?_)
      | with_reducible refine po_bl (fun _ _ => ?_))
theorem ks_e_Evening_seekForTwo_13   : ∀ {n : Nat} {P : Nat → Nat → Nat} {F : Nat → Nat → Int32} {A : Nat → Nat → Nat → Int32} {J : Nat → Nat → Nat → Int64} {x1 : Int32} {x2 : Int32} {x3 : Int32}, KS F0 F → po (e_Evening_seekForTwo_13  n P F A J x1 x2 x3) (fun r => KS F0 r.2.2.1) := by
  intro n
  induction n with
  | zero => intro P F A J x1 x2 x3 _ r hr; cases hr
  | succ n ih =>
    intro P F A J x1 x2 x3 h
    unfold e_Evening_seekForTwo_13
    repeat' (first
      | with_reducible exact po_some (by assumption)
      | (with_reducible refine ks_pf (by assumption) (by simp) ?_; intro _ _)
      | with_reducible refine ks_e_Evening_seekForTwo_22 ?_ (by assumption)
      | (with_reducible refine po_call (ks_e_Evening_seekForTwo_22 ?_ (by assumption)) ?_)
      | with_reducible exact ih (by assumption)
      | (with_reducible refine po_call (ih (by assumption)) ?_; rintro ⟨_, _, _, _, _⟩ _; try dsimp only)
      | (intros; with_reducible exact ih (by assumption))
      | with_reducible refine po_cond (fun _ => ?_) (fun _ => ?_)
      | with_reducible refine po_bind_cond (fun _ => ?_) (fun _ => ?_)
      | with_reducible refine po_bl (fun _ _ => ?_))
theorem ks_e_Evening_seekForTwo {n : Nat} {P : Nat → Nat → Nat} {F : Nat → Nat → Int32} {A : Nat → Nat → Nat → Int32} {J : Nat → Nat → Nat → Int64} {x1 : Int32} {x2 : Int32}  (h : KS F0 F) : po (e_Evening_seekForTwo n P F A J x1 x2) (fun r => KS F0 r.2.2.1) := by
  unfold e_Evening_seekForTwo
  repeat' (first
    | with_reducible exact po_some (by assumption)
    | (with_reducible refine ks_pf (by assumption) (by simp) ?_; intro _ _)
    | with_reducible exact ks_e_Evening_isAnswered (by assumption)
    | (with_reducible refine po_call (ks_e_Evening_isAnswered (by assumption)) ?_; rintro ⟨_, _, _, _, _⟩ _; try dsimp only)
    | with_reducible exact ks_e_Evening_seekForTwo_13 (by assumption)
    | (with_reducible refine po_call (ks_e_Evening_seekForTwo_13 (by assumption)) ?_; rintro ⟨_, _, _, _, _⟩ _; try dsimp only)
    | with_reducible refine po_cond (fun _ => ?_) (fun _ => ?_)
    | with_reducible refine po_bind_cond (fun _ => ?_) (fun _ => ?_)
    | with_reducible refine po_bl (fun _ _ => ?_))
theorem ks_e_SleepWork_bestOfTwo_63 {n : Nat} {P : Nat → Nat → Nat} {F : Nat → Nat → Int32} {A : Nat → Nat → Nat → Int32} {J : Nat → Nat → Nat → Int64} {s0 : Int32}  (h : KS F0 F) : po (e_SleepWork_bestOfTwo_63 n P F A J s0) (fun r => KS F0 r.2.2.1) := by
  unfold e_SleepWork_bestOfTwo_63
  repeat' (first
    | with_reducible exact po_some (by assumption)
    | (with_reducible refine ks_pf (by assumption) (by simp) ?_; intro _ _)
    | with_reducible refine po_cond (fun _ => ?_) (fun _ => ?_)
    | with_reducible refine po_bind_cond (fun _ => ?_) (fun _ => ?_)
    | with_reducible refine po_bl (fun _ _ => ?_))
theorem ks_e_SleepWork_bestOfTwo {n : Nat} {P : Nat → Nat → Nat} {F : Nat → Nat → Int32} {A : Nat → Nat → Nat → Int32} {J : Nat → Nat → Nat → Int64} {x1 : Int32} {x2 : Int32} {x3 : Int32}  (h : KS F0 F) : po (e_SleepWork_bestOfTwo n P F A J x1 x2 x3) (fun r => KS F0 r.2.2.1) := by
  unfold e_SleepWork_bestOfTwo
  repeat' (first
    | with_reducible exact po_some (by assumption)
    | (with_reducible refine ks_pf (by assumption) (by simp) ?_; intro _ _)
    | with_reducible exact ks_e_Evening_seekForTwo (by assumption)
    | (with_reducible refine po_call (ks_e_Evening_seekForTwo (by assumption)) ?_; rintro ⟨_, _, _, _, _⟩ _; try dsimp only)
    | with_reducible exact ks_e_SleepWork_bestOfTwo_63 (by assumption)
    | (with_reducible refine po_call (ks_e_SleepWork_bestOfTwo_63 (by assumption)) ?_; rintro ⟨_, _, _, _, _⟩ _; try dsimp only)
    | with_reducible refine po_cond (fun _ => ?_) (fun _ => ?_)
    | with_reducible refine po_bind_cond (fun _ => ?_) (fun _ => ?_)
    | with_reducible refine po_bl (fun _ _ => ?_))
theorem ks_e_SleepWork_hire {n : Nat} {P : Nat → Nat → Nat} {F : Nat → Nat → Int32} {A : Nat → Nat → Nat → Int32} {J : Nat → Nat → Nat → Int64} {x1 : Int32}  (h : KS F0 F) : po (e_SleepWork_hire n P F A J x1) (fun r => KS F0 r.2.2.1) := by
  unfold e_SleepWork_hire
  repeat' (first
    | with_reducible exact po_some (by assumption)
    | (with_reducible refine ks_pf (by assumption) (by simp) ?_; intro _ _)
    | with_reducible exact ks_e_Evening_seekForOne (by assumption)
    | (with_reducible refine po_call (ks_e_Evening_seekForOne (by assumption)) ?_; rintro ⟨_, _, _, _, _⟩ _; try dsimp only)
    | with_reducible refine po_cond (fun _ => ?_) (fun _ => ?_)
    | with_reducible refine po_bind_cond (fun _ => ?_) (fun _ => ?_)
    | with_reducible refine po_bl (fun _ _ => ?_))
theorem ks_e_Evening_seekHidingPlace_59 {K13 : (Nat → Nat → Nat) → (Nat → Nat → Int32) → (Nat → Nat → Nat → Int32) → (Nat → Nat → Nat → Int64) → Int32 → Int32 → Option (Unit × (Nat → Nat → Nat) × (Nat → Nat → Int32) × (Nat → Nat → Nat → Int32) × (Nat → Nat → Nat → Int64))} {n : Nat} {P : Nat → Nat → Nat} {F : Nat → Nat → Int32} {A : Nat → Nat → Nat → Int32} {J : Nat → Nat → Nat → Int64} {x1 : Int32} {x2 : Int32} {s0 : Int32} (hK13 : ∀ (a0 : Nat → Nat → Nat) (a1 : Nat → Nat → Int32) (a2 : Nat → Nat → Nat → Int32) (a3 : Nat → Nat → Nat → Int64) (a4 : Int32) (a5 : Int32), KS F0 a1 → po (K13 a0 a1 a2 a3 a4 a5) (fun r => KS F0 r.2.2.1)) (h : KS F0 F) : po (e_Evening_seekHidingPlace_59 K13 n P F A J x1 x2 s0) (fun r => KS F0 r.2.2.1) := by
  unfold e_Evening_seekHidingPlace_59
  repeat' (first
    | with_reducible exact po_some (by assumption)
    | (with_reducible refine ks_pf (by assumption) (by simp) ?_; intro _ _)
    | with_reducible exact ks_e_State_copy (by assumption)
    | (with_reducible refine po_call (ks_e_State_copy (by assumption)) ?_; rintro ⟨_, _, _, _, _⟩ _; try dsimp only)
    | with_reducible exact ks_e_Evening_gainOfTrial (by assumption)
    | (with_reducible refine po_call (ks_e_Evening_gainOfTrial (by assumption)) ?_; rintro ⟨_, _, _, _, _⟩ _; try dsimp only)
    | with_reducible exact ks_e_Evening_offer (by assumption)
    | (with_reducible refine po_call (ks_e_Evening_offer (by assumption)) ?_; rintro ⟨_, _, _, _, _⟩ _; try dsimp only)
    | with_reducible exact hK13 _ _ _ _ _ _ (by assumption)
    | (intros; with_reducible exact hK13 _ _ _ _ _ _ (by assumption))
    | with_reducible refine po_cond (fun _ => ?_) (fun _ => ?_)
    | with_reducible refine po_bind_cond (fun _ => ?_) (fun _ => ?_)
    | with_reducible refine po_bl (fun _ _ => ?_))
theorem ks_e_Evening_seekHidingPlace_13   : ∀ {n : Nat} {P : Nat → Nat → Nat} {F : Nat → Nat → Int32} {A : Nat → Nat → Nat → Int32} {J : Nat → Nat → Nat → Int64} {x1 : Int32} {x2 : Int32}, KS F0 F → po (e_Evening_seekHidingPlace_13  n P F A J x1 x2) (fun r => KS F0 r.2.2.1) := by
  intro n
  induction n with
  | zero => intro P F A J x1 x2 _ r hr; cases hr
  | succ n ih =>
    intro P F A J x1 x2 h
    unfold e_Evening_seekHidingPlace_13
    repeat' (first
      | with_reducible exact po_some (by assumption)
      | (with_reducible refine ks_pf (by assumption) (by simp) ?_; intro _ _)
      | with_reducible refine ks_e_Evening_seekHidingPlace_59 ?_ (by assumption)
      | (with_reducible refine po_call (ks_e_Evening_seekHidingPlace_59 ?_ (by assumption)) ?_)
      | with_reducible exact ih (by assumption)
      | (with_reducible refine po_call (ih (by assumption)) ?_; rintro ⟨_, _, _, _, _⟩ _; try dsimp only)
      | (intros; with_reducible exact ih (by assumption))
      | with_reducible refine po_cond (fun _ => ?_) (fun _ => ?_)
      | with_reducible refine po_bind_cond (fun _ => ?_) (fun _ => ?_)
      | with_reducible refine po_bl (fun _ _ => ?_))
theorem ks_e_Evening_seekHidingPlace {n : Nat} {P : Nat → Nat → Nat} {F : Nat → Nat → Int32} {A : Nat → Nat → Nat → Int32} {J : Nat → Nat → Nat → Int64} {x1 : Int32}  (h : KS F0 F) : po (e_Evening_seekHidingPlace n P F A J x1) (fun r => KS F0 r.2.2.1) := by
  unfold e_Evening_seekHidingPlace
  repeat' (first
    | with_reducible exact po_some (by assumption)
    | (with_reducible refine ks_pf (by assumption) (by simp) ?_; intro _ _)
    | with_reducible exact ks_e_Evening_isAnswered (by assumption)
    | (with_reducible refine po_call (ks_e_Evening_isAnswered (by assumption)) ?_; rintro ⟨_, _, _, _, _⟩ _; try dsimp only)
    | with_reducible exact ks_e_Evening_seekHidingPlace_13 (by assumption)
    | (with_reducible refine po_call (ks_e_Evening_seekHidingPlace_13 (by assumption)) ?_; rintro ⟨_, _, _, _, _⟩ _; try dsimp only)
    | with_reducible refine po_cond (fun _ => ?_) (fun _ => ?_)
    | with_reducible refine po_bind_cond (fun _ => ?_) (fun _ => ?_)
    | with_reducible refine po_bl (fun _ _ => ?_))
theorem ks_e_SleepWork_hide {n : Nat} {P : Nat → Nat → Nat} {F : Nat → Nat → Int32} {A : Nat → Nat → Nat → Int32} {J : Nat → Nat → Nat → Int64} {x1 : Int32} {x2 : Int32}  (h : KS F0 F) : po (e_SleepWork_hide n P F A J x1 x2) (fun r => KS F0 r.2.2.1) := by
  unfold e_SleepWork_hide
  repeat' (first
    | with_reducible exact po_some (by assumption)
    | (with_reducible refine ks_pf (by assumption) (by simp) ?_; intro _ _)
    | with_reducible exact ks_e_Evening_seekHidingPlace (by assumption)
    | (with_reducible refine po_call (ks_e_Evening_seekHidingPlace (by assumption)) ?_; rintro ⟨_, _, _, _, _⟩ _; try dsimp only)
    | with_reducible refine po_cond (fun _ => ?_) (fun _ => ?_)
    | with_reducible refine po_bind_cond (fun _ => ?_) (fun _ => ?_)
    | with_reducible refine po_bl (fun _ _ => ?_))
theorem ks_e_SleepWork_where {n : Nat} {P : Nat → Nat → Nat} {F : Nat → Nat → Int32} {A : Nat → Nat → Nat → Int32} {J : Nat → Nat → Nat → Int64} {x1 : Int32} {x2 : Int32}  (h : KS F0 F) : po (e_SleepWork_where n P F A J x1 x2) (fun r => KS F0 r.2.2.1) := by
  unfold e_SleepWork_where
  repeat' (first
    | with_reducible exact po_some (by assumption)
    | (with_reducible refine ks_pf (by assumption) (by simp) ?_; intro _ _)
    | with_reducible exact ks_e_Evening_minutesBetween (by assumption)
    | (with_reducible refine po_call (ks_e_Evening_minutesBetween (by assumption)) ?_; rintro ⟨_, _, _, _, _⟩ _; try dsimp only)
    | with_reducible refine po_cond (fun _ => ?_) (fun _ => ?_)
    | with_reducible refine po_bind_cond (fun _ => ?_) (fun _ => ?_)
    | with_reducible refine po_bl (fun _ _ => ?_))
theorem ks_e_Evening_strokesTill {n : Nat} {P : Nat → Nat → Nat} {F : Nat → Nat → Int32} {A : Nat → Nat → Nat → Int32} {J : Nat → Nat → Nat → Int64} {x1 : Int32} {x2 : Int32}  (h : KS F0 F) : po (e_Evening_strokesTill n P F A J x1 x2) (fun r => KS F0 r.2.2.1) := by
  unfold e_Evening_strokesTill
  repeat' (first
    | with_reducible exact po_some (by assumption)
    | (with_reducible refine ks_pf (by assumption) (by simp) ?_; intro _ _)
    | with_reducible exact ks_e_State_copy (by assumption)
    | (with_reducible refine po_call (ks_e_State_copy (by assumption)) ?_; rintro ⟨_, _, _, _, _⟩ _; try dsimp only)
    | with_reducible exact ks_e_Sleep_goTill (by assumption)
    | (with_reducible refine po_call (ks_e_Sleep_goTill (by assumption)) ?_; rintro ⟨_, _, _, _, _⟩ _; try dsimp only)
    | with_reducible refine po_cond (fun _ => ?_) (fun _ => ?_)
    | with_reducible refine po_bind_cond (fun _ => ?_) (fun _ => ?_)
    | with_reducible refine po_bl (fun _ _ => ?_))
theorem ks_e_SleepWork_strokes {n : Nat} {P : Nat → Nat → Nat} {F : Nat → Nat → Int32} {A : Nat → Nat → Nat → Int32} {J : Nat → Nat → Nat → Int64} {x1 : Int32} {x2 : Int32}  (h : KS F0 F) : po (e_SleepWork_strokes n P F A J x1 x2) (fun r => KS F0 r.2.2.1) := by
  unfold e_SleepWork_strokes
  repeat' (first
    | with_reducible exact po_some (by assumption)
    | (with_reducible refine ks_pf (by assumption) (by simp) ?_; intro _ _)
    | with_reducible exact ks_e_Evening_strokesTill (by assumption)
    | (with_reducible refine po_call (ks_e_Evening_strokesTill (by assumption)) ?_; rintro ⟨_, _, _, _, _⟩ _; try dsimp only)
    | with_reducible refine po_cond (fun _ => ?_) (fun _ => ?_)
    | with_reducible refine po_bind_cond (fun _ => ?_) (fun _ => ?_)
    | with_reducible refine po_bl (fun _ _ => ?_))
theorem ks_e_Evening_seekFits_113 {K18 : (Nat → Nat → Nat) → (Nat → Nat → Int32) → (Nat → Nat → Nat → Int32) → (Nat → Nat → Nat → Int64) → Int32 → Int32 → Int32 → Option (Unit × (Nat → Nat → Nat) × (Nat → Nat → Int32) × (Nat → Nat → Nat → Int32) × (Nat → Nat → Nat → Int64))} {n : Nat} {P : Nat → Nat → Nat} {F : Nat → Nat → Int32} {A : Nat → Nat → Nat → Int32} {J : Nat → Nat → Nat → Int64} {x1 : Int32} {x2 : Int32} {x3 : Int32} (hK18 : ∀ (a0 : Nat → Nat → Nat) (a1 : Nat → Nat → Int32) (a2 : Nat → Nat → Nat → Int32) (a3 : Nat → Nat → Nat → Int64) (a4 : Int32) (a5 : Int32) (a6 : Int32), KS F0 a1 → po (K18 a0 a1 a2 a3 a4 a5 a6) (fun r => KS F0 r.2.2.1)) (h : KS F0 F) : po (e_Evening_seekFits_113 K18 n P F A J x1 x2 x3) (fun r => KS F0 r.2.2.1) := by
  unfold e_Evening_seekFits_113
  repeat' (first
    | with_reducible exact po_some (by assumption)
    | (with_reducible refine ks_pf (by assumption) (by simp) ?_; intro _ _)
    | with_reducible exact hK18 _ _ _ _ _ _ _ (by assumption)
    | (intros; with_reducible exact hK18 _ _ _ _ _ _ _ (by assumption))
    | with_reducible refine po_cond (fun _ => ?_) (fun _ => ?_)
    | with_reducible refine po_bind_cond (fun _ => ?_) (fun _ => ?_)
    | with_reducible refine po_bl (fun _ _ => ?_))
theorem ks_e_Evening_seekFits_18   : ∀ {n : Nat} {P : Nat → Nat → Nat} {F : Nat → Nat → Int32} {A : Nat → Nat → Nat → Int32} {J : Nat → Nat → Nat → Int64} {x1 : Int32} {x2 : Int32} {x3 : Int32}, KS F0 F → po (e_Evening_seekFits_18  n P F A J x1 x2 x3) (fun r => KS F0 r.2.2.1) := by
  intro n
  induction n with
  | zero => intro P F A J x1 x2 x3 _ r hr; cases hr
  | succ n ih =>
    intro P F A J x1 x2 x3 h
    unfold e_Evening_seekFits_18
    repeat' (first
      | with_reducible exact po_some (by assumption)
      | (with_reducible refine ks_pf (by assumption) (by simp) ?_; intro _ _)
      | with_reducible refine ks_e_Evening_seekFits_113 ?_ (by assumption)
      | (with_reducible refine po_call (ks_e_Evening_seekFits_113 ?_ (by assumption)) ?_)
      | with_reducible exact ks_e_State_copy (by assumption)
      | (with_reducible refine po_call (ks_e_State_copy (by assumption)) ?_; rintro ⟨_, _, _, _, _⟩ _; try dsimp only)
      | with_reducible exact ks_e_Sleep_goTill (by assumption)
      | (with_reducible refine po_call (ks_e_Sleep_goTill (by assumption)) ?_; rintro ⟨_, _, _, _, _⟩ _; try dsimp only)
      | with_reducible exact ih (by assumption)
      | (with_reducible refine po_call (ih (by assumption)) ?_; rintro ⟨_, _, _, _, _⟩ _; try dsimp only)
      | (intros; with_reducible exact ih (by assumption))
      | with_reducible refine po_cond (fun _ => ?_) (fun _ => ?_)
      | with_reducible refine po_bind_cond (fun _ => ?_) (fun _ => ?_)
      | with_reducible refine po_bl (fun _ _ => ?_))
theorem ks_e_Evening_seekFits {n : Nat} {P : Nat → Nat → Nat} {F : Nat → Nat → Int32} {A : Nat → Nat → Nat → Int32} {J : Nat → Nat → Nat → Int64} {x1 : Int32} {x2 : Int32}  (h : KS F0 F) : po (e_Evening_seekFits n P F A J x1 x2) (fun r => KS F0 r.2.2.1) := by
  unfold e_Evening_seekFits
  repeat' (first
    | with_reducible exact po_some (by assumption)
    | (with_reducible refine ks_pf (by assumption) (by simp) ?_; intro _ _)
    | with_reducible exact ks_e_Evening_isAnswered (by assumption)
    | (with_reducible refine po_call (ks_e_Evening_isAnswered (by assumption)) ?_; rintro ⟨_, _, _, _, _⟩ _; try dsimp only)
    | with_reducible exact ks_e_Evening_seekFits_18 (by assumption)
    | (with_reducible refine po_call (ks_e_Evening_seekFits_18 (by assumption)) ?_; rintro ⟨_, _, _, _, _⟩ _; try dsimp only)
    | with_reducible refine po_cond (fun _ => ?_) (fun _ => ?_)
    | with_reducible refine po_bind_cond (fun _ => ?_) (fun _ => ?_)
    | with_reducible refine po_bl (fun _ _ => ?_))
theorem ks_e_SleepWork_fits {n : Nat} {P : Nat → Nat → Nat} {F : Nat → Nat → Int32} {A : Nat → Nat → Nat → Int32} {J : Nat → Nat → Nat → Int64} {x1 : Int32} {x2 : Int32} {x3 : Int32}  (h : KS F0 F) : po (e_SleepWork_fits n P F A J x1 x2 x3) (fun r => KS F0 r.2.2.1) := by
  unfold e_SleepWork_fits
  repeat' (first
    | with_reducible exact po_some (by assumption)
    | (with_reducible refine ks_pf (by assumption) (by simp) ?_; intro _ _)
    | with_reducible exact ks_e_Evening_seekFits (by assumption)
    | (with_reducible refine po_call (ks_e_Evening_seekFits (by assumption)) ?_; rintro ⟨_, _, _, _, _⟩ _; try dsimp only)
    | with_reducible refine po_cond (fun _ => ?_) (fun _ => ?_)
    | with_reducible refine po_bind_cond (fun _ => ?_) (fun _ => ?_)
    | with_reducible refine po_bl (fun _ _ => ?_))
theorem ks_e_Evening_isSuspect_92 {K2 : (Nat → Nat → Nat) → (Nat → Nat → Int32) → (Nat → Nat → Nat → Int32) → (Nat → Nat → Nat → Int64) → Int32 → Int32 → Int32 → Option (Int32 × (Nat → Nat → Nat) × (Nat → Nat → Int32) × (Nat → Nat → Nat → Int32) × (Nat → Nat → Nat → Int64))} {n : Nat} {P : Nat → Nat → Nat} {F : Nat → Nat → Int32} {A : Nat → Nat → Nat → Int32} {J : Nat → Nat → Nat → Int64} {x1 : Int32} {x2 : Int32} {x3 : Int32} (hK2 : ∀ (a0 : Nat → Nat → Nat) (a1 : Nat → Nat → Int32) (a2 : Nat → Nat → Nat → Int32) (a3 : Nat → Nat → Nat → Int64) (a4 : Int32) (a5 : Int32) (a6 : Int32), KS F0 a1 → po (K2 a0 a1 a2 a3 a4 a5 a6) (fun r => KS F0 r.2.2.1)) (h : KS F0 F) : po (e_Evening_isSuspect_92 K2 n P F A J x1 x2 x3) (fun r => KS F0 r.2.2.1) := by
  unfold e_Evening_isSuspect_92
  repeat' (first
    | with_reducible exact po_some (by assumption)
    | (with_reducible refine ks_pf (by assumption) (by simp) ?_; intro _ _)
    | with_reducible exact hK2 _ _ _ _ _ _ _ (by assumption)
    | (intros; with_reducible exact hK2 _ _ _ _ _ _ _ (by assumption))
    | with_reducible refine po_cond (fun _ => ?_) (fun _ => ?_)
    | with_reducible refine po_bind_cond (fun _ => ?_) (fun _ => ?_)
    | with_reducible refine po_bl (fun _ _ => ?_))
theorem ks_e_Evening_isSuspect_2   : ∀ {n : Nat} {P : Nat → Nat → Nat} {F : Nat → Nat → Int32} {A : Nat → Nat → Nat → Int32} {J : Nat → Nat → Nat → Int64} {x1 : Int32} {x2 : Int32} {x3 : Int32}, KS F0 F → po (e_Evening_isSuspect_2  n P F A J x1 x2 x3) (fun r => KS F0 r.2.2.1) := by
  intro n
  induction n with
  | zero => intro P F A J x1 x2 x3 _ r hr; cases hr
  | succ n ih =>
    intro P F A J x1 x2 x3 h
    unfold e_Evening_isSuspect_2
    repeat' (first
      | with_reducible exact po_some (by assumption)
      | (with_reducible refine ks_pf (by assumption) (by simp) ?_; intro _ _)
      | with_reducible refine ks_e_Evening_isSuspect_92 ?_ (by assumption)
      | (with_reducible refine po_call (ks_e_Evening_isSuspect_92 ?_ (by assumption)) ?_)
      | with_reducible exact ks_e_State_copy (by assumption)
      | (with_reducible refine po_call (ks_e_State_copy (by assumption)) ?_; rintro ⟨_, _, _, _, _⟩ _; try dsimp only)
      | with_reducible exact ks_e_Sleep_goTill (by assumption)
      | (with_reducible refine po_call (ks_e_Sleep_goTill (by assumption)) ?_; rintro ⟨_, _, _, _, _⟩ _; try dsimp only)
      | with_reducible exact ih (by assumption)
      | (with_reducible refine po_call (ih (by assumption)) ?_; rintro ⟨_, _, _, _, _⟩ _; try dsimp only)
      | (intros; with_reducible exact ih (by assumption))
      | with_reducible refine po_cond (fun _ => ?_) (fun _ => ?_)
      | with_reducible refine po_bind_cond (fun _ => ?_) (fun _ => ?_)
      | with_reducible refine po_bl (fun _ _ => ?_))
theorem ks_e_Evening_isSuspect {n : Nat} {P : Nat → Nat → Nat} {F : Nat → Nat → Int32} {A : Nat → Nat → Nat → Int32} {J : Nat → Nat → Nat → Int64} {x1 : Int32} {x2 : Int32}  (h : KS F0 F) : po (e_Evening_isSuspect n P F A J x1 x2) (fun r => KS F0 r.2.2.1) := by
  unfold e_Evening_isSuspect
  repeat' (first
    | with_reducible exact po_some (by assumption)
    | (with_reducible refine ks_pf (by assumption) (by simp) ?_; intro _ _)
    | with_reducible exact ks_e_Evening_isSuspect_2 (by assumption)
    | (with_reducible refine po_call (ks_e_Evening_isSuspect_2 (by assumption)) ?_; rintro ⟨_, _, _, _, _⟩ _; try dsimp only)
    | with_reducible refine po_cond (fun _ => ?_) (fun _ => ?_)
    | with_reducible refine po_bind_cond (fun _ => ?_) (fun _ => ?_)
    | with_reducible refine po_bl (fun _ _ => ?_))
theorem ks_e_Evening_suspectBits_30 {K4 : (Nat → Nat → Nat) → (Nat → Nat → Int32) → (Nat → Nat → Nat → Int32) → (Nat → Nat → Nat → Int64) → Int32 → Int32 → Int32 → Option (Int32 × (Nat → Nat → Nat) × (Nat → Nat → Int32) × (Nat → Nat → Nat → Int32) × (Nat → Nat → Nat → Int64))} {n : Nat} {P : Nat → Nat → Nat} {F : Nat → Nat → Int32} {A : Nat → Nat → Nat → Int32} {J : Nat → Nat → Nat → Int64} {x1 : Int32} {x2 : Int32} {x3 : Int32} (hK4 : ∀ (a0 : Nat → Nat → Nat) (a1 : Nat → Nat → Int32) (a2 : Nat → Nat → Nat → Int32) (a3 : Nat → Nat → Nat → Int64) (a4 : Int32) (a5 : Int32) (a6 : Int32), KS F0 a1 → po (K4 a0 a1 a2 a3 a4 a5 a6) (fun r => KS F0 r.2.2.1)) (h : KS F0 F) : po (e_Evening_suspectBits_30 K4 n P F A J x1 x2 x3) (fun r => KS F0 r.2.2.1) := by
  unfold e_Evening_suspectBits_30
  repeat' (first
    | with_reducible exact po_some (by assumption)
    | (with_reducible refine ks_pf (by assumption) (by simp) ?_; intro _ _)
    | with_reducible exact hK4 _ _ _ _ _ _ _ (by assumption)
    | (intros; with_reducible exact hK4 _ _ _ _ _ _ _ (by assumption))
    | with_reducible refine po_cond (fun _ => ?_) (fun _ => ?_)
    | with_reducible refine po_bind_cond (fun _ => ?_) (fun _ => ?_)
    | with_reducible refine po_bl (fun _ _ => ?_))
theorem ks_e_Evening_suspectBits_4   : ∀ {n : Nat} {P : Nat → Nat → Nat} {F : Nat → Nat → Int32} {A : Nat → Nat → Nat → Int32} {J : Nat → Nat → Nat → Int64} {x1 : Int32} {x2 : Int32} {x3 : Int32}, KS F0 F → po (e_Evening_suspectBits_4  n P F A J x1 x2 x3) (fun r => KS F0 r.2.2.1) := by
  intro n
  induction n with
  | zero => intro P F A J x1 x2 x3 _ r hr; cases hr
  | succ n ih =>
    intro P F A J x1 x2 x3 h
    unfold e_Evening_suspectBits_4
    repeat' (first
      | with_reducible exact po_some (by assumption)
      | (with_reducible refine ks_pf (by assumption) (by simp) ?_; intro _ _)
      | with_reducible exact ks_e_Evening_isSuspect (by assumption)
      | (with_reducible refine po_call (ks_e_Evening_isSuspect (by assumption)) ?_; rintro ⟨_, _, _, _, _⟩ _; try dsimp only)
      | with_reducible refine ks_e_Evening_suspectBits_30 ?_ (by assumption)
      | (with_reducible refine po_call (ks_e_Evening_suspectBits_30 ?_ (by assumption)) ?_)
      | with_reducible exact ih (by assumption)
      | (with_reducible refine po_call (ih (by assumption)) ?_; rintro ⟨_, _, _, _, _⟩ _; try dsimp only)
      | (intros; with_reducible exact ih (by assumption))
      | with_reducible refine po_cond (fun _ => ?_) (fun _ => ?_)
      | with_reducible refine po_bind_cond (fun _ => ?_) (fun _ => ?_)
      | with_reducible refine po_bl (fun _ _ => ?_))
theorem ks_e_Evening_suspectBits {n : Nat} {P : Nat → Nat → Nat} {F : Nat → Nat → Int32} {A : Nat → Nat → Nat → Int32} {J : Nat → Nat → Nat → Int64} {x1 : Int32}  (h : KS F0 F) : po (e_Evening_suspectBits n P F A J x1) (fun r => KS F0 r.2.2.1) := by
  unfold e_Evening_suspectBits
  repeat' (first
    | with_reducible exact po_some (by assumption)
    | (with_reducible refine ks_pf (by assumption) (by simp) ?_; intro _ _)
    | with_reducible exact ks_e_Evening_suspectBits_4 (by assumption)
    | (with_reducible refine po_call (ks_e_Evening_suspectBits_4 (by assumption)) ?_; rintro ⟨_, _, _, _, _⟩ _; try dsimp only)
    | with_reducible refine po_cond (fun _ => ?_) (fun _ => ?_)
    | with_reducible refine po_bind_cond (fun _ => ?_) (fun _ => ?_)
    | with_reducible refine po_bl (fun _ _ => ?_))
theorem ks_e_SleepWork_suspects {n : Nat} {P : Nat → Nat → Nat} {F : Nat → Nat → Int32} {A : Nat → Nat → Nat → Int32} {J : Nat → Nat → Nat → Int64} {x1 : Int32}  (h : KS F0 F) : po (e_SleepWork_suspects n P F A J x1) (fun r => KS F0 r.2.2.1) := by
  unfold e_SleepWork_suspects
  repeat' (first
    | with_reducible exact po_some (by assumption)
    | (with_reducible refine ks_pf (by assumption) (by simp) ?_; intro _ _)
    | with_reducible exact ks_e_Evening_suspectBits (by assumption)
    | (with_reducible refine po_call (ks_e_Evening_suspectBits (by assumption)) ?_; rintro ⟨_, _, _, _, _⟩ _; try dsimp only)
    | with_reducible refine po_cond (fun _ => ?_) (fun _ => ?_)
    | with_reducible refine po_bind_cond (fun _ => ?_) (fun _ => ?_)
    | with_reducible refine po_bl (fun _ _ => ?_))
theorem ks_e_Evening_fittingPairs_133 {K6 : (Nat → Nat → Nat) → (Nat → Nat → Int32) → (Nat → Nat → Nat → Int32) → (Nat → Nat → Nat → Int64) → Int32 → Int32 → Int32 → Int32 → Int32 → Option (Int32 × (Nat → Nat → Nat) × (Nat → Nat → Int32) × (Nat → Nat → Nat → Int32) × (Nat → Nat → Nat → Int64))} {n : Nat} {P : Nat → Nat → Nat} {F : Nat → Nat → Int32} {A : Nat → Nat → Nat → Int32} {J : Nat → Nat → Nat → Int64} {x1 : Int32} {x2 : Int32} {x3 : Int32} {x4 : Int32} {x5 : Int32} (hK6 : ∀ (a0 : Nat → Nat → Nat) (a1 : Nat → Nat → Int32) (a2 : Nat → Nat → Nat → Int32) (a3 : Nat → Nat → Nat → Int64) (a4 : Int32) (a5 : Int32) (a6 : Int32) (a7 : Int32) (a8 : Int32), KS F0 a1 → po (K6 a0 a1 a2 a3 a4 a5 a6 a7 a8) (fun r => KS F0 r.2.2.1)) (h : KS F0 F) : po (e_Evening_fittingPairs_133 K6 n P F A J x1 x2 x3 x4 x5) (fun r => KS F0 r.2.2.1) := by
  unfold e_Evening_fittingPairs_133
  repeat' (first
    | with_reducible exact po_some (by assumption)
    | (with_reducible refine ks_pf (by assumption) (by simp) ?_; intro _ _)
    | with_reducible exact hK6 _ _ _ _ _ _ _ _ _ (by assumption)
    | (intros; with_reducible exact hK6 _ _ _ _ _ _ _ _ _ (by assumption))
    | with_reducible refine po_cond (fun _ => ?_) (fun _ => ?_)
    | with_reducible refine po_bind_cond (fun _ => ?_) (fun _ => ?_)
    | with_reducible refine po_bl (fun _ _ => ?_))
theorem ks_e_Evening_fittingPairs_127 {K6 : (Nat → Nat → Nat) → (Nat → Nat → Int32) → (Nat → Nat → Nat → Int32) → (Nat → Nat → Nat → Int64) → Int32 → Int32 → Int32 → Int32 → Int32 → Option (Int32 × (Nat → Nat → Nat) × (Nat → Nat → Int32) × (Nat → Nat → Nat → Int32) × (Nat → Nat → Nat → Int64))} {K16 : (Nat → Nat → Nat) → (Nat → Nat → Int32) → (Nat → Nat → Nat → Int32) → (Nat → Nat → Nat → Int64) → Int32 → Int32 → Int32 → Int32 → Int32 → Int32 → Option (Int32 × (Nat → Nat → Nat) × (Nat → Nat → Int32) × (Nat → Nat → Nat → Int32) × (Nat → Nat → Nat → Int64))} {n : Nat} {P : Nat → Nat → Nat} {F : Nat → Nat → Int32} {A : Nat → Nat → Nat → Int32} {J : Nat → Nat → Nat → Int64} {x1 : Int32} {x2 : Int32} {x3 : Int32} {x4 : Int32} {x5 : Int32} {x6 : Int32} (hK6 : ∀ (a0 : Nat → Nat → Nat) (a1 : Nat → Nat → Int32) (a2 : Nat → Nat → Nat → Int32) (a3 : Nat → Nat → Nat → Int64) (a4 : Int32) (a5 : Int32) (a6 : Int32) (a7 : Int32) (a8 : Int32), KS F0 a1 → po (K6 a0 a1 a2 a3 a4 a5 a6 a7 a8) (fun r => KS F0 r.2.2.1)) (hK16 : ∀ (a0 : Nat → Nat → Nat) (a1 : Nat → Nat → Int32) (a2 : Nat → Nat → Nat → Int32) (a3 : Nat → Nat → Nat → Int64) (a4 : Int32) (a5 : Int32) (a6 : Int32) (a7 : Int32) (a8 : Int32) (a9 : Int32), KS F0 a1 → po (K16 a0 a1 a2 a3 a4 a5 a6 a7 a8 a9) (fun r => KS F0 r.2.2.1)) (h : KS F0 F) : po (e_Evening_fittingPairs_127 K6 K16 n P F A J x1 x2 x3 x4 x5 x6) (fun r => KS F0 r.2.2.1) := by
  unfold e_Evening_fittingPairs_127
  repeat' (first
    | with_reducible exact po_some (by assumption)
    | (with_reducible refine ks_pf (by assumption) (by simp) ?_; intro _ _)
    | with_reducible exact hK6 _ _ _ _ _ _ _ _ _ (by assumption)
    | (intros; with_reducible exact hK6 _ _ _ _ _ _ _ _ _ (by assumption))
    | with_reducible exact hK16 _ _ _ _ _ _ _ _ _ _ (by assumption)
    | (intros; with_reducible exact hK16 _ _ _ _ _ _ _ _ _ _ (by assumption))
    | with_reducible refine po_cond (fun _ => ?_) (fun _ => ?_)
    | with_reducible refine po_bind_cond (fun _ => ?_) (fun _ => ?_)
    | with_reducible refine po_bl (fun _ _ => ?_))
theorem ks_e_Evening_fittingPairs_124 {K6 : (Nat → Nat → Nat) → (Nat → Nat → Int32) → (Nat → Nat → Nat → Int32) → (Nat → Nat → Nat → Int64) → Int32 → Int32 → Int32 → Int32 → Int32 → Option (Int32 × (Nat → Nat → Nat) × (Nat → Nat → Int32) × (Nat → Nat → Nat → Int32) × (Nat → Nat → Nat → Int64))} {K16 : (Nat → Nat → Nat) → (Nat → Nat → Int32) → (Nat → Nat → Nat → Int32) → (Nat → Nat → Nat → Int64) → Int32 → Int32 → Int32 → Int32 → Int32 → Int32 → Option (Int32 × (Nat → Nat → Nat) × (Nat → Nat → Int32) × (Nat → Nat → Nat → Int32) × (Nat → Nat → Nat → Int64))} {n : Nat} {P : Nat → Nat → Nat} {F : Nat → Nat → Int32} {A : Nat → Nat → Nat → Int32} {J : Nat → Nat → Nat → Int64} {x1 : Int32} {x2 : Int32} {x3 : Int32} {x5 : Int32} {x6 : Int32} {s0 : Int32} {s1 : Int32} (hK6 : ∀ (a0 : Nat → Nat → Nat) (a1 : Nat → Nat → Int32) (a2 : Nat → Nat → Nat → Int32) (a3 : Nat → Nat → Nat → Int64) (a4 : Int32) (a5 : Int32) (a6 : Int32) (a7 : Int32) (a8 : Int32), KS F0 a1 → po (K6 a0 a1 a2 a3 a4 a5 a6 a7 a8) (fun r => KS F0 r.2.2.1)) (hK16 : ∀ (a0 : Nat → Nat → Nat) (a1 : Nat → Nat → Int32) (a2 : Nat → Nat → Nat → Int32) (a3 : Nat → Nat → Nat → Int64) (a4 : Int32) (a5 : Int32) (a6 : Int32) (a7 : Int32) (a8 : Int32) (a9 : Int32), KS F0 a1 → po (K16 a0 a1 a2 a3 a4 a5 a6 a7 a8 a9) (fun r => KS F0 r.2.2.1)) (h : KS F0 F) : po (e_Evening_fittingPairs_124 K6 K16 n P F A J x1 x2 x3 x5 x6 s0 s1) (fun r => KS F0 r.2.2.1) := by
  unfold e_Evening_fittingPairs_124
  repeat' (first
    | with_reducible exact po_some (by assumption)
    | (with_reducible refine ks_pf (by assumption) (by simp) ?_; intro _ _)
    | with_reducible refine ks_e_Evening_fittingPairs_127 ?_ ?_ (by assumption)
    | (with_reducible refine po_call (ks_e_Evening_fittingPairs_127 ?_ ?_ (by assumption)) ?_)
    | with_reducible exact hK6 _ _ _ _ _ _ _ _ _ (by assumption)
    | (intros; with_reducible exact hK6 _ _ _ _ _ _ _ _ _ (by assumption))
    | with_reducible exact hK16 _ _ _ _ _ _ _ _ _ _ (by assumption)
    | (intros; with_reducible exact hK16 _ _ _ _ _ _ _ _ _ _ (by assumption))
    | with_reducible refine po_cond (fun _ => ?_) (fun _ => ?_)
    | with_reducible refine po_bind_cond (fun _ => ?_) (fun _ => ?_)
    | with_reducible refine po_bl (fun _ _ => ?_))
theorem ks_e_Evening_fittingPairs_16 {K6 : (Nat → Nat → Nat) → (Nat → Nat → Int32) → (Nat → Nat → Nat → Int32) → (Nat → Nat → Nat → Int64) → Int32 → Int32 → Int32 → Int32 → Int32 → Option (Int32 × (Nat → Nat → Nat) × (Nat → Nat → Int32) × (Nat → Nat → Nat → Int32) × (Nat → Nat → Nat → Int64))} (hK6 : ∀ (a0 : Nat → Nat → Nat) (a1 : Nat → Nat → Int32) (a2 : Nat → Nat → Nat → Int32) (a3 : Nat → Nat → Nat → Int64) (a4 : Int32) (a5 : Int32) (a6 : Int32) (a7 : Int32) (a8 : Int32), KS F0 a1 → po (K6 a0 a1 a2 a3 a4 a5 a6 a7 a8) (fun r => KS F0 r.2.2.1)) : ∀ {n : Nat} {P : Nat → Nat → Nat} {F : Nat → Nat → Int32} {A : Nat → Nat → Nat → Int32} {J : Nat → Nat → Nat → Int64} {x1 : Int32} {x2 : Int32} {x3 : Int32} {x4 : Int32} {x5 : Int32} {x6 : Int32}, KS F0 F → po (e_Evening_fittingPairs_16 K6 n P F A J x1 x2 x3 x4 x5 x6) (fun r => KS F0 r.2.2.1) := by
  intro n
  induction n with
  | zero => intro P F A J x1 x2 x3 x4 x5 x6 _ r hr; cases hr
  | succ n ih =>
    intro P F A J x1 x2 x3 x4 x5 x6 h
    unfold e_Evening_fittingPairs_16
    repeat' (first
      | with_reducible exact po_some (by assumption)
      | (with_reducible refine ks_pf (by assumption) (by simp) ?_; intro _ _)
      | with_reducible refine ks_e_Evening_fittingPairs_133 ?_ (by assumption)
      | (with_reducible refine po_call (ks_e_Evening_fittingPairs_133 ?_ (by assumption)) ?_)
      | with_reducible refine ks_e_Evening_fittingPairs_127 ?_ ?_ (by assumption)
      | (with_reducible refine po_call (ks_e_Evening_fittingPairs_127 ?_ ?_ (by assumption)) ?_)
      | with_reducible exact ks_e_State_copy (by assumption)
      | (with_reducible refine po_call (ks_e_State_copy (by assumption)) ?_; rintro ⟨_, _, _, _, _⟩ _; try dsimp only)
      | with_reducible exact ks_e_Sleep_goTill (by assumption)
      | (with_reducible refine po_call (ks_e_Sleep_goTill (by assumption)) ?_; rintro ⟨_, _, _, _, _⟩ _; try dsimp only)
      | with_reducible refine ks_e_Evening_fittingPairs_124 ?_ ?_ (by assumption)
      | (with_reducible refine po_call (ks_e_Evening_fittingPairs_124 ?_ ?_ (by assumption)) ?_)
      | with_reducible exact hK6 _ _ _ _ _ _ _ _ _ (by assumption)
      | (intros; with_reducible exact hK6 _ _ _ _ _ _ _ _ _ (by assumption))
      | with_reducible exact ih (by assumption)
      | (with_reducible refine po_call (ih (by assumption)) ?_; rintro ⟨_, _, _, _, _⟩ _; try dsimp only)
      | (intros; with_reducible exact ih (by assumption))
      | with_reducible refine po_cond (fun _ => ?_) (fun _ => ?_)
      | with_reducible refine po_bind_cond (fun _ => ?_) (fun _ => ?_)
      | with_reducible refine po_bl (fun _ _ => ?_))
theorem ks_e_Evening_fittingPairs_6   : ∀ {n : Nat} {P : Nat → Nat → Nat} {F : Nat → Nat → Int32} {A : Nat → Nat → Nat → Int32} {J : Nat → Nat → Nat → Int64} {x1 : Int32} {x2 : Int32} {x3 : Int32} {x4 : Int32} {x5 : Int32}, KS F0 F → po (e_Evening_fittingPairs_6  n P F A J x1 x2 x3 x4 x5) (fun r => KS F0 r.2.2.1) := by
  intro n
  induction n with
  | zero => intro P F A J x1 x2 x3 x4 x5 _ r hr; cases hr
  | succ n ih =>
    intro P F A J x1 x2 x3 x4 x5 h
    unfold e_Evening_fittingPairs_6
    repeat' (first
      | with_reducible exact po_some (by assumption)
      | (with_reducible refine ks_pf (by assumption) (by simp) ?_; intro _ _)
      | with_reducible refine ks_e_Evening_fittingPairs_16 ?_ (by assumption)
      | (with_reducible refine po_call (ks_e_Evening_fittingPairs_16 ?_ (by assumption)) ?_)
      | with_reducible exact ih (by assumption)
      | (with_reducible refine po_call (ih (by assumption)) ?_; rintro ⟨_, _, _, _, _⟩ _; try dsimp only)
      | (intros; with_reducible exact ih (by assumption))
      | with_reducible refine po_cond (fun _ => ?_) (fun _ => ?_)
      | with_reducible refine po_bind_cond (fun _ => ?_) (fun _ => ?_)
      | with_reducible refine po_bl (fun _ _ => ?_))
theorem ks_e_Evening_fittingPairs {n : Nat} {P : Nat → Nat → Nat} {F : Nat → Nat → Int32} {A : Nat → Nat → Nat → Int32} {J : Nat → Nat → Nat → Int64} {x1 : Int32} {x2 : Int32} {x3 : Int32}  (h : KS F0 F) : po (e_Evening_fittingPairs n P F A J x1 x2 x3) (fun r => KS F0 r.2.2.1) := by
  unfold e_Evening_fittingPairs
  repeat' (first
    | with_reducible exact po_some (by assumption)
    | (with_reducible refine ks_pf (by assumption) (by simp) ?_; intro _ _)
    | with_reducible exact ks_e_Evening_fittingPairs_6 (by assumption)
    | (with_reducible refine po_call (ks_e_Evening_fittingPairs_6 (by assumption)) ?_; rintro ⟨_, _, _, _, _⟩ _; try dsimp only)
    | with_reducible refine po_cond (fun _ => ?_) (fun _ => ?_)
    | with_reducible refine po_bind_cond (fun _ => ?_) (fun _ => ?_)
    | with_reducible refine po_bl (fun _ _ => ?_))
theorem ks_e_SleepWork_pairs {n : Nat} {P : Nat → Nat → Nat} {F : Nat → Nat → Int32} {A : Nat → Nat → Nat → Int32} {J : Nat → Nat → Nat → Int64} {x1 : Int32} {x2 : Int32} {x3 : Int32}  (h : KS F0 F) : po (e_SleepWork_pairs n P F A J x1 x2 x3) (fun r => KS F0 r.2.2.1) := by
  unfold e_SleepWork_pairs
  repeat' (first
    | with_reducible exact po_some (by assumption)
    | (with_reducible refine ks_pf (by assumption) (by simp) ?_; intro _ _)
    | with_reducible exact ks_e_Evening_fittingPairs (by assumption)
    | (with_reducible refine po_call (ks_e_Evening_fittingPairs (by assumption)) ?_; rintro ⟨_, _, _, _, _⟩ _; try dsimp only)
    | with_reducible refine po_cond (fun _ => ?_) (fun _ => ?_)
    | with_reducible refine po_bind_cond (fun _ => ?_) (fun _ => ?_)
    | with_reducible refine po_bl (fun _ _ => ?_))
theorem ks_e_Tape_addWord_3   : ∀ {n : Nat} {P : Nat → Nat → Nat} {F : Nat → Nat → Int32} {A : Nat → Nat → Nat → Int32} {J : Nat → Nat → Nat → Int64} {x1 : Int32} {x2 : Int32}, KS F0 F → po (e_Tape_addWord_3  n P F A J x1 x2) (fun r => KS F0 r.2.2.1) := by
  intro n
  induction n with
  | zero => intro P F A J x1 x2 _ r hr; cases hr
  | succ n ih =>
    intro P F A J x1 x2 h
    unfold e_Tape_addWord_3
    repeat' (first
      | with_reducible exact po_some (by assumption)
      | (with_reducible refine ks_pf (by assumption) (by simp) ?_; intro _ _)
      | with_reducible exact ih (by assumption)
      | (with_reducible refine po_call (ih (by assumption)) ?_; rintro ⟨_, _, _, _, _⟩ _; try dsimp only)
      | (intros; with_reducible exact ih (by assumption))
      | with_reducible refine po_cond (fun _ => ?_) (fun _ => ?_)
      | with_reducible refine po_bind_cond (fun _ => ?_) (fun _ => ?_)
      | with_reducible refine po_bl (fun _ _ => ?_))
theorem ks_e_Tape_addWord {n : Nat} {P : Nat → Nat → Nat} {F : Nat → Nat → Int32} {A : Nat → Nat → Nat → Int32} {J : Nat → Nat → Nat → Int64} {x1 : Int32}  (h : KS F0 F) : po (e_Tape_addWord n P F A J x1) (fun r => KS F0 r.2.2.1) := by
  unfold e_Tape_addWord
  repeat' (first
    | with_reducible exact po_some (by assumption)
    | (with_reducible refine ks_pf (by assumption) (by simp) ?_; intro _ _)
    | with_reducible exact ks_e_Tape_addWord_3 (by assumption)
    | (with_reducible refine po_call (ks_e_Tape_addWord_3 (by assumption)) ?_; rintro ⟨_, _, _, _, _⟩ _; try dsimp only)
    | with_reducible refine po_cond (fun _ => ?_) (fun _ => ?_)
    | with_reducible refine po_bind_cond (fun _ => ?_) (fun _ => ?_)
    | with_reducible refine po_bl (fun _ _ => ?_))
theorem ks_e_SleepWork_feed {n : Nat} {P : Nat → Nat → Nat} {F : Nat → Nat → Int32} {A : Nat → Nat → Nat → Int32} {J : Nat → Nat → Nat → Int64} {x1 : Int32} {x2 : Int32} {x3 : Int32} {x4 : Int32} {x5 : Int32}  (h : KS F0 F) : po (e_SleepWork_feed n P F A J x1 x2 x3 x4 x5) (fun r => KS F0 r.2.2.1) := by
  unfold e_SleepWork_feed
  repeat' (first
    | with_reducible exact po_some (by assumption)
    | (with_reducible refine ks_pf (by assumption) (by simp) ?_; intro _ _)
    | with_reducible exact ks_e_Tape_addWord (by assumption)
    | (with_reducible refine po_call (ks_e_Tape_addWord (by assumption)) ?_; rintro ⟨_, _, _, _, _⟩ _; try dsimp only)
    | with_reducible refine po_cond (fun _ => ?_) (fun _ => ?_)
    | with_reducible refine po_bind_cond (fun _ => ?_) (fun _ => ?_)
    | with_reducible refine po_bl (fun _ _ => ?_))
theorem ks_e_SleepWork_back {P : Nat → Nat → Nat} {F : Nat → Nat → Int32} {A : Nat → Nat → Nat → Int32} {J : Nat → Nat → Nat → Int64} {x1 : Int32}  (h : KS F0 F) : po (e_SleepWork_back P F A J x1) (fun r => KS F0 r.2.2.1) := by
  unfold e_SleepWork_back
  repeat' (first
    | with_reducible exact po_some (by assumption)
    | (with_reducible refine ks_pf (by assumption) (by simp) ?_; intro _ _)
    | with_reducible refine po_cond (fun _ => ?_) (fun _ => ?_)
    | with_reducible refine po_bind_cond (fun _ => ?_) (fun _ => ?_)
    | with_reducible refine po_bl (fun _ _ => ?_))
theorem ks_e_Evening_goBy {n : Nat} {P : Nat → Nat → Nat} {F : Nat → Nat → Int32} {A : Nat → Nat → Nat → Int32} {J : Nat → Nat → Nat → Int64}  (h : KS F0 F) : po (e_Evening_goBy n P F A J) (fun r => KS F0 r.2.2.1) := by
  unfold e_Evening_goBy
  repeat' (first
    | with_reducible exact po_some (by assumption)
    | (with_reducible refine ks_pf (by assumption) (by simp) ?_; intro _ _)
    | with_reducible exact ks_e_Sleep_goTill (by assumption)
    | (with_reducible refine po_call (ks_e_Sleep_goTill (by assumption)) ?_; rintro ⟨_, _, _, _, _⟩ _; try dsimp only)
    | with_reducible exact ks_e_Evening_setStale (by assumption)
    | (with_reducible refine po_call (ks_e_Evening_setStale (by assumption)) ?_; rintro ⟨_, _, _, _, _⟩ _; try dsimp only)
    | with_reducible refine po_cond (fun _ => ?_) (fun _ => ?_)
    | with_reducible refine po_bind_cond (fun _ => ?_) (fun _ => ?_)
    | with_reducible refine po_bl (fun _ _ => ?_))
theorem ks_e_Ways_drop {P : Nat → Nat → Nat} {F : Nat → Nat → Int32} {A : Nat → Nat → Nat → Int32} {J : Nat → Nat → Nat → Int64}  (h : KS F0 F) : po (e_Ways_drop P F A J) (fun r => KS F0 r.2.2.1) := by
  unfold e_Ways_drop
  repeat' (first
    | with_reducible exact po_some (by assumption)
    | (with_reducible refine ks_pf (by assumption) (by simp) ?_; intro _ _)
    | with_reducible refine po_cond (fun _ => ?_) (fun _ => ?_)
    | with_reducible refine po_bind_cond (fun _ => ?_) (fun _ => ?_)
    | with_reducible refine po_bl (fun _ _ => ?_))
theorem ks_e_Evening_enter {P : Nat → Nat → Nat} {F : Nat → Nat → Int32} {A : Nat → Nat → Nat → Int32} {J : Nat → Nat → Nat → Int64} {r1 : Nat}  (h : KS F0 F) : po (e_Evening_enter P F A J r1) (fun r => KS F0 r.2.2.1) := by
  unfold e_Evening_enter
  repeat' (first
    | with_reducible exact po_some (by assumption)
    | (with_reducible refine ks_pf (by assumption) (by simp) ?_; intro _ _)
    | with_reducible exact ks_e_Ways_drop (by assumption)
    | (with_reducible refine po_call (ks_e_Ways_drop (by assumption)) ?_; rintro ⟨_, _, _, _, _⟩ _; try dsimp only)
    | with_reducible exact ks_e_Evening_setStale (by assumption)
    | (with_reducible refine po_call (ks_e_Evening_setStale (by assumption)) ?_; rintro ⟨_, _, _, _, _⟩ _; try dsimp only)
    | with_reducible refine po_cond (fun _ => ?_) (fun _ => ?_)
    | with_reducible refine po_bind_cond (fun _ => ?_) (fun _ => ?_)
    | with_reducible refine po_bl (fun _ _ => ?_))
theorem ks_e_Past_push_35 {P : Nat → Nat → Nat} {F : Nat → Nat → Int32} {A : Nat → Nat → Nat → Int32} {J : Nat → Nat → Nat → Int64} {r1 : Nat}  (h : KS F0 F) : po (e_Past_push_35 P F A J r1) (fun r => KS F0 r.2.2.1) := by
  unfold e_Past_push_35
  repeat' (first
    | with_reducible exact po_some (by assumption)
    | (with_reducible refine ks_pf (by assumption) (by simp) ?_; intro _ _)
    | with_reducible exact ks_e_State_copy (by assumption)
    | (with_reducible refine po_call (ks_e_State_copy (by assumption)) ?_; rintro ⟨_, _, _, _, _⟩ _; try dsimp only)
    | with_reducible refine po_cond (fun _ => ?_) (fun _ => ?_)
    | with_reducible refine po_bind_cond (fun _ => ?_) (fun _ => ?_)
    | with_reducible refine po_bl (fun _ _ => ?_))
theorem ks_e_Evening_arrivals_110 {K5 : (Nat → Nat → Nat) → (Nat → Nat → Int32) → (Nat → Nat → Nat → Int32) → (Nat → Nat → Nat → Int64) → Int32 → Int64 → Int32 → Option (Int64 × (Nat → Nat → Nat) × (Nat → Nat → Int32) × (Nat → Nat → Nat → Int32) × (Nat → Nat → Nat → Int64))} {n : Nat} {P : Nat → Nat → Nat} {F : Nat → Nat → Int32} {A : Nat → Nat → Nat → Int32} {J : Nat → Nat → Nat → Int64} {x1 : Int32} {x4 : Int32} {s0 : Int64} {s1 : Int32} (hK5 : ∀ (a0 : Nat → Nat → Nat) (a1 : Nat → Nat → Int32) (a2 : Nat → Nat → Nat → Int32) (a3 : Nat → Nat → Nat → Int64) (a4 : Int32) (a5 : Int64) (a6 : Int32), KS F0 a1 → po (K5 a0 a1 a2 a3 a4 a5 a6) (fun r => KS F0 r.2.2.1)) (h : KS F0 F) : po (e_Evening_arrivals_110 K5 n P F A J x1 x4 s0 s1) (fun r => KS F0 r.2.2.1) := by
  unfold e_Evening_arrivals_110
  repeat' (first
    | with_reducible exact po_some (by assumption)
    | (with_reducible refine ks_pf (by assumption) (by simp) ?_; intro _ _)
    | with_reducible exact hK5 _ _ _ _ _ _ _ (by assumption)
    | (intros; with_reducible exact hK5 _ _ _ _ _ _ _ (by assumption))
    | with_reducible refine po_cond (fun _ => ?_) (fun _ => ?_)
    | with_reducible refine po_bind_cond (fun _ => ?_) (fun _ => ?_)
    | with_reducible refine po_bl (fun _ _ => ?_))
theorem ks_e_Evening_arrivals_82 {K5 : (Nat → Nat → Nat) → (Nat → Nat → Int32) → (Nat → Nat → Nat → Int32) → (Nat → Nat → Nat → Int64) → Int32 → Int64 → Int32 → Option (Int64 × (Nat → Nat → Nat) × (Nat → Nat → Int32) × (Nat → Nat → Nat → Int32) × (Nat → Nat → Nat → Int64))} {n : Nat} {P : Nat → Nat → Nat} {F : Nat → Nat → Int32} {A : Nat → Nat → Nat → Int32} {J : Nat → Nat → Nat → Int64} {x1 : Int32} {x2 : Int64} {x4 : Int32} {x6 : Int32} (hK5 : ∀ (a0 : Nat → Nat → Nat) (a1 : Nat → Nat → Int32) (a2 : Nat → Nat → Nat → Int32) (a3 : Nat → Nat → Nat → Int64) (a4 : Int32) (a5 : Int64) (a6 : Int32), KS F0 a1 → po (K5 a0 a1 a2 a3 a4 a5 a6) (fun r => KS F0 r.2.2.1)) (h : KS F0 F) : po (e_Evening_arrivals_82 K5 n P F A J x1 x2 x4 x6) (fun r => KS F0 r.2.2.1) := by
  unfold e_Evening_arrivals_82
  repeat' (first
    | with_reducible exact po_some (by assumption)
    | (with_reducible refine ks_pf (by assumption) (by simp) ?_; intro _ _)
    | with_reducible refine ks_e_Evening_arrivals_110 ?_ (by assumption)
    | (with_reducible refine po_call (ks_e_Evening_arrivals_110 ?_ (by assumption)) ?_)
    | with_reducible exact hK5 _ _ _ _ _ _ _ (by assumption)
    | (intros; with_reducible exact hK5 _ _ _ _ _ _ _ (by assumption))
    | with_reducible refine po_cond (fun _ => ?_) (fun _ => ?_)
    | with_reducible refine po_bind_cond (fun _ => ?_) (fun _ => ?_)
    | with_reducible refine po_bl (fun _ _ => ?_))
theorem ks_e_Evening_arrivals_5   : ∀ {n : Nat} {P : Nat → Nat → Nat} {F : Nat → Nat → Int32} {A : Nat → Nat → Nat → Int32} {J : Nat → Nat → Nat → Int64} {x1 : Int32} {x2 : Int64} {x4 : Int32}, KS F0 F → po (e_Evening_arrivals_5  n P F A J x1 x2 x4) (fun r => KS F0 r.2.2.1) := by
  intro n
  induction n with
  | zero => intro P F A J x1 x2 x4 _ r hr; cases hr
  | succ n ih =>
    intro P F A J x1 x2 x4 h
    unfold e_Evening_arrivals_5
    repeat' (first
      | with_reducible exact po_some (by assumption)
      | (with_reducible refine ks_pf (by assumption) (by simp) ?_; intro _ _)
      | with_reducible refine ks_e_Evening_arrivals_82 ?_ (by assumption)
      | (with_reducible refine po_call (ks_e_Evening_arrivals_82 ?_ (by assumption)) ?_)
      | with_reducible exact ks_e_Ways_between (by assumption)
      | (with_reducible refine po_call (ks_e_Ways_between (by assumption)) ?_; rintro ⟨_, _, _, _, _⟩ _; try dsimp only)
      | with_reducible exact ih (by assumption)
      | (with_reducible refine po_call (ih (by assumption)) ?_; rintro ⟨_, _, _, _, _⟩ _; try dsimp only)
      | (intros; with_reducible exact ih (by assumption))
      | with_reducible refine po_cond (fun _ => ?_) (fun _ => ?_)
      | with_reducible refine po_bind_cond (fun _ => ?_) (fun _ => ?_)
      | with_reducible refine po_bl (fun _ _ => ?_))
theorem ks_e_Evening_arrivals {n : Nat} {P : Nat → Nat → Nat} {F : Nat → Nat → Int32} {A : Nat → Nat → Nat → Int32} {J : Nat → Nat → Nat → Int64} {x1 : Int32}  (h : KS F0 F) : po (e_Evening_arrivals n P F A J x1) (fun r => KS F0 r.2.2.1) := by
  unfold e_Evening_arrivals
  repeat' (first
    | with_reducible exact po_some (by assumption)
    | (with_reducible refine ks_pf (by assumption) (by simp) ?_; intro _ _)
    | with_reducible exact ks_e_Evening_arrivals_5 (by assumption)
    | (with_reducible refine po_call (ks_e_Evening_arrivals_5 (by assumption)) ?_; rintro ⟨_, _, _, _, _⟩ _; try dsimp only)
    | with_reducible refine po_cond (fun _ => ?_) (fun _ => ?_)
    | with_reducible refine po_bind_cond (fun _ => ?_) (fun _ => ?_)
    | with_reducible refine po_bl (fun _ _ => ?_))
end H9ex
