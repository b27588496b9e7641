/-! the ways' cache over a night of the class; what tries leave of every evening kept (frames printed by wip/frames.py, tries by wip/quiet/quiet.py) -/
section H9f4
variable {F0 : Nat → Nat → Int32} {A0 : Nat → Nat → Nat → Int32}
/-- the cache is as it was -/
def CK (F0 : Nat → Nat → Int32) (A0 : Nat → Nat → Nat → Int32) (F : Nat → Nat → Int32) (A : Nat → Nat → Nat → Int32) : Prop := F 36 101 = F0 36 101 ∧ A 36 2 = A0 36 2
theorem CK.rfl' {F : Nat → Nat → Int32} {A : Nat → Nat → Nat → Int32} : CK F A F A := ⟨rfl, rfl⟩
theorem ck_pf {γ : Type} {q k : Nat} {x : Int32} {F : Nat → Nat → Int32} {A : Nat → Nat → Nat → Int32} {g : (Nat → Nat → Int32) → Option γ} {Q : γ → Prop} (h : CK F0 A0 F A) (hk : ¬ (36 = q ∧ 101 = k)) (kk : ∀ F', CK F0 A0 F' A → po (g F') Q) : po ((c_pf F q k x).bind g) Q :=
  po_bl (fun F' e => kk F' ⟨((gg_cpf e).2 36 101 hk).trans h.1, h.2⟩)
theorem ck_st {γ : Type} {q o n : Nat} {i x : Int32} {F : Nat → Nat → Int32} {A : Nat → Nat → Nat → Int32} {g : (Nat → Nat → Nat → Int32) → Option γ} {Q : γ → Prop} (h : CK F0 A0 F A) (ho : ¬ (36 = q ∧ 2 = o)) (kk : ∀ A', CK F0 A0 F A' → po (g A') Q) : po ((c_st A q o n i x).bind g) Q :=
  po_bl (fun A' e => kk A' ⟨h.1, ((gg_cst e).2.2.2.2 36 2 ho).trans h.2⟩)
theorem ck_no {p q o : Nat} (h : c_chk 2 p = some q) : ¬ (36 = q ∧ 2 = o) := by
  rintro ⟨rfl, -⟩
  have g := gg_chk h
  rw [← g.2] at g
  exact absurd g.1 (by decide)
theorem ck_e_Sleep_wakeUp_99 {K2 : (Nat → Nat → Nat) → (Nat → Nat → Int32) → (Nat → Nat → Nat → Int32) → (Nat → Nat → Nat → Int64) → Int32 → Option (Unit × (Nat → Nat → Nat) × (Nat → Nat → Int32) × (Nat → Nat → Nat → Int32) × (Nat → Nat → Nat → Int64))} {n : Nat} {P : Nat → Nat → Nat} {F : Nat → Nat → Int32} {A : Nat → Nat → Nat → Int32} {J : Nat → Nat → Nat → Int64} {x1 : Int32} (hK2 : ∀ (a0 : Nat → Nat → Nat) (a1 : Nat → Nat → Int32) (a2 : Nat → Nat → Nat → Int32) (a3 : Nat → Nat → Nat → Int64) (a4 : Int32), CK F0 A0 a1 a2 → po (K2 a0 a1 a2 a3 a4) (fun r => CK F0 A0 r.2.2.1 r.2.2.2.1)) (h : CK F0 A0 F A) : po (e_Sleep_wakeUp_99 K2 n P F A J x1) (fun r => CK F0 A0 r.2.2.1 r.2.2.2.1) := by
  unfold e_Sleep_wakeUp_99
  repeat' (first
    | with_reducible exact po_some (by assumption)
    | (with_reducible refine ck_pf (by assumption) (by decide) ?_; intro _ _)
    | (with_reducible refine ck_st (by assumption) (by decide) ?_; intro _ _)
    | (with_reducible refine ck_st (by assumption) (ck_no (by assumption)) ?_; intro _ _)
    | (with_reducible refine ck_st (by assumption) (by simp) ?_; intro _ _)
    | with_reducible exact hK2 _ _ _ _ _ (by assumption)
    | (intros; with_reducible exact hK2 _ _ _ _ _ (by assumption))
    | with_reducible refine po_cond (fun _ => ?_) (fun _ => ?_)
    | with_reducible refine po_bind_cond (fun _ => ?_) (fun _ => ?_)
    | with_reducible refine po_bl (fun _ _ => ?_))
theorem ck_e_Sleep_wakeUp_98 {K2 : (Nat → Nat → Nat) → (Nat → Nat → Int32) → (Nat → Nat → Nat → Int32) → (Nat → Nat → Nat → Int64) → Int32 → Option (Unit × (Nat → Nat → Nat) × (Nat → Nat → Int32) × (Nat → Nat → Nat → Int32) × (Nat → Nat → Nat → Int64))} {n : Nat} {P : Nat → Nat → Nat} {F : Nat → Nat → Int32} {A : Nat → Nat → Nat → Int32} {J : Nat → Nat → Nat → Int64} {x1 : Int32} {rs0 : Nat} {s1 : Int32} {s2 : Int32} (hK2 : ∀ (a0 : Nat → Nat → Nat) (a1 : Nat → Nat → Int32) (a2 : Nat → Nat → Nat → Int32) (a3 : Nat → Nat → Nat → Int64) (a4 : Int32), CK F0 A0 a1 a2 → po (K2 a0 a1 a2 a3 a4) (fun r => CK F0 A0 r.2.2.1 r.2.2.2.1)) (h : CK F0 A0 F A) : po (e_Sleep_wakeUp_98 K2 n P F A J x1 rs0 s1 s2) (fun r => CK F0 A0 r.2.2.1 r.2.2.2.1) := by
  unfold e_Sleep_wakeUp_98
  repeat' (first
    | with_reducible exact po_some (by assumption)
    | (with_reducible refine ck_pf (by assumption) (by decide) ?_; intro _ _)
    | (with_reducible refine ck_st (by assumption) (by decide) ?_; intro _ _)
    | (with_reducible refine ck_st (by assumption) (ck_no (by assumption)) ?_; intro _ _)
    | (with_reducible refine ck_st (by assumption) (by simp) ?_; intro _ _)
    | with_reducible exact hK2 _ _ _ _ _ (by assumption)
    | (intros; with_reducible exact hK2 _ _ _ _ _ (by assumption))
    | with_reducible refine po_cond (fun _ => ?_) (fun _ => ?_)
    | with_reducible refine po_bind_cond (fun _ => ?_) (fun _ => ?_)
    | with_reducible refine po_bl (fun _ _ => ?_))
theorem ck_e_Sleep_wakeUp_2   : ∀ {n : Nat} {P : Nat → Nat → Nat} {F : Nat → Nat → Int32} {A : Nat → Nat → Nat → Int32} {J : Nat → Nat → Nat → Int64} {x1 : Int32}, CK F0 A0 F A → po (e_Sleep_wakeUp_2  n P F A J x1) (fun r => CK F0 A0 r.2.2.1 r.2.2.2.1) := by
  intro n
  induction n with
  | zero => intro P F A J x1 _ r hr; cases hr
  | succ n ih =>
    intro P F A J x1 h
    unfold e_Sleep_wakeUp_2
    repeat' (first
      | with_reducible exact po_some (by assumption)
      | (with_reducible refine ck_pf (by assumption) (by decide) ?_; intro _ _)
      | (with_reducible refine ck_st (by assumption) (by decide) ?_; intro _ _)
      | (with_reducible refine ck_st (by assumption) (ck_no (by assumption)) ?_; intro _ _)
      | (with_reducible refine ck_st (by assumption) (by simp) ?_; intro _ _)
      | with_reducible refine ck_e_Sleep_wakeUp_99 ?_ (by assumption)
      | (with_reducible refine po_call (ck_e_Sleep_wakeUp_99 ?_ (by assumption)) ?_)
      | with_reducible refine ck_e_Sleep_wakeUp_98 ?_ (by assumption)
      | (with_reducible refine po_call (ck_e_Sleep_wakeUp_98 ?_ (by assumption)) ?_)
      | with_reducible exact ih (by assumption)
      | (with_reducible refine po_call (ih (by assumption)) ?_; rintro ⟨_, _, _, _, _⟩ _; try dsimp only)
      | (intros; with_reducible exact ih (by assumption))
      | with_reducible refine po_cond (fun _ => ?_) (fun _ => ?_)
      | with_reducible refine po_bind_cond (fun _ => ?_) (fun _ => ?_)
      | with_reducible refine po_bl (fun _ _ => ?_))
theorem ck_e_Sleep_wakeUp {n : Nat} {P : Nat → Nat → Nat} {F : Nat → Nat → Int32} {A : Nat → Nat → Nat → Int32} {J : Nat → Nat → Nat → Int64}  (h : CK F0 A0 F A) : po (e_Sleep_wakeUp n P F A J) (fun r => CK F0 A0 r.2.2.1 r.2.2.2.1) := by
  unfold e_Sleep_wakeUp
  repeat' (first
    | with_reducible exact po_some (by assumption)
    | (with_reducible refine ck_pf (by assumption) (by decide) ?_; intro _ _)
    | (with_reducible refine ck_st (by assumption) (by decide) ?_; intro _ _)
    | (with_reducible refine ck_st (by assumption) (ck_no (by assumption)) ?_; intro _ _)
    | (with_reducible refine ck_st (by assumption) (by simp) ?_; intro _ _)
    | with_reducible exact ck_e_Sleep_wakeUp_2 (by assumption)
    | (with_reducible refine po_call (ck_e_Sleep_wakeUp_2 (by assumption)) ?_; rintro ⟨_, _, _, _, _⟩ _; try dsimp only)
    | with_reducible refine po_cond (fun _ => ?_) (fun _ => ?_)
    | with_reducible refine po_bind_cond (fun _ => ?_) (fun _ => ?_)
    | with_reducible refine po_bl (fun _ _ => ?_))
theorem ck_e_Sleep_goTill_119 {n : Nat} {P : Nat → Nat → Nat} {F : Nat → Nat → Int32} {A : Nat → Nat → Nat → Int32} {J : Nat → Nat → Nat → Int64}  (h : CK F0 A0 F A) : po (e_Sleep_goTill_119 n P F A J) (fun r => CK F0 A0 r.2.2.1 r.2.2.2.1) := by
  unfold e_Sleep_goTill_119
  repeat' (first
    | with_reducible exact po_some (by assumption)
    | (with_reducible refine ck_pf (by assumption) (by decide) ?_; intro _ _)
    | (with_reducible refine ck_st (by assumption) (by decide) ?_; intro _ _)
    | (with_reducible refine ck_st (by assumption) (ck_no (by assumption)) ?_; intro _ _)
    | (with_reducible refine ck_st (by assumption) (by simp) ?_; intro _ _)
    | with_reducible exact ck_e_Sleep_wakeUp (by assumption)
    | (with_reducible refine po_call (ck_e_Sleep_wakeUp (by assumption)) ?_; rintro ⟨_, _, _, _, _⟩ _; try dsimp only)
    | with_reducible refine po_cond (fun _ => ?_) (fun _ => ?_)
    | with_reducible refine po_bind_cond (fun _ => ?_) (fun _ => ?_)
    | with_reducible refine po_bl (fun _ _ => ?_))
theorem ck_e_Sleep_finishAll_122 {K2 : (Nat → Nat → Nat) → (Nat → Nat → Int32) → (Nat → Nat → Nat → Int32) → (Nat → Nat → Nat → Int64) → Int32 → Int32 → Option (Unit × (Nat → Nat → Nat) × (Nat → Nat → Int32) × (Nat → Nat → Nat → Int32) × (Nat → Nat → Nat → Int64))} {n : Nat} {P : Nat → Nat → Nat} {F : Nat → Nat → Int32} {A : Nat → Nat → Nat → Int32} {J : Nat → Nat → Nat → Int64} {x1 : Int32} {x2 : Int32} (hK2 : ∀ (a0 : Nat → Nat → Nat) (a1 : Nat → Nat → Int32) (a2 : Nat → Nat → Nat → Int32) (a3 : Nat → Nat → Nat → Int64) (a4 : Int32) (a5 : Int32), CK F0 A0 a1 a2 → po (K2 a0 a1 a2 a3 a4 a5) (fun r => CK F0 A0 r.2.2.1 r.2.2.2.1)) (h : CK F0 A0 F A) : po (e_Sleep_finishAll_122 K2 n P F A J x1 x2) (fun r => CK F0 A0 r.2.2.1 r.2.2.2.1) := by
  unfold e_Sleep_finishAll_122
  repeat' (first
    | with_reducible exact po_some (by assumption)
    | (with_reducible refine ck_pf (by assumption) (by decide) ?_; intro _ _)
    | (with_reducible refine ck_st (by assumption) (by decide) ?_; intro _ _)
    | (with_reducible refine ck_st (by assumption) (ck_no (by assumption)) ?_; intro _ _)
    | (with_reducible refine ck_st (by assumption) (by simp) ?_; intro _ _)
    | with_reducible exact hK2 _ _ _ _ _ _ (by assumption)
    | (intros; with_reducible exact hK2 _ _ _ _ _ _ (by assumption))
    | with_reducible refine po_cond (fun _ => ?_) (fun _ => ?_)
    | with_reducible refine po_bind_cond (fun _ => ?_) (fun _ => ?_)
    | with_reducible refine po_bl (fun _ _ => ?_))
theorem ck_e_House_finish {P : Nat → Nat → Nat} {F : Nat → Nat → Int32} {A : Nat → Nat → Nat → Int32} {J : Nat → Nat → Nat → Int64} {r0 : Nat} {r1 : Nat} {x2 : Int32} {x3 : Int32}  (h : CK F0 A0 F A) : po (e_House_finish P F A J r0 r1 x2 x3) (fun r => CK F0 A0 r.2.2.1 r.2.2.2.1) := by
  unfold e_House_finish
  repeat' (first
    | with_reducible exact po_some (by assumption)
    | (with_reducible refine ck_pf (by assumption) (by decide) ?_; intro _ _)
    | (with_reducible refine ck_st (by assumption) (by decide) ?_; intro _ _)
    | (with_reducible refine ck_st (by assumption) (ck_no (by assumption)) ?_; intro _ _)
    | (with_reducible refine ck_st (by assumption) (by simp) ?_; intro _ _)
    | with_reducible refine po_cond (fun _ => ?_) (fun _ => ?_)
    | with_reducible refine po_bind_cond (fun _ => ?_) (fun _ => ?_)
    | with_reducible refine po_bl (fun _ _ => ?_))
theorem ck_e_Sleep_finishAll_97 {K2 : (Nat → Nat → Nat) → (Nat → Nat → Int32) → (Nat → Nat → Nat → Int32) → (Nat → Nat → Nat → Int64) → Int32 → Int32 → Option (Unit × (Nat → Nat → Nat) × (Nat → Nat → Int32) × (Nat → Nat → Nat → Int32) × (Nat → Nat → Nat → Int64))} {n : Nat} {P : Nat → Nat → Nat} {F : Nat → Nat → Int32} {A : Nat → Nat → Nat → Int32} {J : Nat → Nat → Nat → Int64} {x1 : Int32} {x2 : Int32} {x4 : Int32} (hK2 : ∀ (a0 : Nat → Nat → Nat) (a1 : Nat → Nat → Int32) (a2 : Nat → Nat → Nat → Int32) (a3 : Nat → Nat → Nat → Int64) (a4 : Int32) (a5 : Int32), CK F0 A0 a1 a2 → po (K2 a0 a1 a2 a3 a4 a5) (fun r => CK F0 A0 r.2.2.1 r.2.2.2.1)) (h : CK F0 A0 F A) : po (e_Sleep_finishAll_97 K2 n P F A J x1 x2 x4) (fun r => CK F0 A0 r.2.2.1 r.2.2.2.1) := by
  unfold e_Sleep_finishAll_97
  repeat' (first
    | with_reducible exact po_some (by assumption)
    | (with_reducible refine ck_pf (by assumption) (by decide) ?_; intro _ _)
    | (with_reducible refine ck_st (by assumption) (by decide) ?_; intro _ _)
    | (with_reducible refine ck_st (by assumption) (ck_no (by assumption)) ?_; intro _ _)
    | (with_reducible refine ck_st (by assumption) (by simp) ?_; intro _ _)
    | with_reducible exact hK2 _ _ _ _ _ _ (by assumption)
    | (intros; with_reducible exact hK2 _ _ _ _ _ _ (by assumption))
    | with_reducible refine po_cond (fun _ => ?_) (fun _ => ?_)
    | with_reducible refine po_bind_cond (fun _ => ?_) (fun _ => ?_)
    | with_reducible refine po_bl (fun _ _ => ?_))
theorem ck_e_Sleep_finishAll_2   : ∀ {n : Nat} {P : Nat → Nat → Nat} {F : Nat → Nat → Int32} {A : Nat → Nat → Nat → Int32} {J : Nat → Nat → Nat → Int64} {x1 : Int32} {x2 : Int32}, CK F0 A0 F A → po (e_Sleep_finishAll_2  n P F A J x1 x2) (fun r => CK F0 A0 r.2.2.1 r.2.2.2.1) := by
  intro n
  induction n with
  | zero => intro P F A J x1 x2 _ r hr; cases hr
  | succ n ih =>
    intro P F A J x1 x2 h
    unfold e_Sleep_finishAll_2
    repeat' (first
      | with_reducible exact po_some (by assumption)
      | (with_reducible refine ck_pf (by assumption) (by decide) ?_; intro _ _)
      | (with_reducible refine ck_st (by assumption) (by decide) ?_; intro _ _)
      | (with_reducible refine ck_st (by assumption) (ck_no (by assumption)) ?_; intro _ _)
      | (with_reducible refine ck_st (by assumption) (by simp) ?_; intro _ _)
      | with_reducible refine ck_e_Sleep_finishAll_122 ?_ (by assumption)
      | (with_reducible refine po_call (ck_e_Sleep_finishAll_122 ?_ (by assumption)) ?_)
      | with_reducible exact ck_e_House_finish (by assumption)
      | (with_reducible refine po_call (ck_e_House_finish (by assumption)) ?_; rintro ⟨_, _, _, _, _⟩ _; try dsimp only)
      | with_reducible refine ck_e_Sleep_finishAll_97 ?_ (by assumption)
      | (with_reducible refine po_call (ck_e_Sleep_finishAll_97 ?_ (by assumption)) ?_)
      | with_reducible exact ih (by assumption)
      | (with_reducible refine po_call (ih (by assumption)) ?_; rintro ⟨_, _, _, _, _⟩ _; try dsimp only)
      | (intros; with_reducible exact ih (by assumption))
      | with_reducible refine po_cond (fun _ => ?_) (fun _ => ?_)
      | with_reducible refine po_bind_cond (fun _ => ?_) (fun _ => ?_)
      | with_reducible refine po_bl (fun _ _ => ?_))
theorem ck_e_Sleep_finishAll {n : Nat} {P : Nat → Nat → Nat} {F : Nat → Nat → Int32} {A : Nat → Nat → Nat → Int32} {J : Nat → Nat → Nat → Int64} {x1 : Int32}  (h : CK F0 A0 F A) : po (e_Sleep_finishAll n P F A J x1) (fun r => CK F0 A0 r.2.2.1 r.2.2.2.1) := by
  unfold e_Sleep_finishAll
  repeat' (first
    | with_reducible exact po_some (by assumption)
    | (with_reducible refine ck_pf (by assumption) (by decide) ?_; intro _ _)
    | (with_reducible refine ck_st (by assumption) (by decide) ?_; intro _ _)
    | (with_reducible refine ck_st (by assumption) (ck_no (by assumption)) ?_; intro _ _)
    | (with_reducible refine ck_st (by assumption) (by simp) ?_; intro _ _)
    | with_reducible exact ck_e_Sleep_finishAll_2 (by assumption)
    | (with_reducible refine po_call (ck_e_Sleep_finishAll_2 (by assumption)) ?_; rintro ⟨_, _, _, _, _⟩ _; try dsimp only)
    | with_reducible refine po_cond (fun _ => ?_) (fun _ => ?_)
    | with_reducible refine po_bind_cond (fun _ => ?_) (fun _ => ?_)
    | with_reducible refine po_bl (fun _ _ => ?_))
theorem ck_e_Sleep_goTill_111 {K31 : (Nat → Nat → Nat) → (Nat → Nat → Int32) → (Nat → Nat → Nat → Int32) → (Nat → Nat → Nat → Int64) → Int32 → Int32 → Int32 → Option (Unit × (Nat → Nat → Nat) × (Nat → Nat → Int32) × (Nat → Nat → Nat → Int32) × (Nat → Nat → Nat → Int64))} {n : Nat} {P : Nat → Nat → Nat} {F : Nat → Nat → Int32} {A : Nat → Nat → Nat → Int32} {J : Nat → Nat → Nat → Int64} {x1 : Int32} {x5 : Int32} {s0 : Int32} (hK31 : ∀ (a0 : Nat → Nat → Nat) (a1 : Nat → Nat → Int32) (a2 : Nat → Nat → Nat → Int32) (a3 : Nat → Nat → Nat → Int64) (a4 : Int32) (a5 : Int32) (a6 : Int32), CK F0 A0 a1 a2 → po (K31 a0 a1 a2 a3 a4 a5 a6) (fun r => CK F0 A0 r.2.2.1 r.2.2.2.1)) (h : CK F0 A0 F A) : po (e_Sleep_goTill_111 K31 n P F A J x1 x5 s0) (fun r => CK F0 A0 r.2.2.1 r.2.2.2.1) := by
  unfold e_Sleep_goTill_111
  repeat' (first
    | with_reducible exact po_some (by assumption)
    | (with_reducible refine ck_pf (by assumption) (by decide) ?_; intro _ _)
    | (with_reducible refine ck_st (by assumption) (by decide) ?_; intro _ _)
    | (with_reducible refine ck_st (by assumption) (ck_no (by assumption)) ?_; intro _ _)
    | (with_reducible refine ck_st (by assumption) (by simp) ?_; intro _ _)
    | with_reducible exact hK31 _ _ _ _ _ _ _ (by assumption)
    | (intros; with_reducible exact hK31 _ _ _ _ _ _ _ (by assumption))
    | with_reducible refine po_cond (fun _ => ?_) (fun _ => ?_)
    | with_reducible refine po_bind_cond (fun _ => ?_) (fun _ => ?_)
    | with_reducible refine po_bl (fun _ _ => ?_))
theorem ck_e_Sleep_nextMinute_5   : ∀ {n : Nat} {P : Nat → Nat → Nat} {F : Nat → Nat → Int32} {A : Nat → Nat → Nat → Int32} {J : Nat → Nat → Nat → Int64} {x1 : Int32} {x2 : Int32}, CK F0 A0 F A → po (e_Sleep_nextMinute_5  n P F A J x1 x2) (fun r => CK F0 A0 r.2.2.1 r.2.2.2.1) := by
  intro n
  induction n with
  | zero => intro P F A J x1 x2 _ r hr; cases hr
  | succ n ih =>
    intro P F A J x1 x2 h
    unfold e_Sleep_nextMinute_5
    repeat' (first
      | with_reducible exact po_some (by assumption)
      | (with_reducible refine ck_pf (by assumption) (by decide) ?_; intro _ _)
      | (with_reducible refine ck_st (by assumption) (by decide) ?_; intro _ _)
      | (with_reducible refine ck_st (by assumption) (ck_no (by assumption)) ?_; intro _ _)
      | (with_reducible refine ck_st (by assumption) (by simp) ?_; intro _ _)
      | with_reducible exact ih (by assumption)
      | (with_reducible refine po_call (ih (by assumption)) ?_; rintro ⟨_, _, _, _, _⟩ _; try dsimp only)
      | (intros; with_reducible exact ih (by assumption))
      | with_reducible refine po_cond (fun _ => ?_) (fun _ => ?_)
      | with_reducible refine po_bind_cond (fun _ => ?_) (fun _ => ?_)
      | with_reducible refine po_bl (fun _ _ => ?_))
theorem ck_e_Sleep_nextMinute {n : Nat} {P : Nat → Nat → Nat} {F : Nat → Nat → Int32} {A : Nat → Nat → Nat → Int32} {J : Nat → Nat → Nat → Int64}  (h : CK F0 A0 F A) : po (e_Sleep_nextMinute n P F A J) (fun r => CK F0 A0 r.2.2.1 r.2.2.2.1) := by
  unfold e_Sleep_nextMinute
  repeat' (first
    | with_reducible exact po_some (by assumption)
    | (with_reducible refine ck_pf (by assumption) (by decide) ?_; intro _ _)
    | (with_reducible refine ck_st (by assumption) (by decide) ?_; intro _ _)
    | (with_reducible refine ck_st (by assumption) (ck_no (by assumption)) ?_; intro _ _)
    | (with_reducible refine ck_st (by assumption) (by simp) ?_; intro _ _)
    | with_reducible exact ck_e_Sleep_nextMinute_5 (by assumption)
    | (with_reducible refine po_call (ck_e_Sleep_nextMinute_5 (by assumption)) ?_; rintro ⟨_, _, _, _, _⟩ _; try dsimp only)
    | with_reducible refine po_cond (fun _ => ?_) (fun _ => ?_)
    | with_reducible refine po_bind_cond (fun _ => ?_) (fun _ => ?_)
    | with_reducible refine po_bl (fun _ _ => ?_))
theorem ck_e_Sleep_goTill_96 {K31 : (Nat → Nat → Nat) → (Nat → Nat → Int32) → (Nat → Nat → Nat → Int32) → (Nat → Nat → Nat → Int64) → Int32 → Int32 → Int32 → Option (Unit × (Nat → Nat → Nat) × (Nat → Nat → Int32) × (Nat → Nat → Nat → Int32) × (Nat → Nat → Nat → Int64))} {n : Nat} {P : Nat → Nat → Nat} {F : Nat → Nat → Int32} {A : Nat → Nat → Nat → Int32} {J : Nat → Nat → Nat → Int64} {x1 : Int32} {x4 : Int32} {x5 : Int32} (hK31 : ∀ (a0 : Nat → Nat → Nat) (a1 : Nat → Nat → Int32) (a2 : Nat → Nat → Nat → Int32) (a3 : Nat → Nat → Nat → Int64) (a4 : Int32) (a5 : Int32) (a6 : Int32), CK F0 A0 a1 a2 → po (K31 a0 a1 a2 a3 a4 a5 a6) (fun r => CK F0 A0 r.2.2.1 r.2.2.2.1)) (h : CK F0 A0 F A) : po (e_Sleep_goTill_96 K31 n P F A J x1 x4 x5) (fun r => CK F0 A0 r.2.2.1 r.2.2.2.1) := by
  unfold e_Sleep_goTill_96
  repeat' (first
    | with_reducible exact po_some (by assumption)
    | (with_reducible refine ck_pf (by assumption) (by decide) ?_; intro _ _)
    | (with_reducible refine ck_st (by assumption) (by decide) ?_; intro _ _)
    | (with_reducible refine ck_st (by assumption) (ck_no (by assumption)) ?_; intro _ _)
    | (with_reducible refine ck_st (by assumption) (by simp) ?_; intro _ _)
    | with_reducible refine ck_e_Sleep_goTill_111 ?_ (by assumption)
    | (with_reducible refine po_call (ck_e_Sleep_goTill_111 ?_ (by assumption)) ?_)
    | with_reducible exact ck_e_Sleep_nextMinute (by assumption)
    | (with_reducible refine po_call (ck_e_Sleep_nextMinute (by assumption)) ?_; rintro ⟨_, _, _, _, _⟩ _; try dsimp only)
    | with_reducible exact hK31 _ _ _ _ _ _ _ (by assumption)
    | (intros; with_reducible exact hK31 _ _ _ _ _ _ _ (by assumption))
    | with_reducible refine po_cond (fun _ => ?_) (fun _ => ?_)
    | with_reducible refine po_bind_cond (fun _ => ?_) (fun _ => ?_)
    | with_reducible refine po_bl (fun _ _ => ?_))
theorem ck_e_Sleep_goTill_90 {K31 : (Nat → Nat → Nat) → (Nat → Nat → Int32) → (Nat → Nat → Nat → Int32) → (Nat → Nat → Nat → Int64) → Int32 → Int32 → Int32 → Option (Unit × (Nat → Nat → Nat) × (Nat → Nat → Int32) × (Nat → Nat → Nat → Int32) × (Nat → Nat → Nat → Int64))} {K52 : (Nat → Nat → Nat) → (Nat → Nat → Int32) → (Nat → Nat → Nat → Int32) → (Nat → Nat → Nat → Int64) → Int32 → Int32 → Int32 → Int32 → Option (Unit × (Nat → Nat → Nat) × (Nat → Nat → Int32) × (Nat → Nat → Nat → Int32) × (Nat → Nat → Nat → Int64))} {n : Nat} {P : Nat → Nat → Nat} {F : Nat → Nat → Int32} {A : Nat → Nat → Nat → Int32} {J : Nat → Nat → Nat → Int64} {x1 : Int32} {x4 : Int32} {x5 : Int32} {x6 : Int32} (hK31 : ∀ (a0 : Nat → Nat → Nat) (a1 : Nat → Nat → Int32) (a2 : Nat → Nat → Nat → Int32) (a3 : Nat → Nat → Nat → Int64) (a4 : Int32) (a5 : Int32) (a6 : Int32), CK F0 A0 a1 a2 → po (K31 a0 a1 a2 a3 a4 a5 a6) (fun r => CK F0 A0 r.2.2.1 r.2.2.2.1)) (hK52 : ∀ (a0 : Nat → Nat → Nat) (a1 : Nat → Nat → Int32) (a2 : Nat → Nat → Nat → Int32) (a3 : Nat → Nat → Nat → Int64) (a4 : Int32) (a5 : Int32) (a6 : Int32) (a7 : Int32), CK F0 A0 a1 a2 → po (K52 a0 a1 a2 a3 a4 a5 a6 a7) (fun r => CK F0 A0 r.2.2.1 r.2.2.2.1)) (h : CK F0 A0 F A) : po (e_Sleep_goTill_90 K31 K52 n P F A J x1 x4 x5 x6) (fun r => CK F0 A0 r.2.2.1 r.2.2.2.1) := by
  unfold e_Sleep_goTill_90
  repeat' (first
    | with_reducible exact po_some (by assumption)
    | (with_reducible refine ck_pf (by assumption) (by decide) ?_; intro _ _)
    | (with_reducible refine ck_st (by assumption) (by decide) ?_; intro _ _)
    | (with_reducible refine ck_st (by assumption) (ck_no (by assumption)) ?_; intro _ _)
    | (with_reducible refine ck_st (by assumption) (by simp) ?_; intro _ _)
    | with_reducible exact hK31 _ _ _ _ _ _ _ (by assumption)
    | (intros; with_reducible exact hK31 _ _ _ _ _ _ _ (by assumption))
    | with_reducible exact hK52 _ _ _ _ _ _ _ _ (by assumption)
    | (intros; with_reducible exact hK52 _ _ _ _ _ _ _ _ (by assumption))
    | with_reducible refine po_cond (fun _ => ?_) (fun _ => ?_)
    | with_reducible refine po_bind_cond (fun _ => ?_) (fun _ => ?_)
    | with_reducible refine po_bl (fun _ _ => ?_))
theorem ck_e_Sleep_lieDown {P : Nat → Nat → Nat} {F : Nat → Nat → Int32} {A : Nat → Nat → Nat → Int32} {J : Nat → Nat → Nat → Int64} {x1 : Int32} {x2 : Int32}  (h : CK F0 A0 F A) : po (e_Sleep_lieDown P F A J x1 x2) (fun r => CK F0 A0 r.2.2.1 r.2.2.2.1) := by
  unfold e_Sleep_lieDown
  repeat' (first
    | with_reducible exact po_some (by assumption)
    | (with_reducible refine ck_pf (by assumption) (by decide) ?_; intro _ _)
    | (with_reducible refine ck_st (by assumption) (by decide) ?_; intro _ _)
    | (with_reducible refine ck_st (by assumption) (ck_no (by assumption)) ?_; intro _ _)
    | (with_reducible refine ck_st (by assumption) (by simp) ?_; intro _ _)
    | with_reducible refine po_cond (fun _ => ?_) (fun _ => ?_)
    | with_reducible refine po_bind_cond (fun _ => ?_) (fun _ => ?_)
    | with_reducible refine po_bl (fun _ _ => ?_))
theorem ck_e_Sleep_begin_59 {n : Nat} {P : Nat → Nat → Nat} {F : Nat → Nat → Int32} {A : Nat → Nat → Nat → Int32} {J : Nat → Nat → Nat → Int64} {x1 : Int32} {x2 : Int32} {s1 : Int32} {s2 : Int32}  (h : CK F0 A0 F A) : po (e_Sleep_begin_59 n P F A J x1 x2 s1 s2) (fun r => CK F0 A0 r.2.2.1 r.2.2.2.1) := by
  unfold e_Sleep_begin_59
  repeat' (first
    | with_reducible exact po_some (by assumption)
    | (with_reducible refine ck_pf (by assumption) (by decide) ?_; intro _ _)
    | (with_reducible refine ck_st (by assumption) (by decide) ?_; intro _ _)
    | (with_reducible refine ck_st (by assumption) (ck_no (by assumption)) ?_; intro _ _)
    | (with_reducible refine ck_st (by assumption) (by simp) ?_; intro _ _)
    | with_reducible exact ck_e_Sleep_lieDown (by assumption)
    | (with_reducible refine po_call (ck_e_Sleep_lieDown (by assumption)) ?_; rintro ⟨_, _, _, _, _⟩ _; try dsimp only)
    | with_reducible refine po_cond (fun _ => ?_) (fun _ => ?_)
    | with_reducible refine po_bind_cond (fun _ => ?_) (fun _ => ?_)
    | with_reducible refine po_bl (fun _ _ => ?_))
theorem ck_e_Sleep_begin_44 {n : Nat} {P : Nat → Nat → Nat} {F : Nat → Nat → Int32} {A : Nat → Nat → Nat → Int32} {J : Nat → Nat → Nat → Int64} {x1 : Int32} {x2 : Int32} {x4 : Int32}  (h : CK F0 A0 F A) : po (e_Sleep_begin_44 n P F A J x1 x2 x4) (fun r => CK F0 A0 r.2.2.1 r.2.2.2.1) := by
  unfold e_Sleep_begin_44
  repeat' (first
    | with_reducible exact po_some (by assumption)
    | (with_reducible refine ck_pf (by assumption) (by decide) ?_; intro _ _)
    | (with_reducible refine ck_st (by assumption) (by decide) ?_; intro _ _)
    | (with_reducible refine ck_st (by assumption) (ck_no (by assumption)) ?_; intro _ _)
    | (with_reducible refine ck_st (by assumption) (by simp) ?_; intro _ _)
    | with_reducible exact ck_e_Sleep_begin_59 (by assumption)
    | (with_reducible refine po_call (ck_e_Sleep_begin_59 (by assumption)) ?_; rintro ⟨_, _, _, _, _⟩ _; try dsimp only)
    | with_reducible refine po_cond (fun _ => ?_) (fun _ => ?_)
    | with_reducible refine po_bind_cond (fun _ => ?_) (fun _ => ?_)
    | with_reducible refine po_bl (fun _ _ => ?_))
theorem ck_e_Laws_tellsTo_233 {n : Nat} {P : Nat → Nat → Nat} {F : Nat → Nat → Int32} {A : Nat → Nat → Nat → Int32} {J : Nat → Nat → Nat → Int64} {r0 : Nat}  (h : CK F0 A0 F A) : po (e_Laws_tellsTo_233 n P F A J r0) (fun r => CK F0 A0 r.2.2.1 r.2.2.2.1) := by
  unfold e_Laws_tellsTo_233
  repeat' (first
    | with_reducible exact po_some (by assumption)
    | (with_reducible refine ck_pf (by assumption) (by decide) ?_; intro _ _)
    | (with_reducible refine ck_st (by assumption) (by decide) ?_; intro _ _)
    | (with_reducible refine ck_st (by assumption) (ck_no (by assumption)) ?_; intro _ _)
    | (with_reducible refine ck_st (by assumption) (by simp) ?_; intro _ _)
    | with_reducible refine po_cond (fun _ => ?_) (fun _ => ?_)
    | with_reducible refine po_bind_cond (fun _ => ?_) (fun _ => ?_)
    | with_reducible refine po_bl (fun _ _ => ?_))
theorem ck_e_Laws_tellsTo_227 {K13 : (Nat → Nat → Nat) → (Nat → Nat → Int32) → (Nat → Nat → Nat → Int32) → (Nat → Nat → Nat → Int64) → Nat → Int32 → Int32 → Int32 → Option (Int32 × (Nat → Nat → Nat) × (Nat → Nat → Int32) × (Nat → Nat → Nat → Int32) × (Nat → Nat → Nat → Int64))} {n : Nat} {P : Nat → Nat → Nat} {F : Nat → Nat → Int32} {A : Nat → Nat → Nat → Int32} {J : Nat → Nat → Nat → Int64} {r0 : Nat} {x3 : Int32} {x4 : Int32} {x5 : Int32} (hK13 : ∀ (a0 : Nat → Nat → Nat) (a1 : Nat → Nat → Int32) (a2 : Nat → Nat → Nat → Int32) (a3 : Nat → Nat → Nat → Int64) (a4 : Nat) (a5 : Int32) (a6 : Int32) (a7 : Int32), CK F0 A0 a1 a2 → po (K13 a0 a1 a2 a3 a4 a5 a6 a7) (fun r => CK F0 A0 r.2.2.1 r.2.2.2.1)) (h : CK F0 A0 F A) : po (e_Laws_tellsTo_227 K13 n P F A J r0 x3 x4 x5) (fun r => CK F0 A0 r.2.2.1 r.2.2.2.1) := by
  unfold e_Laws_tellsTo_227
  repeat' (first
    | with_reducible exact po_some (by assumption)
    | (with_reducible refine ck_pf (by assumption) (by decide) ?_; intro _ _)
    | (with_reducible refine ck_st (by assumption) (by decide) ?_; intro _ _)
    | (with_reducible refine ck_st (by assumption) (ck_no (by assumption)) ?_; intro _ _)
    | (with_reducible refine ck_st (by assumption) (by simp) ?_; intro _ _)
    | with_reducible exact hK13 _ _ _ _ _ _ _ _ (by assumption)
    | (intros; with_reducible exact hK13 _ _ _ _ _ _ _ _ (by assumption))
    | with_reducible refine po_cond (fun _ => ?_) (fun _ => ?_)
    | with_reducible refine po_bind_cond (fun _ => ?_) (fun _ => ?_)
    | with_reducible refine po_bl (fun _ _ => ?_))
theorem ck_e_Laws_tellsTo_126 {K13 : (Nat → Nat → Nat) → (Nat → Nat → Int32) → (Nat → Nat → Nat → Int32) → (Nat → Nat → Nat → Int64) → Nat → Int32 → Int32 → Int32 → Option (Int32 × (Nat → Nat → Nat) × (Nat → Nat → Int32) × (Nat → Nat → Nat → Int32) × (Nat → Nat → Nat → Int64))} {n : Nat} {P : Nat → Nat → Nat} {F : Nat → Nat → Int32} {A : Nat → Nat → Nat → Int32} {J : Nat → Nat → Nat → Int64} {r0 : Nat} {x3 : Int32} {x4 : Int32} {x5 : Int32} {rs0 : Nat} {s1 : Int32} {s2 : Int32} (hK13 : ∀ (a0 : Nat → Nat → Nat) (a1 : Nat → Nat → Int32) (a2 : Nat → Nat → Nat → Int32) (a3 : Nat → Nat → Nat → Int64) (a4 : Nat) (a5 : Int32) (a6 : Int32) (a7 : Int32), CK F0 A0 a1 a2 → po (K13 a0 a1 a2 a3 a4 a5 a6 a7) (fun r => CK F0 A0 r.2.2.1 r.2.2.2.1)) (h : CK F0 A0 F A) : po (e_Laws_tellsTo_126 K13 n P F A J r0 x3 x4 x5 rs0 s1 s2) (fun r => CK F0 A0 r.2.2.1 r.2.2.2.1) := by
  unfold e_Laws_tellsTo_126
  repeat' (first
    | with_reducible exact po_some (by assumption)
    | (with_reducible refine ck_pf (by assumption) (by decide) ?_; intro _ _)
    | (with_reducible refine ck_st (by assumption) (by decide) ?_; intro _ _)
    | (with_reducible refine ck_st (by assumption) (ck_no (by assumption)) ?_; intro _ _)
    | (with_reducible refine ck_st (by assumption) (by simp) ?_; intro _ _)
    | with_reducible refine ck_e_Laws_tellsTo_227 ?_ (by assumption)
    | (with_reducible refine po_call (ck_e_Laws_tellsTo_227 ?_ (by assumption)) ?_)
    | with_reducible exact hK13 _ _ _ _ _ _ _ _ (by assumption)
    | (intros; with_reducible exact hK13 _ _ _ _ _ _ _ _ (by assumption))
    | with_reducible refine po_cond (fun _ => ?_) (fun _ => ?_)
    | with_reducible refine po_bind_cond (fun _ => ?_) (fun _ => ?_)
    | with_reducible refine po_bl (fun _ _ => ?_))
theorem ck_e_Laws_tellsTo_88 {K13 : (Nat → Nat → Nat) → (Nat → Nat → Int32) → (Nat → Nat → Nat → Int32) → (Nat → Nat → Nat → Int64) → Nat → Int32 → Int32 → Int32 → Option (Int32 × (Nat → Nat → Nat) × (Nat → Nat → Int32) × (Nat → Nat → Nat → Int32) × (Nat → Nat → Nat → Int64))} {n : Nat} {P : Nat → Nat → Nat} {F : Nat → Nat → Int32} {A : Nat → Nat → Nat → Int32} {J : Nat → Nat → Nat → Int64} {r0 : Nat} {x3 : Int32} {x4 : Int32} {x5 : Int32} {x6 : Int32} {x7 : Int32} (hK13 : ∀ (a0 : Nat → Nat → Nat) (a1 : Nat → Nat → Int32) (a2 : Nat → Nat → Nat → Int32) (a3 : Nat → Nat → Nat → Int64) (a4 : Nat) (a5 : Int32) (a6 : Int32) (a7 : Int32), CK F0 A0 a1 a2 → po (K13 a0 a1 a2 a3 a4 a5 a6 a7) (fun r => CK F0 A0 r.2.2.1 r.2.2.2.1)) (h : CK F0 A0 F A) : po (e_Laws_tellsTo_88 K13 n P F A J r0 x3 x4 x5 x6 x7) (fun r => CK F0 A0 r.2.2.1 r.2.2.2.1) := by
  unfold e_Laws_tellsTo_88
  repeat' (first
    | with_reducible exact po_some (by assumption)
    | (with_reducible refine ck_pf (by assumption) (by decide) ?_; intro _ _)
    | (with_reducible refine ck_st (by assumption) (by decide) ?_; intro _ _)
    | (with_reducible refine ck_st (by assumption) (ck_no (by assumption)) ?_; intro _ _)
    | (with_reducible refine ck_st (by assumption) (by simp) ?_; intro _ _)
    | with_reducible refine ck_e_Laws_tellsTo_227 ?_ (by assumption)
    | (with_reducible refine po_call (ck_e_Laws_tellsTo_227 ?_ (by assumption)) ?_)
    | with_reducible refine ck_e_Laws_tellsTo_126 ?_ (by assumption)
    | (with_reducible refine po_call (ck_e_Laws_tellsTo_126 ?_ (by assumption)) ?_)
    | with_reducible exact hK13 _ _ _ _ _ _ _ _ (by assumption)
    | (intros; with_reducible exact hK13 _ _ _ _ _ _ _ _ (by assumption))
    | with_reducible refine po_cond (fun _ => ?_) (fun _ => ?_)
    | with_reducible refine po_bind_cond (fun _ => ?_) (fun _ => ?_)
    | with_reducible refine po_bl (fun _ _ => ?_))
theorem ck_e_Laws_tellsTo_153 {n : Nat} {P : Nat → Nat → Nat} {F : Nat → Nat → Int32} {A : Nat → Nat → Nat → Int32} {J : Nat → Nat → Nat → Int64} {r0 : Nat}  (h : CK F0 A0 F A) : po (e_Laws_tellsTo_153 n P F A J r0) (fun r => CK F0 A0 r.2.2.1 r.2.2.2.1) := by
  unfold e_Laws_tellsTo_153
  repeat' (first
    | with_reducible exact po_some (by assumption)
    | (with_reducible refine ck_pf (by assumption) (by decide) ?_; intro _ _)
    | (with_reducible refine ck_st (by assumption) (by decide) ?_; intro _ _)
    | (with_reducible refine ck_st (by assumption) (ck_no (by assumption)) ?_; intro _ _)
    | (with_reducible refine ck_st (by assumption) (by simp) ?_; intro _ _)
    | with_reducible refine po_cond (fun _ => ?_) (fun _ => ?_)
    | with_reducible refine po_bind_cond (fun _ => ?_) (fun _ => ?_)
    | with_reducible refine po_bl (fun _ _ => ?_))
theorem ck_e_Laws_tellsTo_192 {K13 : (Nat → Nat → Nat) → (Nat → Nat → Int32) → (Nat → Nat → Nat → Int32) → (Nat → Nat → Nat → Int64) → Nat → Int32 → Int32 → Int32 → Option (Int32 × (Nat → Nat → Nat) × (Nat → Nat → Int32) × (Nat → Nat → Nat → Int32) × (Nat → Nat → Nat → Int64))} {n : Nat} {P : Nat → Nat → Nat} {F : Nat → Nat → Int32} {A : Nat → Nat → Nat → Int32} {J : Nat → Nat → Nat → Int64} {r0 : Nat} {x4 : Int32} {x5 : Int32} {s0 : Int32} (hK13 : ∀ (a0 : Nat → Nat → Nat) (a1 : Nat → Nat → Int32) (a2 : Nat → Nat → Nat → Int32) (a3 : Nat → Nat → Nat → Int64) (a4 : Nat) (a5 : Int32) (a6 : Int32) (a7 : Int32), CK F0 A0 a1 a2 → po (K13 a0 a1 a2 a3 a4 a5 a6 a7) (fun r => CK F0 A0 r.2.2.1 r.2.2.2.1)) (h : CK F0 A0 F A) : po (e_Laws_tellsTo_192 K13 n P F A J r0 x4 x5 s0) (fun r => CK F0 A0 r.2.2.1 r.2.2.2.1) := by
  unfold e_Laws_tellsTo_192
  repeat' (first
    | with_reducible exact po_some (by assumption)
    | (with_reducible refine ck_pf (by assumption) (by decide) ?_; intro _ _)
    | (with_reducible refine ck_st (by assumption) (by decide) ?_; intro _ _)
    | (with_reducible refine ck_st (by assumption) (ck_no (by assumption)) ?_; intro _ _)
    | (with_reducible refine ck_st (by assumption) (by simp) ?_; intro _ _)
    | with_reducible refine ck_e_Laws_tellsTo_227 ?_ (by assumption)
    | (with_reducible refine po_call (ck_e_Laws_tellsTo_227 ?_ (by assumption)) ?_)
    | with_reducible exact hK13 _ _ _ _ _ _ _ _ (by assumption)
    | (intros; with_reducible exact hK13 _ _ _ _ _ _ _ _ (by assumption))
    | with_reducible refine po_cond (fun _ => ?_) (fun _ => ?_)
    | with_reducible refine po_bind_cond (fun _ => ?_) (fun _ => ?_)
    | with_reducible refine po_bl (fun _ _ => ?_))
theorem ck_e_Laws_tellsTo_157 {K13 : (Nat → Nat → Nat) → (Nat → Nat → Int32) → (Nat → Nat → Nat → Int32) → (Nat → Nat → Nat → Int64) → Nat → Int32 → Int32 → Int32 → Option (Int32 × (Nat → Nat → Nat) × (Nat → Nat → Int32) × (Nat → Nat → Nat → Int32) × (Nat → Nat → Nat → Int64))} {n : Nat} {P : Nat → Nat → Nat} {F : Nat → Nat → Int32} {A : Nat → Nat → Nat → Int32} {J : Nat → Nat → Nat → Int64} {r0 : Nat} {x3 : Int32} {x4 : Int32} {x5 : Int32} {x6 : Int32} {x7 : Int32} (hK13 : ∀ (a0 : Nat → Nat → Nat) (a1 : Nat → Nat → Int32) (a2 : Nat → Nat → Nat → Int32) (a3 : Nat → Nat → Nat → Int64) (a4 : Nat) (a5 : Int32) (a6 : Int32) (a7 : Int32), CK F0 A0 a1 a2 → po (K13 a0 a1 a2 a3 a4 a5 a6 a7) (fun r => CK F0 A0 r.2.2.1 r.2.2.2.1)) (h : CK F0 A0 F A) : po (e_Laws_tellsTo_157 K13 n P F A J r0 x3 x4 x5 x6 x7) (fun r => CK F0 A0 r.2.2.1 r.2.2.2.1) := by
  unfold e_Laws_tellsTo_157
  repeat' (first
    | with_reducible exact po_some (by assumption)
    | (with_reducible refine ck_pf (by assumption) (by decide) ?_; intro _ _)
    | (with_reducible refine ck_st (by assumption) (by decide) ?_; intro _ _)
    | (with_reducible refine ck_st (by assumption) (ck_no (by assumption)) ?_; intro _ _)
    | (with_reducible refine ck_st (by assumption) (by simp) ?_; intro _ _)
    | with_reducible refine ck_e_Laws_tellsTo_192 ?_ (by assumption)
    | (with_reducible refine po_call (ck_e_Laws_tellsTo_192 ?_ (by assumption)) ?_)
    | with_reducible exact hK13 _ _ _ _ _ _ _ _ (by assumption)
    | (intros; with_reducible exact hK13 _ _ _ _ _ _ _ _ (by assumption))
    | with_reducible refine po_cond (fun _ => ?_) (fun _ => ?_)
    | with_reducible refine po_bind_cond (fun _ => ?_) (fun _ => ?_)
    | with_reducible refine po_bl (fun _ _ => ?_))
theorem ck_e_Laws_tellsTo_13   : ∀ {n : Nat} {P : Nat → Nat → Nat} {F : Nat → Nat → Int32} {A : Nat → Nat → Nat → Int32} {J : Nat → Nat → Nat → Int64} {r0 : Nat} {x3 : Int32} {x4 : Int32} {x5 : Int32}, CK F0 A0 F A → po (e_Laws_tellsTo_13  n P F A J r0 x3 x4 x5) (fun r => CK F0 A0 r.2.2.1 r.2.2.2.1) := by
  intro n
  induction n with
  | zero => intro P F A J r0 x3 x4 x5 _ r hr; cases hr
  | succ n ih =>
    intro P F A J r0 x3 x4 x5 h
    unfold e_Laws_tellsTo_13
    repeat' (first
      | with_reducible exact po_some (by assumption)
      | (with_reducible refine ck_pf (by assumption) (by decide) ?_; intro _ _)
      | (with_reducible refine ck_st (by assumption) (by decide) ?_; intro _ _)
      | (with_reducible refine ck_st (by assumption) (ck_no (by assumption)) ?_; intro _ _)
      | (with_reducible refine ck_st (by assumption) (by simp) ?_; intro _ _)
      | with_reducible exact ck_e_Laws_tellsTo_233 (by assumption)
      | (with_reducible refine po_call (ck_e_Laws_tellsTo_233 (by assumption)) ?_; rintro ⟨_, _, _, _, _⟩ _; try dsimp only)
      | with_reducible refine ck_e_Laws_tellsTo_88 ?_ (by assumption)
      | (with_reducible refine po_call (ck_e_Laws_tellsTo_88 ?_ (by assumption)) ?_)
      | with_reducible exact ck_e_Laws_tellsTo_153 (by assumption)
      | (with_reducible refine po_call (ck_e_Laws_tellsTo_153 (by assumption)) ?_; rintro ⟨_, _, _, _, _⟩ _; try dsimp only)
      | with_reducible refine ck_e_Laws_tellsTo_157 ?_ (by assumption)
      | (with_reducible refine po_call (ck_e_Laws_tellsTo_157 ?_ (by assumption)) ?_)
      | with_reducible exact ih (by assumption)
      | (with_reducible refine po_call (ih (by assumption)) ?_; rintro ⟨_, _, _, _, _⟩ _; try dsimp only)
      | (intros; with_reducible exact ih (by assumption))
      | with_reducible refine po_cond (fun _ => ?_) (fun _ => ?_)
      | with_reducible refine po_bind_cond (fun _ => ?_) (fun _ => ?_)
      | with_reducible refine po_bl (fun _ _ => ?_))
theorem ck_e_Laws_tellsTo {n : Nat} {P : Nat → Nat → Nat} {F : Nat → Nat → Int32} {A : Nat → Nat → Nat → Int32} {J : Nat → Nat → Nat → Int64} {r0 : Nat} {x1 : Int32}  (h : CK F0 A0 F A) : po (e_Laws_tellsTo n P F A J r0 x1) (fun r => CK F0 A0 r.2.2.1 r.2.2.2.1) := by
  unfold e_Laws_tellsTo
  repeat' (first
    | with_reducible exact po_some (by assumption)
    | (with_reducible refine ck_pf (by assumption) (by decide) ?_; intro _ _)
    | (with_reducible refine ck_st (by assumption) (by decide) ?_; intro _ _)
    | (with_reducible refine ck_st (by assumption) (ck_no (by assumption)) ?_; intro _ _)
    | (with_reducible refine ck_st (by assumption) (by simp) ?_; intro _ _)
    | with_reducible exact ck_e_Laws_tellsTo_13 (by assumption)
    | (with_reducible refine po_call (ck_e_Laws_tellsTo_13 (by assumption)) ?_; rintro ⟨_, _, _, _, _⟩ _; try dsimp only)
    | with_reducible refine po_cond (fun _ => ?_) (fun _ => ?_)
    | with_reducible refine po_bind_cond (fun _ => ?_) (fun _ => ?_)
    | with_reducible refine po_bl (fun _ _ => ?_))
theorem ck_e_Sleep_chosenStep {n : Nat} {P : Nat → Nat → Nat} {F : Nat → Nat → Int32} {A : Nat → Nat → Nat → Int32} {J : Nat → Nat → Nat → Int64} {x1 : Int32} {x2 : Int32} {x3 : Int32}  (h : CK F0 A0 F A) : po (e_Sleep_chosenStep n P F A J x1 x2 x3) (fun r => CK F0 A0 r.2.2.1 r.2.2.2.1) := by
  unfold e_Sleep_chosenStep
  repeat' (first
    | with_reducible exact po_some (by assumption)
    | (with_reducible refine ck_pf (by assumption) (by decide) ?_; intro _ _)
    | (with_reducible refine ck_st (by assumption) (by decide) ?_; intro _ _)
    | (with_reducible refine ck_st (by assumption) (ck_no (by assumption)) ?_; intro _ _)
    | (with_reducible refine ck_st (by assumption) (by simp) ?_; intro _ _)
    | with_reducible exact ck_e_Laws_tellsTo (by assumption)
    | (with_reducible refine po_call (ck_e_Laws_tellsTo (by assumption)) ?_; rintro ⟨_, _, _, _, _⟩ _; try dsimp only)
    | with_reducible refine po_cond (fun _ => ?_) (fun _ => ?_)
    | with_reducible refine po_bind_cond (fun _ => ?_) (fun _ => ?_)
    | with_reducible refine po_bl (fun _ _ => ?_))
theorem ck_e_Sleep_begin_168 {n : Nat} {P : Nat → Nat → Nat} {F : Nat → Nat → Int32} {A : Nat → Nat → Nat → Int32} {J : Nat → Nat → Nat → Int64} {x1 : Int32} {x2 : Int32} {x3 : Int32} {x5 : Int32}  (h : CK F0 A0 F A) : po (e_Sleep_begin_168 n P F A J x1 x2 x3 x5) (fun r => CK F0 A0 r.2.2.1 r.2.2.2.1) := by
  unfold e_Sleep_begin_168
  repeat' (first
    | with_reducible exact po_some (by assumption)
    | (with_reducible refine ck_pf (by assumption) (by decide) ?_; intro _ _)
    | (with_reducible refine ck_st (by assumption) (by decide) ?_; intro _ _)
    | (with_reducible refine ck_st (by assumption) (ck_no (by assumption)) ?_; intro _ _)
    | (with_reducible refine ck_st (by assumption) (by simp) ?_; intro _ _)
    | with_reducible refine po_cond (fun _ => ?_) (fun _ => ?_)
    | with_reducible refine po_bind_cond (fun _ => ?_) (fun _ => ?_)
    | with_reducible refine po_bl (fun _ _ => ?_))
theorem ck_e_Sleep_begin_140 {n : Nat} {P : Nat → Nat → Nat} {F : Nat → Nat → Int32} {A : Nat → Nat → Nat → Int32} {J : Nat → Nat → Nat → Int64} {x1 : Int32} {x2 : Int32} {x3 : Int32} {x5 : Int32} {x6 : Int32}  (h : CK F0 A0 F A) : po (e_Sleep_begin_140 n P F A J x1 x2 x3 x5 x6) (fun r => CK F0 A0 r.2.2.1 r.2.2.2.1) := by
  unfold e_Sleep_begin_140
  repeat' (first
    | with_reducible exact po_some (by assumption)
    | (with_reducible refine ck_pf (by assumption) (by decide) ?_; intro _ _)
    | (with_reducible refine ck_st (by assumption) (by decide) ?_; intro _ _)
    | (with_reducible refine ck_st (by assumption) (ck_no (by assumption)) ?_; intro _ _)
    | (with_reducible refine ck_st (by assumption) (by simp) ?_; intro _ _)
    | with_reducible refine po_cond (fun _ => ?_) (fun _ => ?_)
    | with_reducible refine po_bind_cond (fun _ => ?_) (fun _ => ?_)
    | with_reducible refine po_bl (fun _ _ => ?_))
theorem ck_e_Sleep_begin {n : Nat} {P : Nat → Nat → Nat} {F : Nat → Nat → Int32} {A : Nat → Nat → Nat → Int32} {J : Nat → Nat → Nat → Int64} {x1 : Int32} {x2 : Int32}  (h : CK F0 A0 F A) : po (e_Sleep_begin n P F A J x1 x2) (fun r => CK F0 A0 r.2.2.1 r.2.2.2.1) := by
  unfold e_Sleep_begin
  repeat' (first
    | with_reducible exact po_some (by assumption)
    | (with_reducible refine ck_pf (by assumption) (by decide) ?_; intro _ _)
    | (with_reducible refine ck_st (by assumption) (by decide) ?_; intro _ _)
    | (with_reducible refine ck_st (by assumption) (ck_no (by assumption)) ?_; intro _ _)
    | (with_reducible refine ck_st (by assumption) (by simp) ?_; intro _ _)
    | with_reducible exact ck_e_Sleep_begin_44 (by assumption)
    | (with_reducible refine po_call (ck_e_Sleep_begin_44 (by assumption)) ?_; rintro ⟨_, _, _, _, _⟩ _; try dsimp only)
    | with_reducible exact ck_e_Sleep_chosenStep (by assumption)
    | (with_reducible refine po_call (ck_e_Sleep_chosenStep (by assumption)) ?_; rintro ⟨_, _, _, _, _⟩ _; try dsimp only)
    | with_reducible exact ck_e_Sleep_begin_168 (by assumption)
    | (with_reducible refine po_call (ck_e_Sleep_begin_168 (by assumption)) ?_; rintro ⟨_, _, _, _, _⟩ _; try dsimp only)
    | with_reducible exact ck_e_Sleep_begin_140 (by assumption)
    | (with_reducible refine po_call (ck_e_Sleep_begin_140 (by assumption)) ?_; rintro ⟨_, _, _, _, _⟩ _; try dsimp only)
    | with_reducible exact ck_e_Sleep_lieDown (by assumption)
    | (with_reducible refine po_call (ck_e_Sleep_lieDown (by assumption)) ?_; rintro ⟨_, _, _, _, _⟩ _; try dsimp only)
    | with_reducible refine po_cond (fun _ => ?_) (fun _ => ?_)
    | with_reducible refine po_bind_cond (fun _ => ?_) (fun _ => ?_)
    | with_reducible refine po_bl (fun _ _ => ?_))
theorem ck_e_Sleep_goTill_52 {K31 : (Nat → Nat → Nat) → (Nat → Nat → Int32) → (Nat → Nat → Nat → Int32) → (Nat → Nat → Nat → Int64) → Int32 → Int32 → Int32 → Option (Unit × (Nat → Nat → Nat) × (Nat → Nat → Int32) × (Nat → Nat → Nat → Int32) × (Nat → Nat → Nat → Int64))} (hK31 : ∀ (a0 : Nat → Nat → Nat) (a1 : Nat → Nat → Int32) (a2 : Nat → Nat → Nat → Int32) (a3 : Nat → Nat → Nat → Int64) (a4 : Int32) (a5 : Int32) (a6 : Int32), CK F0 A0 a1 a2 → po (K31 a0 a1 a2 a3 a4 a5 a6) (fun r => CK F0 A0 r.2.2.1 r.2.2.2.1)) : ∀ {n : Nat} {P : Nat → Nat → Nat} {F : Nat → Nat → Int32} {A : Nat → Nat → Nat → Int32} {J : Nat → Nat → Nat → Int64} {x1 : Int32} {x4 : Int32} {x5 : Int32} {x6 : Int32}, CK F0 A0 F A → po (e_Sleep_goTill_52 K31 n P F A J x1 x4 x5 x6) (fun r => CK F0 A0 r.2.2.1 r.2.2.2.1) := by
  intro n
  induction n with
  | zero => intro P F A J x1 x4 x5 x6 _ r hr; cases hr
  | succ n ih =>
    intro P F A J x1 x4 x5 x6 h
    unfold e_Sleep_goTill_52
    repeat' (first
      | with_reducible exact po_some (by assumption)
      | (with_reducible refine ck_pf (by assumption) (by decide) ?_; intro _ _)
      | (with_reducible refine ck_st (by assumption) (by decide) ?_; intro _ _)
      | (with_reducible refine ck_st (by assumption) (ck_no (by assumption)) ?_; intro _ _)
      | (with_reducible refine ck_st (by assumption) (by simp) ?_; intro _ _)
      | with_reducible refine ck_e_Sleep_goTill_96 ?_ (by assumption)
      | (with_reducible refine po_call (ck_e_Sleep_goTill_96 ?_ (by assumption)) ?_)
      | with_reducible refine ck_e_Sleep_goTill_90 ?_ ?_ (by assumption)
      | (with_reducible refine po_call (ck_e_Sleep_goTill_90 ?_ ?_ (by assumption)) ?_)
      | with_reducible exact ck_e_Sleep_begin (by assumption)
      | (with_reducible refine po_call (ck_e_Sleep_begin (by assumption)) ?_; rintro ⟨_, _, _, _, _⟩ _; try dsimp only)
      | with_reducible exact hK31 _ _ _ _ _ _ _ (by assumption)
      | (intros; with_reducible exact hK31 _ _ _ _ _ _ _ (by assumption))
      | with_reducible exact ih (by assumption)
      | (with_reducible refine po_call (ih (by assumption)) ?_; rintro ⟨_, _, _, _, _⟩ _; try dsimp only)
      | (intros; with_reducible exact ih (by assumption))
      | with_reducible refine po_cond (fun _ => ?_) (fun _ => ?_)
      | with_reducible refine po_bind_cond (fun _ => ?_) (fun _ => ?_)
      | with_reducible refine po_bl (fun _ _ => ?_))
theorem ck_e_Sleep_goTill_31   : ∀ {n : Nat} {P : Nat → Nat → Nat} {F : Nat → Nat → Int32} {A : Nat → Nat → Nat → Int32} {J : Nat → Nat → Nat → Int64} {x1 : Int32} {x4 : Int32} {x5 : Int32}, CK F0 A0 F A → po (e_Sleep_goTill_31  n P F A J x1 x4 x5) (fun r => CK F0 A0 r.2.2.1 r.2.2.2.1) := by
  intro n
  induction n with
  | zero => intro P F A J x1 x4 x5 _ r hr; cases hr
  | succ n ih =>
    intro P F A J x1 x4 x5 h
    unfold e_Sleep_goTill_31
    repeat' (first
      | with_reducible exact po_some (by assumption)
      | (with_reducible refine ck_pf (by assumption) (by decide) ?_; intro _ _)
      | (with_reducible refine ck_st (by assumption) (by decide) ?_; intro _ _)
      | (with_reducible refine ck_st (by assumption) (ck_no (by assumption)) ?_; intro _ _)
      | (with_reducible refine ck_st (by assumption) (by simp) ?_; intro _ _)
      | with_reducible exact ck_e_Sleep_goTill_119 (by assumption)
      | (with_reducible refine po_call (ck_e_Sleep_goTill_119 (by assumption)) ?_; rintro ⟨_, _, _, _, _⟩ _; try dsimp only)
      | with_reducible exact ck_e_Sleep_finishAll (by assumption)
      | (with_reducible refine po_call (ck_e_Sleep_finishAll (by assumption)) ?_; rintro ⟨_, _, _, _, _⟩ _; try dsimp only)
      | with_reducible refine ck_e_Sleep_goTill_52 ?_ (by assumption)
      | (with_reducible refine po_call (ck_e_Sleep_goTill_52 ?_ (by assumption)) ?_)
      | with_reducible exact ih (by assumption)
      | (with_reducible refine po_call (ih (by assumption)) ?_; rintro ⟨_, _, _, _, _⟩ _; try dsimp only)
      | (intros; with_reducible exact ih (by assumption))
      | with_reducible refine po_cond (fun _ => ?_) (fun _ => ?_)
      | with_reducible refine po_bind_cond (fun _ => ?_) (fun _ => ?_)
      | with_reducible refine po_bl (fun _ _ => ?_))
end H9f4
section G9f4
variable {h q : Nat} {P P' P1 : Nat → Nat → Nat} {F F' F1 : Nat → Nat → Int32} {A A' A1 : Nat → Nat → Nat → Int32} {J : Nat → Nat → Nat → Int64}
/-- the cache is right, the house as it was -/
def WHx (h : Nat) (F0 : Nat → Nat → Int32) (A0 : Nat → Nat → Nat → Int32) (F : Nat → Nat → Int32) (A : Nat → Nat → Nat → Int32) : Prop := WCx h F A ∧ (∀ k, F h k = F0 h k) ∧ ∀ o, o ≠ 17 → A h o = A0 h o
theorem WHx.rfl' (W : WCx h F A) : WHx h F A F A := ⟨W, fun _ => rfl, fun _ _ => rfl⟩
theorem WHx.tr (W : WHx h F A F1 A1) (V : WHx h F1 A1 F' A') : WHx h F A F' A' := ⟨V.1, fun k => (V.2.1 k).trans (W.2.1 k), fun o ho => (V.2.2 o ho).trans (W.2.2 o ho)⟩
theorem w_between {n : Nat} {sh x3 x4 : Int32} (W : WCx h F A) (h36 : h ≠ 36) : po (e_Ways_between n P F A J h sh x3 x4) (fun r => r.2.1 = P ∧ WHx h F A r.2.2.1 r.2.2.2.1) := by
  unfold e_Ways_between
  refine po_cond (fun c => ?_) (fun c => ?_)
  · unfold e_Ways_between_27
    exact po_bl (fun v hv => po_some ⟨rfl, WHx.rfl' W⟩)
  · refine po_bl (fun a ha => ?_)
    have wa := wf_e_Ways_takeDoors WFx.rfl' a ha
    obtain ⟨u, P3, F4, A5, J6⟩ := a
    obtain ⟨rfl, rfl, a5⟩ := wa
    dsimp only at a5 ⊢
    refine po_bl (fun b hb => ?_)
    have wb := wf_e_Ways_joinWays (P0 := P3) (F0 := F4) (A0 := A) ⟨rfl, rfl, a5⟩ b hb
    obtain ⟨u', P8, F9, A10, J11⟩ := b
    obtain ⟨rfl, rfl, a10⟩ := wb
    dsimp only at a10 ⊢
    refine po_bl (fun F12 h12 => po_bl (fun v hv => po_some ⟨rfl, ?_⟩))
    have u := gg_cpf h12
    have run : wrun n n P8 F9 A J h sh = some (u', P8, F9, A10, J11) := by
      unfold wrun
      rw [ha]
      exact hb
    refine ⟨.inr ⟨n, n, P8, F9, A, J, (u', P8, F9, A10, J11), fun k => (u.2 h k (fun e => h36 e.1)).symm, fun o ho => (a10 h o (fun e => h36 e.1)).symm, ?_, rfl⟩, fun k => u.2 h k (fun e => h36 e.1), fun o _ => a10 h o (fun e => h36 e.1)⟩
    show wrun n n P8 F9 A J h (F12 36 101) = _
    rw [u.1]
    exact run
theorem WCx.st {r o : Nat} {i v : Int} (W : WCx h F A) (U : CUm A A' r o i v) (hn : r ≠ 36 ∨ o ≠ 2) (hh : r ≠ h ∨ o = 17) : WCx h F A' := W.cg (fun _ => rfl) (fun o' ho => U.2.2 h o' (by omega)) rfl (U.2.2 36 2 (by omega))
theorem WCx.pf {r k : Nat} {x : Int32} (W : WCx h F A) (U : FUm F F' r k x) (hn : r ≠ 36) (hh : r ≠ h) : WCx h F' A := W.cg (fun k' => U.2 h k' (by omega)) (fun _ _ => rfl) (U.2 36 101 (by omega)) rfl
theorem WHx.st {r o : Nat} {i v : Int} (W : WHx h F1 A1 F A) (U : CUm A A' r o i v) (hn : r ≠ 36 ∨ o ≠ 2) (hh : r ≠ h ∨ o = 17) : WHx h F1 A1 F A' := ⟨W.1.st U hn hh, W.2.1, fun o' ho => (U.2.2 h o' (by omega)).trans (W.2.2 o' ho)⟩
theorem w_getUp_2 (hk : c_kind h = 6) : ∀ {n : Nat} {P : Nat → Nat → Nat} {F : Nat → Nat → Int32} {A : Nat → Nat → Nat → Int32} {J : Nat → Nat → Nat → Int64} {x1 : Int32}, P 36 8 = h → WHx h F1 A1 F A → po (e_Sleep_getUp_2 n P F A J x1) (fun r => r.2.1 = P ∧ WHx h F1 A1 r.2.2.1 r.2.2.2.1) := by
  have n36 : h ≠ 36 := fun e => absurd hk (by rw [e]; decide)
  have n2 : ∀ {p r : Nat}, c_chk 2 p = some r → r ≠ 36 ∧ r ≠ h := fun e => by
    have g := gg_chk e
    rw [← g.2] at g
    exact ⟨fun e => absurd g.1 (by rw [e]; decide), fun e => absurd g.1 (by rw [e, hk]; decide)⟩
  intro n
  induction n with
  | zero => intro P F A J x1 _ _ r hr; cases hr
  | succ n ih =>
    intro P F A J x1 e8 W
    unfold e_Sleep_getUp_2
    refine po_bl (fun q1 _ => ?_)
    refine po_cond (fun _ => po_some ⟨rfl, W⟩) (fun _ => ?_)
    refine po_bl (fun q3 _ => po_bl (fun v4 _ => po_bl (fun A5 h5 => po_bl (fun A6 h6 => po_bl (fun A7 h7 => po_bl (fun A8 h8 => po_bl (fun q9 e9 => po_bl (fun A10 h10 => ?_))))))))
    have W5 := W.st (gg_cst h5).2.2 (.inr (by decide)) (.inl (Ne.symm n36))
    have W6 := W5.st (gg_cst h6).2.2 (.inr (by decide)) (.inl (Ne.symm n36))
    have W7 := W6.st (gg_cst h7).2.2 (.inr (by decide)) (.inl (Ne.symm n36))
    have W8 := W7.st (gg_cst h8).2.2 (.inr (by decide)) (.inl (Ne.symm n36))
    have W10 := W8.st (gg_cst h10).2.2 (.inl (n2 e9).1) (.inl (n2 e9).2)
    refine po_cond (fun _ => ?_) (fun _ => ?_)
    · unfold e_Sleep_getUp_145
      exact ih e8 W10
    · refine po_bl (fun v12 _ => po_bl (fun A13 h13 => po_bl (fun q14 _ => po_bl (fun v15 _ => po_bl (fun v16 _ => po_bl (fun q17 e17 => po_bl (fun q18 _ => po_bl (fun q19 _ => po_bl (fun v20 _ => ?_)))))))))
      have W13 := W10.st (gg_cst h13).2.2 (.inr (by decide)) (.inl (Ne.symm n36))
      have k17 : q17 = h := (gg_chk e17).2.trans e8
      rw [k17]
      refine po_call (w_between W13.1 n36) ?_
      rintro ⟨v21, P22, F23, A24, J25⟩ ⟨g1, g2⟩
      dsimp only at g1 g2 ⊢
      subst g1
      refine po_bl (fun A26 h26 => po_bl (fun v27 _ => ?_))
      have W26 := (W13.tr g2).st (gg_cst h26).2.2 (.inr (by decide)) (.inl (Ne.symm n36))
      refine po_cond (fun _ => ?_) (fun _ => ?_)
      · unfold e_Sleep_getUp_145
        exact ih e8 W26
      · refine po_bl (fun q29 e29 => po_bl (fun A30 h30 => ?_))
        exact ih e8 (W26.st (gg_cst h30).2.2 (.inl (n2 e29).1) (.inl (n2 e29).2))
/-- a night of the class: the cache stays right, the house as it is -/
theorem w_goTill {n : Nat} {x1 : Int32} (hk : c_kind h = 6) (W : WCx h F A) : po (e_Sleep_goTill n P F A J x1 h q) (fun r => (∀ k, r.2.2.1 h k = F h k) → (∀ o, o ≠ 17 → r.2.2.2.1 h o = A h o) → WCx h r.2.2.1 r.2.2.2.1) := by
  have n36 : h ≠ 36 := fun e => absurd hk (by rw [e]; decide)
  unfold e_Sleep_goTill
  refine po_bl (fun P1 h1 => po_bl (fun P2 h2 => po_bl (fun A3 h3 => ?_)))
  have u1 := gg_cpp h1
  have u2 := gg_cpp h2
  have u3 := gg_cfi h3
  have e8 : P2 36 8 = h := (u2.2 36 8 (by simp)).trans u1.1
  have W3 : WHx h F A F A3 := ⟨W.cg (fun _ => rfl) (fun o _ => u3 h o (fun e => n36 e.1)) rfl (u3 36 2 (by simp)), fun _ => rfl, fun o _ => u3 h o (fun e => n36 e.1)⟩
  unfold e_Sleep_getUp
  refine po_call (w_getUp_2 hk e8 W3) ?_
  rintro ⟨u, P5, F6, A7, J8⟩ ⟨-, g2⟩
  dsimp only at g2 ⊢
  refine po_call (ck_e_Sleep_nextMinute (F0 := F6) (A0 := A7) CK.rfl') ?_
  rintro ⟨v9, P10, F11, A12, J13⟩ k9
  dsimp only at k9 ⊢
  refine po_mono (ck_e_Sleep_goTill_31 (F0 := F6) (A0 := A7) k9) (fun r k f a => g2.1.cg (fun k' => (f k').trans (g2.2.1 k').symm) (fun o ho => (a o ho).trans (g2.2.2 o ho).symm) k.1 k.2)
/-- what tries leave of what is kept -/
def SFr (F F' : Nat → Nat → Int32) (A A' : Nat → Nat → Nat → Int32) : Prop := (∀ r, c_kind r = 2 → r ≠ 3 → r ≠ 33 → (∀ o, A' r o = A r o) ∧ ∀ k, F' r k = F r k) ∧ (∀ o, A' 25 o = A 25 o) ∧ ∀ k, F' 25 k = F 25 k
theorem SFr.rfl' : SFr F F A A := ⟨fun _ _ _ _ => ⟨fun _ => rfl, fun _ => rfl⟩, fun _ => rfl, fun _ => rfl⟩
theorem SFr.tr (h : SFr F F1 A A1) (k : SFr F1 F' A1 A') : SFr F F' A A' := ⟨fun r a b c => ⟨fun o => ((k.1 r a b c).1 o).trans ((h.1 r a b c).1 o), fun i => ((k.1 r a b c).2 i).trans ((h.1 r a b c).2 i)⟩, fun o => (k.2.1 o).trans (h.2.1 o), fun i => (k.2.2 i).trans (h.2.2 i)⟩
/-- a try: quiet, all that is kept as it was, the ways' cache right -/
def QFc (P P' : Nat → Nat → Nat) (F F' : Nat → Nat → Int32) (A A' : Nat → Nat → Nat → Int32) : Prop := QKc P P' F F' A A' ∧ SFr F F' A A' ∧ (c_kind (P 0 8) = 6 → WCx (P 0 8) F A → WCx (P 0 8) F' A')
theorem QFc.g (q : QFc P P' F F' A A') (G : Gc P F A) : Gc P' F' A' := q.1.g G
theorem QFc.rfl' (R : Rc F A) : QFc P P F F A A := ⟨QKc.rfl' R, SFr.rfl', fun _ w => w⟩
theorem QFc.tr {P1 : Nat → Nat → Nat} (h : QFc P P1 F F1 A A1) (k : QFc P1 P' F1 F' A1 A') : QFc P P' F F' A A' := ⟨h.1.tr k.1, h.2.1.tr k.2.1, fun c w => by
  have e : P1 0 8 = P 0 8 := h.1.1 0 8 (by decide)
  have w1 := h.2.2 c w
  have w2 := k.2.2
  rw [e] at w2
  exact w2 c w1⟩
abbrev tg (r o : Nat) : Prop := c_kind r ≠ 6 ∧ (c_kind r = 2 → r = 3 ∨ r = 33) ∧ r ≠ 36 ∧ r ≠ 25
abbrev pg (r k : Nat) : Prop := (c_kind r ≠ 6 ∧ r ≠ 4 ∧ (r ≠ 0 ∨ k ≠ 10) ∧ r ≠ 1) ∧ (c_kind r = 2 → r = 3 ∨ r = 33) ∧ r ≠ 36 ∧ r ≠ 25
theorem tg33 : tg 33 3 := by decide
theorem tg33' : tg 33 4 := by decide
theorem QFc.st {r o : Nat} {i v : Int} (k : QFc P P' F F' A A1) (U : CUm A1 A' r o i v) (hv : rRc (c_kind r) o v) (t : tg r o) : QFc P P' F F' A A' := ⟨k.1.st U hv ⟨fun e => absurd e t.1, fun e => .inr (t.2.1 e)⟩, k.2.1.tr ⟨fun r' a b c => ⟨fun o' => U.2.2 r' o' (fun e => by
    have := t.2.1 (by rw [← e.1]; exact a)
    omega), fun _ => rfl⟩, fun o' => U.2.2 25 o' (fun e => t.2.2.2 e.1.symm), fun _ => rfl⟩, fun c w => (k.2.2 c w).st U (.inl t.2.2.1) (.inl (fun e => t.1 (by rw [e]; exact c)))⟩
theorem QFc.pf {r k : Nat} {x : Int32} (q : QFc P P' F F1 A A') (U : FUm F1 F' r k x) (hv : rFc (c_kind r) k x.toInt) (t : pg r k) : QFc P P' F F' A A' := ⟨q.1.pf U hv t.1, q.2.1.tr ⟨fun r' a b c => ⟨fun _ => rfl, fun k' => U.2 r' k' (fun e => by
    have := t.2.1 (by rw [← e.1]; exact a)
    omega)⟩, fun _ => rfl, fun k' => U.2 25 k' (fun e => t.2.2.2 e.1.symm)⟩, fun c w => (q.2.2 c w).pf U t.2.2.1 (fun e => t.1.1 (by rw [e]; exact c))⟩
theorem fq_trial (G : Gc P F A) : ok (e_State_copy P F A J 33 2) (fun r => r.2.1 = P ∧ QFc P r.2.1 F r.2.2.1 A r.2.2.2.1 ∧ LVc r.2.2.2.1 (P 0 8) 33 ∧ (∀ k, r.2.2.1 32 k = F 32 k)) := by
  refine ok_mono (ok_and (q_trial (J := J) G) (v_copy (P := P) (F := F) (A := A) (J := J) (r0 := 33) (r1 := 2) (by decide))) ?_
  rintro r ⟨⟨a, b, c, d⟩, -, v2, v3, -⟩
  exact ⟨a, ⟨b, ⟨fun r' _ _ c => ⟨fun o => v3 r' o c, fun k => v2 r' k c⟩, fun o => v3 25 o (by decide), fun k => v2 25 k (by decide)⟩, fun k6 w => w.cg (fun k => v2 _ k G.n33) (fun o _ => v3 _ o G.n33) (v2 36 101 (by decide)) (v3 36 2 (by decide))⟩, c, d⟩
theorem fq_goTill {n : Nat} {x1 : Int32} (G : Gc P F A) (L : LVc A (P 0 8) 33) (h1 : x1.toInt ≤ 600) (hn : 1400 ≤ n) : ok (e_Sleep_goTill n P F A J x1 (P 32 4) 33) (fun r => QFc P r.2.1 F r.2.2.1 A r.2.2.2.1 ∧ (∀ k, r.2.2.1 32 k = F 32 k)) := by
  have qq := q_goTill (J := J) G L h1 hn
  have ms := s_goTill (J := J) (P := P) G.k08 (by decide) G.1 G.2.2.2.1 L h1 hn
  rw [G.2.2.1] at qq ⊢
  have n36 : P 0 8 ≠ 36 := fun e => absurd G.k08 (by rw [e]; decide)
  have g33 := G.n33
  by_cases w0 : WCx (P 0 8) F A
  · refine ok_mono (ok_and (ok_and qq ms.po) (w_goTill (J := J) (P := P) (q := 33) (n := n) (x1 := x1) G.k08 w0)) ?_
    rintro r ⟨⟨⟨a, b⟩, -, -, -, m3, m4, -⟩, w⟩
    have hf : ∀ k, r.2.2.1 (P 0 8) k = F (P 0 8) k := fun k => m4 _ k (fun e => n36 e.1)
    have ha : ∀ o, o ≠ 17 → r.2.2.2.1 (P 0 8) o = A (P 0 8) o := fun o ho => m3 _ o n36 g33 (fun _ => ho)
    exact ⟨⟨a, ⟨fun r' a b c => ⟨fun o => m3 r' o (k2ne a) c (fun e => absurd e.symm (k62 G.k08 a)), fun k => m4 r' k (fun e => k2ne a e.1)⟩, fun o => m3 25 o (by decide) (by decide) (fun e => absurd G.k08 (by rw [← e]; decide)), fun k => m4 25 k (by simp)⟩, fun _ _ => w hf ha⟩, b⟩
  · refine ok_mono (ok_and qq ms.po) ?_
    rintro r ⟨⟨a, b⟩, -, -, -, m3, m4, -⟩
    exact ⟨⟨a, ⟨fun r' a b c => ⟨fun o => m3 r' o (k2ne a) c (fun e => absurd e.symm (k62 G.k08 a)), fun k => m4 r' k (fun e => k2ne a e.1)⟩, fun o => m3 25 o (by decide) (by decide) (fun e => absurd G.k08 (by rw [← e]; decide)), fun k => m4 25 k (by simp)⟩, fun _ w => absurd w w0⟩, b⟩
theorem fq_between {n : Nat} {x2 x3 x4 : Int32} (G : Gc P F A) (h3 : 0 ≤ x3.toInt ∧ x3.toInt ≤ 7) (h4 : 0 ≤ x4.toInt ∧ x4.toInt ≤ 7) (hn : 70 ≤ n) : ok (e_Ways_between n P F A J (P 0 8) x2 x3 x4) (fun r => r.2.1 = P ∧ QFc P r.2.1 F r.2.2.1 A r.2.2.2.1) := by
  have n36 : P 0 8 ≠ 36 := fun e => absurd G.k08 (by rw [e]; decide)
  have bs := s_between (J := J) (P := P) (x2 := x2) G.k08 G.1 G.2.2.2.1 h3 h4 hn
  have mk : ∀ r : Int32 × (Nat → Nat → Nat) × (Nat → Nat → Int32) × (Nat → Nat → Nat → Int32) × (Nat → Nat → Nat → Int64), BWc P F A r → (c_kind (P 0 8) = 6 → WCx (P 0 8) F A → WCx (P 0 8) r.2.2.1 r.2.2.2.1) → r.2.1 = P ∧ QFc P r.2.1 F r.2.2.1 A r.2.2.2.1 := by
    rintro ⟨v, P2, F2, A2, J2⟩ ⟨g1, g2, g3, g4⟩ w
    dsimp only at g1 g2 g3 g4 w ⊢
    subst g1
    exact ⟨rfl, ⟨fun _ _ _ => rfl, g4, ⟨fun q hq => ⟨fun k => g2 q k (by omega), fun o _ => g3 q o (by omega)⟩, fun r a _ _ => g3 r 3 (by simp), fun k => g2 4 k (by simp), g2 0 10 (by simp), fun k => g2 1 k (by simp)⟩⟩, ⟨fun r a b c => ⟨fun o => g3 r o (fun e => k2ne a e.1), fun k => g2 r k (fun e => k2ne a e.1)⟩, fun o => g3 25 o (by simp), fun k => g2 25 k (by simp)⟩, w⟩
  by_cases w0 : WCx (P 0 8) F A
  · exact ok_mono (ok_and bs (w_between (J := J) (P := P) (n := n) (sh := x2) (x3 := x3) (x4 := x4) w0 n36)) (fun r h => mk r h.1 (fun _ _ => h.2.2.1))
  · exact ok_mono bs (fun r h => mk r h (fun _ w => absurd w w0))
theorem fq0 {v : Int32} (G : Gc P F A) : ok (some (v, P, F, A, J)) (fun r => QFc P r.2.1 F r.2.2.1 A r.2.2.2.1) := ok_some (QFc.rfl' G.1)
end G9f4
