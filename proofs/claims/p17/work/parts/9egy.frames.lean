/-! what the sentences without laws leave of the laws (printed by wip/frames.py) -/
section B7y
variable {d : Nat} {F0 : Nat → Nat → Int32} {A0 : Nat → Nat → Nat → Int32} {Fr : Nat → Int32} {Ar : Nat → Nat → Int32}
/-- the class's instructions are as they were -/
def FLh (d : Nat) (F0 : Nat → Nat → Int32) (A0 : Nat → Nat → Nat → Int32) (F : Nat → Nat → Int32) (A : Nat → Nat → Nat → Int32) : Prop := F d 1304 = F0 d 1304 ∧ A d 14 = A0 d 14 ∧ A d 15 = A0 d 15 ∧ A d 16 = A0 d 16
theorem fl_pf {γ : Type} {q k : Nat} {x : Int32} {F : Nat → Nat → Int32} {A : Nat → Nat → Nat → Int32} {g : (Nat → Nat → Int32) → Option γ} {Q : γ → Prop} (h : FLh d F0 A0 F A) (hk : k ≠ 1304) (kk : ∀ F', FLh d F0 A0 F' A → po (g F') Q) : po ((c_pf F q k x).bind g) Q :=
  po_bl (fun F' e => kk F' ⟨((gg_cpf e).2 d 1304 (fun e => hk e.2.symm)).trans h.1, h.2⟩)
theorem fl_st {γ : Type} {q o n : Nat} {i x : Int32} {F : Nat → Nat → Int32} {A : Nat → Nat → Nat → Int32} {g : (Nat → Nat → Nat → Int32) → Option γ} {Q : γ → Prop} (h : FLh d F0 A0 F A) (ho : o ≠ 14 ∧ o ≠ 15 ∧ o ≠ 16) (kk : ∀ A', FLh d F0 A0 F A' → po (g A') Q) : po ((c_st A q o n i x).bind g) Q :=
  po_bl (fun A' e => by
    have a := (gg_cst e).2.2.2.2
    exact kk A' ⟨h.1, (a d 14 (fun e => ho.1 e.2.symm)).trans h.2.1, (a d 15 (fun e => ho.2.1 e.2.symm)).trans h.2.2.1, (a d 16 (fun e => ho.2.2 e.2.symm)).trans h.2.2.2⟩)
/-- the reference's codes and branches are as they were -/
def FMh (F0 : Nat → Int32) (A0 : Nat → Nat → Int32) (F : Nat → Int32) (A : Nat → Nat → Int32) : Prop := (F 49 = F0 49 ∧ F 56 = F0 56 ∧ F 19 = F0 19) ∧ ∀ q, 34 ≤ q → q ≤ 43 → q ≠ 41 → A q = A0 q
theorem fm_pf {γ : Type} {k : Nat} {x : Int32} {F : Nat → Int32} {A : Nat → Nat → Int32} {g : (Nat → Int32) → Option γ} {Q : γ → Prop} (h : FMh Fr Ar F A) (hk : k ≠ 49 ∧ k ≠ 56 ∧ k ≠ 19) (kk : ∀ F', FMh Fr Ar F' A → po (g F') Q) : po ((m_pf F k x).bind g) Q :=
  po_bl (fun F' e => by
    have a := (gg_pf e).2
    exact kk F' ⟨⟨(a 49 (fun e => hk.1 e.symm)).trans h.1.1, (a 56 (fun e => hk.2.1 e.symm)).trans h.1.2.1, (a 19 (fun e => hk.2.2 e.symm)).trans h.1.2.2⟩, h.2⟩)
theorem fm_st {γ : Type} {j n : Nat} {i x : Int32} {F : Nat → Int32} {A : Nat → Nat → Int32} {g : (Nat → Nat → Int32) → Option γ} {Q : γ → Prop} (h : FMh Fr Ar F A) (hj : j < 34 ∨ 43 < j ∨ j = 41) (kk : ∀ A', FMh Fr Ar F A' → po (g A') Q) : po ((m_st A j n i x).bind g) Q :=
  po_bl (fun A' e => kk A' ⟨h.1, fun q h1 h2 h3 => ((gg_st e).2.2.1 q (by omega)).trans (h.2 q h1 h2 h3)⟩)
theorem fl_e_Reader_fail_15 {P : Nat → Nat → Nat} {F : Nat → Nat → Int32} {A : Nat → Nat → Nat → Int32} {J : Nat → Nat → Nat → Int64} {x1 : Int32} {x2 : Int32}  (h : FLh d F0 A0 F A) : po (e_Reader_fail_15 P F A J x1 x2) (fun r => FLh d F0 A0 r.2.2.1 r.2.2.2.1) := by
  unfold e_Reader_fail_15
  repeat' (first
    | with_reducible exact po_some (by assumption)
    | (with_reducible refine fl_pf (by assumption) (by decide) ?_; intro _ _)
    | (with_reducible refine fl_st (by assumption) (by decide) ?_; intro _ _)
    | with_reducible refine po_cond (fun _ => ?_) (fun _ => ?_)
    | with_reducible refine po_bind_cond (fun _ => ?_) (fun _ => ?_)
    | with_reducible refine po_bl (fun _ _ => ?_))
theorem fl_e_Reader_fail {P : Nat → Nat → Nat} {F : Nat → Nat → Int32} {A : Nat → Nat → Nat → Int32} {J : Nat → Nat → Nat → Int64} {x1 : Int32} {x2 : Int32}  (h : FLh d F0 A0 F A) : po (e_Reader_fail P F A J x1 x2) (fun r => FLh d F0 A0 r.2.2.1 r.2.2.2.1) := by
  unfold e_Reader_fail
  repeat' (first
    | with_reducible exact po_some (by assumption)
    | (with_reducible refine fl_pf (by assumption) (by decide) ?_; intro _ _)
    | (with_reducible refine fl_st (by assumption) (by decide) ?_; intro _ _)
    | with_reducible exact fl_e_Reader_fail_15 (by assumption)
    | (with_reducible refine po_call (fl_e_Reader_fail_15 (by assumption)) ?_; rintro ⟨_, _, _, _, _⟩ _; try dsimp only)
    | with_reducible refine po_cond (fun _ => ?_) (fun _ => ?_)
    | with_reducible refine po_bind_cond (fun _ => ?_) (fun _ => ?_)
    | with_reducible refine po_bl (fun _ _ => ?_))
theorem fl_e_Reader_take {P : Nat → Nat → Nat} {F : Nat → Nat → Int32} {A : Nat → Nat → Nat → Int32} {J : Nat → Nat → Nat → Int64} {x1 : Int32}  (h : FLh d F0 A0 F A) : po (e_Reader_take P F A J x1) (fun r => FLh d F0 A0 r.2.2.1 r.2.2.2.1) := by
  unfold e_Reader_take
  repeat' (first
    | with_reducible exact po_some (by assumption)
    | (with_reducible refine fl_pf (by assumption) (by decide) ?_; intro _ _)
    | (with_reducible refine fl_st (by assumption) (by decide) ?_; intro _ _)
    | with_reducible exact fl_e_Reader_fail (by assumption)
    | (with_reducible refine po_call (fl_e_Reader_fail (by assumption)) ?_; rintro ⟨_, _, _, _, _⟩ _; try dsimp only)
    | with_reducible refine po_cond (fun _ => ?_) (fun _ => ?_)
    | with_reducible refine po_bind_cond (fun _ => ?_) (fun _ => ?_)
    | with_reducible refine po_bl (fun _ _ => ?_))
theorem fl_e_Reader_takeFirst_22 {P : Nat → Nat → Nat} {F : Nat → Nat → Int32} {A : Nat → Nat → Nat → Int32} {J : Nat → Nat → Nat → Int64} {x1 : Int32}  (h : FLh d F0 A0 F A) : po (e_Reader_takeFirst_22 P F A J x1) (fun r => FLh d F0 A0 r.2.2.1 r.2.2.2.1) := by
  unfold e_Reader_takeFirst_22
  repeat' (first
    | with_reducible exact po_some (by assumption)
    | (with_reducible refine fl_pf (by assumption) (by decide) ?_; intro _ _)
    | (with_reducible refine fl_st (by assumption) (by decide) ?_; intro _ _)
    | with_reducible exact fl_e_Reader_take (by assumption)
    | (with_reducible refine po_call (fl_e_Reader_take (by assumption)) ?_; rintro ⟨_, _, _, _, _⟩ _; try dsimp only)
    | with_reducible refine po_cond (fun _ => ?_) (fun _ => ?_)
    | with_reducible refine po_bind_cond (fun _ => ?_) (fun _ => ?_)
    | with_reducible refine po_bl (fun _ _ => ?_))
theorem fl_e_Reader_takeFirst {P : Nat → Nat → Nat} {F : Nat → Nat → Int32} {A : Nat → Nat → Nat → Int32} {J : Nat → Nat → Nat → Int64} {x1 : Int32} {x2 : Int32} {x3 : Int32}  (h : FLh d F0 A0 F A) : po (e_Reader_takeFirst P F A J x1 x2 x3) (fun r => FLh d F0 A0 r.2.2.1 r.2.2.2.1) := by
  unfold e_Reader_takeFirst
  repeat' (first
    | with_reducible exact po_some (by assumption)
    | (with_reducible refine fl_pf (by assumption) (by decide) ?_; intro _ _)
    | (with_reducible refine fl_st (by assumption) (by decide) ?_; intro _ _)
    | with_reducible exact fl_e_Reader_takeFirst_22 (by assumption)
    | (with_reducible refine po_call (fl_e_Reader_takeFirst_22 (by assumption)) ?_; rintro ⟨_, _, _, _, _⟩ _; try dsimp only)
    | with_reducible exact fl_e_Reader_fail (by assumption)
    | (with_reducible refine po_call (fl_e_Reader_fail (by assumption)) ?_; rintro ⟨_, _, _, _, _⟩ _; try dsimp only)
    | with_reducible exact fl_e_Reader_take (by assumption)
    | (with_reducible refine po_call (fl_e_Reader_take (by assumption)) ?_; rintro ⟨_, _, _, _, _⟩ _; try dsimp only)
    | with_reducible refine po_cond (fun _ => ?_) (fun _ => ?_)
    | with_reducible refine po_bind_cond (fun _ => ?_) (fun _ => ?_)
    | with_reducible refine po_bl (fun _ _ => ?_))
theorem fl_e_Reader_failLate {P : Nat → Nat → Nat} {F : Nat → Nat → Int32} {A : Nat → Nat → Nat → Int32} {J : Nat → Nat → Nat → Int64} {x1 : Int32}  (h : FLh d F0 A0 F A) : po (e_Reader_failLate P F A J x1) (fun r => FLh d F0 A0 r.2.2.1 r.2.2.2.1) := by
  unfold e_Reader_failLate
  repeat' (first
    | with_reducible exact po_some (by assumption)
    | (with_reducible refine fl_pf (by assumption) (by decide) ?_; intro _ _)
    | (with_reducible refine fl_st (by assumption) (by decide) ?_; intro _ _)
    | with_reducible refine po_cond (fun _ => ?_) (fun _ => ?_)
    | with_reducible refine po_bind_cond (fun _ => ?_) (fun _ => ?_)
    | with_reducible refine po_bl (fun _ _ => ?_))
theorem fl_e_Reader_takeKnownName {n : Nat} {P : Nat → Nat → Nat} {F : Nat → Nat → Int32} {A : Nat → Nat → Nat → Int32} {J : Nat → Nat → Nat → Int64} {x2 : Int32}  (h : FLh d F0 A0 F A) : po (e_Reader_takeKnownName n P F A J x2) (fun r => FLh d F0 A0 r.2.2.1 r.2.2.2.1) := by
  unfold e_Reader_takeKnownName
  repeat' (first
    | with_reducible exact po_some (by assumption)
    | (with_reducible refine fl_pf (by assumption) (by decide) ?_; intro _ _)
    | (with_reducible refine fl_st (by assumption) (by decide) ?_; intro _ _)
    | with_reducible exact fl_e_Reader_take (by assumption)
    | (with_reducible refine po_call (fl_e_Reader_take (by assumption)) ?_; rintro ⟨_, _, _, _, _⟩ _; try dsimp only)
    | with_reducible exact fl_e_Reader_failLate (by assumption)
    | (with_reducible refine po_call (fl_e_Reader_failLate (by assumption)) ?_; rintro ⟨_, _, _, _, _⟩ _; try dsimp only)
    | with_reducible refine po_cond (fun _ => ?_) (fun _ => ?_)
    | with_reducible refine po_bind_cond (fun _ => ?_) (fun _ => ?_)
    | with_reducible refine po_bl (fun _ _ => ?_))
theorem fl_e_Reader_takeNumber_34 {P : Nat → Nat → Nat} {F : Nat → Nat → Int32} {A : Nat → Nat → Nat → Int32} {J : Nat → Nat → Nat → Int64} {x3 : Int32}  (h : FLh d F0 A0 F A) : po (e_Reader_takeNumber_34 P F A J x3) (fun r => FLh d F0 A0 r.2.2.1 r.2.2.2.1) := by
  unfold e_Reader_takeNumber_34
  repeat' (first
    | with_reducible exact po_some (by assumption)
    | (with_reducible refine fl_pf (by assumption) (by decide) ?_; intro _ _)
    | (with_reducible refine fl_st (by assumption) (by decide) ?_; intro _ _)
    | with_reducible exact fl_e_Reader_failLate (by assumption)
    | (with_reducible refine po_call (fl_e_Reader_failLate (by assumption)) ?_; rintro ⟨_, _, _, _, _⟩ _; try dsimp only)
    | with_reducible refine po_cond (fun _ => ?_) (fun _ => ?_)
    | with_reducible refine po_bind_cond (fun _ => ?_) (fun _ => ?_)
    | with_reducible refine po_bl (fun _ _ => ?_))
theorem fl_e_Reader_takeNumber {P : Nat → Nat → Nat} {F : Nat → Nat → Int32} {A : Nat → Nat → Nat → Int32} {J : Nat → Nat → Nat → Int64} {x1 : Int32} {x2 : Int32}  (h : FLh d F0 A0 F A) : po (e_Reader_takeNumber P F A J x1 x2) (fun r => FLh d F0 A0 r.2.2.1 r.2.2.2.1) := by
  unfold e_Reader_takeNumber
  repeat' (first
    | with_reducible exact po_some (by assumption)
    | (with_reducible refine fl_pf (by assumption) (by decide) ?_; intro _ _)
    | (with_reducible refine fl_st (by assumption) (by decide) ?_; intro _ _)
    | with_reducible exact fl_e_Reader_take (by assumption)
    | (with_reducible refine po_call (fl_e_Reader_take (by assumption)) ?_; rintro ⟨_, _, _, _, _⟩ _; try dsimp only)
    | with_reducible exact fl_e_Reader_takeNumber_34 (by assumption)
    | (with_reducible refine po_call (fl_e_Reader_takeNumber_34 (by assumption)) ?_; rintro ⟨_, _, _, _, _⟩ _; try dsimp only)
    | with_reducible refine po_cond (fun _ => ?_) (fun _ => ?_)
    | with_reducible refine po_bind_cond (fun _ => ?_) (fun _ => ?_)
    | with_reducible refine po_bl (fun _ _ => ?_))
theorem fl_e_Reader_readDoor_165 {n : Nat} {P : Nat → Nat → Nat} {F : Nat → Nat → Int32} {A : Nat → Nat → Nat → Int32} {J : Nat → Nat → Nat → Int64} {rs0 : Nat} {s1 : Int32} {s2 : Int32}  (h : FLh d F0 A0 F A) : po (e_Reader_readDoor_165 n P F A J rs0 s1 s2) (fun r => FLh d F0 A0 r.2.2.1 r.2.2.2.1) := by
  unfold e_Reader_readDoor_165
  repeat' (first
    | with_reducible exact po_some (by assumption)
    | (with_reducible refine fl_pf (by assumption) (by decide) ?_; intro _ _)
    | (with_reducible refine fl_st (by assumption) (by decide) ?_; intro _ _)
    | with_reducible refine po_cond (fun _ => ?_) (fun _ => ?_)
    | with_reducible refine po_bind_cond (fun _ => ?_) (fun _ => ?_)
    | with_reducible refine po_bl (fun _ _ => ?_))
theorem fl_e_Reader_readDoor_91 {n : Nat} {P : Nat → Nat → Nat} {F : Nat → Nat → Int32} {A : Nat → Nat → Nat → Int32} {J : Nat → Nat → Nat → Int64} {x1 : Int32} {x2 : Int32} {x3 : Int32} {s0 : Int32}  (h : FLh d F0 A0 F A) : po (e_Reader_readDoor_91 n P F A J x1 x2 x3 s0) (fun r => FLh d F0 A0 r.2.2.1 r.2.2.2.1) := by
  unfold e_Reader_readDoor_91
  repeat' (first
    | with_reducible exact po_some (by assumption)
    | (with_reducible refine fl_pf (by assumption) (by decide) ?_; intro _ _)
    | (with_reducible refine fl_st (by assumption) (by decide) ?_; intro _ _)
    | with_reducible exact fl_e_Reader_take (by assumption)
    | (with_reducible refine po_call (fl_e_Reader_take (by assumption)) ?_; rintro ⟨_, _, _, _, _⟩ _; try dsimp only)
    | with_reducible exact fl_e_Reader_readDoor_165 (by assumption)
    | (with_reducible refine po_call (fl_e_Reader_readDoor_165 (by assumption)) ?_; rintro ⟨_, _, _, _, _⟩ _; try dsimp only)
    | with_reducible refine po_cond (fun _ => ?_) (fun _ => ?_)
    | with_reducible refine po_bind_cond (fun _ => ?_) (fun _ => ?_)
    | with_reducible refine po_bl (fun _ _ => ?_))
theorem fl_e_Reader_readDoor_90 {n : Nat} {P : Nat → Nat → Nat} {F : Nat → Nat → Int32} {A : Nat → Nat → Nat → Int32} {J : Nat → Nat → Nat → Int64} {x1 : Int32} {x2 : Int32} {x3 : Int32}  (h : FLh d F0 A0 F A) : po (e_Reader_readDoor_90 n P F A J x1 x2 x3) (fun r => FLh d F0 A0 r.2.2.1 r.2.2.2.1) := by
  unfold e_Reader_readDoor_90
  repeat' (first
    | with_reducible exact po_some (by assumption)
    | (with_reducible refine fl_pf (by assumption) (by decide) ?_; intro _ _)
    | (with_reducible refine fl_st (by assumption) (by decide) ?_; intro _ _)
    | with_reducible exact fl_e_Reader_readDoor_91 (by assumption)
    | (with_reducible refine po_call (fl_e_Reader_readDoor_91 (by assumption)) ?_; rintro ⟨_, _, _, _, _⟩ _; try dsimp only)
    | with_reducible refine po_cond (fun _ => ?_) (fun _ => ?_)
    | with_reducible refine po_bind_cond (fun _ => ?_) (fun _ => ?_)
    | with_reducible refine po_bl (fun _ _ => ?_))
theorem fl_e_Reader_readDoor_60 {n : Nat} {P : Nat → Nat → Nat} {F : Nat → Nat → Int32} {A : Nat → Nat → Nat → Int32} {J : Nat → Nat → Nat → Int64} {x1 : Int32} {x2 : Int32}  (h : FLh d F0 A0 F A) : po (e_Reader_readDoor_60 n P F A J x1 x2) (fun r => FLh d F0 A0 r.2.2.1 r.2.2.2.1) := by
  unfold e_Reader_readDoor_60
  repeat' (first
    | with_reducible exact po_some (by assumption)
    | (with_reducible refine fl_pf (by assumption) (by decide) ?_; intro _ _)
    | (with_reducible refine fl_st (by assumption) (by decide) ?_; intro _ _)
    | with_reducible exact fl_e_Reader_takeNumber (by assumption)
    | (with_reducible refine po_call (fl_e_Reader_takeNumber (by assumption)) ?_; rintro ⟨_, _, _, _, _⟩ _; try dsimp only)
    | with_reducible exact fl_e_Reader_readDoor_90 (by assumption)
    | (with_reducible refine po_call (fl_e_Reader_readDoor_90 (by assumption)) ?_; rintro ⟨_, _, _, _, _⟩ _; try dsimp only)
    | with_reducible exact fl_e_Reader_take (by assumption)
    | (with_reducible refine po_call (fl_e_Reader_take (by assumption)) ?_; rintro ⟨_, _, _, _, _⟩ _; try dsimp only)
    | with_reducible exact fl_e_Reader_readDoor_91 (by assumption)
    | (with_reducible refine po_call (fl_e_Reader_readDoor_91 (by assumption)) ?_; rintro ⟨_, _, _, _, _⟩ _; try dsimp only)
    | with_reducible refine po_cond (fun _ => ?_) (fun _ => ?_)
    | with_reducible refine po_bind_cond (fun _ => ?_) (fun _ => ?_)
    | with_reducible refine po_bl (fun _ _ => ?_))
theorem fl_e_Reader_readDoor {n : Nat} {P : Nat → Nat → Nat} {F : Nat → Nat → Int32} {A : Nat → Nat → Nat → Int32} {J : Nat → Nat → Nat → Int64}  (h : FLh d F0 A0 F A) : po (e_Reader_readDoor n P F A J) (fun r => FLh d F0 A0 r.2.2.1 r.2.2.2.1) := by
  unfold e_Reader_readDoor
  repeat' (first
    | with_reducible exact po_some (by assumption)
    | (with_reducible refine fl_pf (by assumption) (by decide) ?_; intro _ _)
    | (with_reducible refine fl_st (by assumption) (by decide) ?_; intro _ _)
    | with_reducible exact fl_e_Reader_takeFirst (by assumption)
    | (with_reducible refine po_call (fl_e_Reader_takeFirst (by assumption)) ?_; rintro ⟨_, _, _, _, _⟩ _; try dsimp only)
    | with_reducible exact fl_e_Reader_takeKnownName (by assumption)
    | (with_reducible refine po_call (fl_e_Reader_takeKnownName (by assumption)) ?_; rintro ⟨_, _, _, _, _⟩ _; try dsimp only)
    | with_reducible exact fl_e_Reader_readDoor_60 (by assumption)
    | (with_reducible refine po_call (fl_e_Reader_readDoor_60 (by assumption)) ?_; rintro ⟨_, _, _, _, _⟩ _; try dsimp only)
    | with_reducible exact fl_e_Reader_failLate (by assumption)
    | (with_reducible refine po_call (fl_e_Reader_failLate (by assumption)) ?_; rintro ⟨_, _, _, _, _⟩ _; try dsimp only)
    | with_reducible exact fl_e_Reader_takeNumber (by assumption)
    | (with_reducible refine po_call (fl_e_Reader_takeNumber (by assumption)) ?_; rintro ⟨_, _, _, _, _⟩ _; try dsimp only)
    | with_reducible exact fl_e_Reader_readDoor_90 (by assumption)
    | (with_reducible refine po_call (fl_e_Reader_readDoor_90 (by assumption)) ?_; rintro ⟨_, _, _, _, _⟩ _; try dsimp only)
    | with_reducible exact fl_e_Reader_take (by assumption)
    | (with_reducible refine po_call (fl_e_Reader_take (by assumption)) ?_; rintro ⟨_, _, _, _, _⟩ _; try dsimp only)
    | with_reducible exact fl_e_Reader_readDoor_91 (by assumption)
    | (with_reducible refine po_call (fl_e_Reader_readDoor_91 (by assumption)) ?_; rintro ⟨_, _, _, _, _⟩ _; try dsimp only)
    | with_reducible refine po_cond (fun _ => ?_) (fun _ => ?_)
    | with_reducible refine po_bind_cond (fun _ => ?_) (fun _ => ?_)
    | with_reducible refine po_bl (fun _ _ => ?_))
theorem fl_e_Reader_takeNewName_v3_101 {n : Nat} {P : Nat → Nat → Nat} {F : Nat → Nat → Int32} {A : Nat → Nat → Nat → Int32} {J : Nat → Nat → Nat → Int64} {x2 : Int32} {x3 : Int64}  (h : FLh d F0 A0 F A) : po (e_Reader_takeNewName_v3_101 n P F A J x2 x3) (fun r => FLh d F0 A0 r.2.2.1 r.2.2.2.1) := by
  unfold e_Reader_takeNewName_v3_101
  repeat' (first
    | with_reducible exact po_some (by assumption)
    | (with_reducible refine fl_pf (by assumption) (by decide) ?_; intro _ _)
    | (with_reducible refine fl_st (by assumption) (by decide) ?_; intro _ _)
    | with_reducible exact fl_e_Reader_failLate (by assumption)
    | (with_reducible refine po_call (fl_e_Reader_failLate (by assumption)) ?_; rintro ⟨_, _, _, _, _⟩ _; try dsimp only)
    | with_reducible refine po_cond (fun _ => ?_) (fun _ => ?_)
    | with_reducible refine po_bind_cond (fun _ => ?_) (fun _ => ?_)
    | with_reducible refine po_bl (fun _ _ => ?_))
theorem fl_e_Reader_takeNewName_v3_106 {n : Nat} {P : Nat → Nat → Nat} {F : Nat → Nat → Int32} {A : Nat → Nat → Nat → Int32} {J : Nat → Nat → Nat → Int64} {x2 : Int32} {x3 : Int64}  (h : FLh d F0 A0 F A) : po (e_Reader_takeNewName_v3_106 n P F A J x2 x3) (fun r => FLh d F0 A0 r.2.2.1 r.2.2.2.1) := by
  unfold e_Reader_takeNewName_v3_106
  repeat' (first
    | with_reducible exact po_some (by assumption)
    | (with_reducible refine fl_pf (by assumption) (by decide) ?_; intro _ _)
    | (with_reducible refine fl_st (by assumption) (by decide) ?_; intro _ _)
    | with_reducible refine po_cond (fun _ => ?_) (fun _ => ?_)
    | with_reducible refine po_bind_cond (fun _ => ?_) (fun _ => ?_)
    | with_reducible refine po_bl (fun _ _ => ?_))
theorem fl_e_Reader_takeNewName_v3 {n : Nat} {P : Nat → Nat → Nat} {F : Nat → Nat → Int32} {A : Nat → Nat → Nat → Int32} {J : Nat → Nat → Nat → Int64} {x2 : Int32}  (h : FLh d F0 A0 F A) : po (e_Reader_takeNewName_v3 n P F A J x2) (fun r => FLh d F0 A0 r.2.2.1 r.2.2.2.1) := by
  unfold e_Reader_takeNewName_v3
  repeat' (first
    | with_reducible exact po_some (by assumption)
    | (with_reducible refine fl_pf (by assumption) (by decide) ?_; intro _ _)
    | (with_reducible refine fl_st (by assumption) (by decide) ?_; intro _ _)
    | with_reducible exact fl_e_Reader_take (by assumption)
    | (with_reducible refine po_call (fl_e_Reader_take (by assumption)) ?_; rintro ⟨_, _, _, _, _⟩ _; try dsimp only)
    | with_reducible exact fl_e_Reader_takeNewName_v3_101 (by assumption)
    | (with_reducible refine po_call (fl_e_Reader_takeNewName_v3_101 (by assumption)) ?_; rintro ⟨_, _, _, _, _⟩ _; try dsimp only)
    | with_reducible exact fl_e_Reader_takeNewName_v3_106 (by assumption)
    | (with_reducible refine po_call (fl_e_Reader_takeNewName_v3_106 (by assumption)) ?_; rintro ⟨_, _, _, _, _⟩ _; try dsimp only)
    | with_reducible refine po_cond (fun _ => ?_) (fun _ => ?_)
    | with_reducible refine po_bind_cond (fun _ => ?_) (fun _ => ?_)
    | with_reducible refine po_bl (fun _ _ => ?_))
theorem fl_e_Reader_readMan_92 {n : Nat} {P : Nat → Nat → Nat} {F : Nat → Nat → Int32} {A : Nat → Nat → Nat → Int32} {J : Nat → Nat → Nat → Int64} {x1 : Int32} {x2 : Int32}  (h : FLh d F0 A0 F A) : po (e_Reader_readMan_92 n P F A J x1 x2) (fun r => FLh d F0 A0 r.2.2.1 r.2.2.2.1) := by
  unfold e_Reader_readMan_92
  repeat' (first
    | with_reducible exact po_some (by assumption)
    | (with_reducible refine fl_pf (by assumption) (by decide) ?_; intro _ _)
    | (with_reducible refine fl_st (by assumption) (by decide) ?_; intro _ _)
    | with_reducible exact fl_e_Reader_take (by assumption)
    | (with_reducible refine po_call (fl_e_Reader_take (by assumption)) ?_; rintro ⟨_, _, _, _, _⟩ _; try dsimp only)
    | with_reducible refine po_cond (fun _ => ?_) (fun _ => ?_)
    | with_reducible refine po_bind_cond (fun _ => ?_) (fun _ => ?_)
    | with_reducible refine po_bl (fun _ _ => ?_))
theorem fl_e_Reader_takeKnownName_v1 {n : Nat} {P : Nat → Nat → Nat} {F : Nat → Nat → Int32} {A : Nat → Nat → Nat → Int32} {J : Nat → Nat → Nat → Int64} {x2 : Int32}  (h : FLh d F0 A0 F A) : po (e_Reader_takeKnownName_v1 n P F A J x2) (fun r => FLh d F0 A0 r.2.2.1 r.2.2.2.1) := by
  unfold e_Reader_takeKnownName_v1
  repeat' (first
    | with_reducible exact po_some (by assumption)
    | (with_reducible refine fl_pf (by assumption) (by decide) ?_; intro _ _)
    | (with_reducible refine fl_st (by assumption) (by decide) ?_; intro _ _)
    | with_reducible exact fl_e_Reader_take (by assumption)
    | (with_reducible refine po_call (fl_e_Reader_take (by assumption)) ?_; rintro ⟨_, _, _, _, _⟩ _; try dsimp only)
    | with_reducible exact fl_e_Reader_failLate (by assumption)
    | (with_reducible refine po_call (fl_e_Reader_failLate (by assumption)) ?_; rintro ⟨_, _, _, _, _⟩ _; try dsimp only)
    | with_reducible refine po_cond (fun _ => ?_) (fun _ => ?_)
    | with_reducible refine po_bind_cond (fun _ => ?_) (fun _ => ?_)
    | with_reducible refine po_bl (fun _ _ => ?_))
theorem fl_e_Reader_takeStepNumber_23 {P : Nat → Nat → Nat} {F : Nat → Nat → Int32} {A : Nat → Nat → Nat → Int32} {J : Nat → Nat → Nat → Int64} {s1 : Int32} {s2 : Int32}  (h : FLh d F0 A0 F A) : po (e_Reader_takeStepNumber_23 P F A J s1 s2) (fun r => FLh d F0 A0 r.2.2.1 r.2.2.2.1) := by
  unfold e_Reader_takeStepNumber_23
  repeat' (first
    | with_reducible exact po_some (by assumption)
    | (with_reducible refine fl_pf (by assumption) (by decide) ?_; intro _ _)
    | (with_reducible refine fl_st (by assumption) (by decide) ?_; intro _ _)
    | with_reducible exact fl_e_Reader_takeNumber (by assumption)
    | (with_reducible refine po_call (fl_e_Reader_takeNumber (by assumption)) ?_; rintro ⟨_, _, _, _, _⟩ _; try dsimp only)
    | with_reducible refine po_cond (fun _ => ?_) (fun _ => ?_)
    | with_reducible refine po_bind_cond (fun _ => ?_) (fun _ => ?_)
    | with_reducible refine po_bl (fun _ _ => ?_))
theorem fl_e_Reader_takeStepNumber {P : Nat → Nat → Nat} {F : Nat → Nat → Int32} {A : Nat → Nat → Nat → Int32} {J : Nat → Nat → Nat → Int64} {x1 : Int32}  (h : FLh d F0 A0 F A) : po (e_Reader_takeStepNumber P F A J x1) (fun r => FLh d F0 A0 r.2.2.1 r.2.2.2.1) := by
  unfold e_Reader_takeStepNumber
  repeat' (first
    | with_reducible exact po_some (by assumption)
    | (with_reducible refine fl_pf (by assumption) (by decide) ?_; intro _ _)
    | (with_reducible refine fl_st (by assumption) (by decide) ?_; intro _ _)
    | with_reducible exact fl_e_Reader_takeStepNumber_23 (by assumption)
    | (with_reducible refine po_call (fl_e_Reader_takeStepNumber_23 (by assumption)) ?_; rintro ⟨_, _, _, _, _⟩ _; try dsimp only)
    | with_reducible refine po_cond (fun _ => ?_) (fun _ => ?_)
    | with_reducible refine po_bind_cond (fun _ => ?_) (fun _ => ?_)
    | with_reducible refine po_bl (fun _ _ => ?_))
theorem fl_e_Reader_readMan {n : Nat} {P : Nat → Nat → Nat} {F : Nat → Nat → Int32} {A : Nat → Nat → Nat → Int32} {J : Nat → Nat → Nat → Int64}  (h : FLh d F0 A0 F A) : po (e_Reader_readMan n P F A J) (fun r => FLh d F0 A0 r.2.2.1 r.2.2.2.1) := by
  unfold e_Reader_readMan
  repeat' (first
    | with_reducible exact po_some (by assumption)
    | (with_reducible refine fl_pf (by assumption) (by decide) ?_; intro _ _)
    | (with_reducible refine fl_st (by assumption) (by decide) ?_; intro _ _)
    | with_reducible exact fl_e_Reader_takeFirst (by assumption)
    | (with_reducible refine po_call (fl_e_Reader_takeFirst (by assumption)) ?_; rintro ⟨_, _, _, _, _⟩ _; try dsimp only)
    | with_reducible exact fl_e_Reader_takeNewName_v3 (by assumption)
    | (with_reducible refine po_call (fl_e_Reader_takeNewName_v3 (by assumption)) ?_; rintro ⟨_, _, _, _, _⟩ _; try dsimp only)
    | with_reducible exact fl_e_Reader_takeKnownName (by assumption)
    | (with_reducible refine po_call (fl_e_Reader_takeKnownName (by assumption)) ?_; rintro ⟨_, _, _, _, _⟩ _; try dsimp only)
    | with_reducible exact fl_e_Reader_readMan_92 (by assumption)
    | (with_reducible refine po_call (fl_e_Reader_readMan_92 (by assumption)) ?_; rintro ⟨_, _, _, _, _⟩ _; try dsimp only)
    | with_reducible exact fl_e_Reader_take (by assumption)
    | (with_reducible refine po_call (fl_e_Reader_take (by assumption)) ?_; rintro ⟨_, _, _, _, _⟩ _; try dsimp only)
    | with_reducible exact fl_e_Reader_takeKnownName_v1 (by assumption)
    | (with_reducible refine po_call (fl_e_Reader_takeKnownName_v1 (by assumption)) ?_; rintro ⟨_, _, _, _, _⟩ _; try dsimp only)
    | with_reducible exact fl_e_Reader_takeStepNumber (by assumption)
    | (with_reducible refine po_call (fl_e_Reader_takeStepNumber (by assumption)) ?_; rintro ⟨_, _, _, _, _⟩ _; try dsimp only)
    | with_reducible refine po_cond (fun _ => ?_) (fun _ => ?_)
    | with_reducible refine po_bind_cond (fun _ => ?_) (fun _ => ?_)
    | with_reducible refine po_bl (fun _ _ => ?_))
theorem fl_e_Reader_readNight {P : Nat → Nat → Nat} {F : Nat → Nat → Int32} {A : Nat → Nat → Nat → Int32} {J : Nat → Nat → Nat → Int64}  (h : FLh d F0 A0 F A) : po (e_Reader_readNight P F A J) (fun r => FLh d F0 A0 r.2.2.1 r.2.2.2.1) := by
  unfold e_Reader_readNight
  repeat' (first
    | with_reducible exact po_some (by assumption)
    | (with_reducible refine fl_pf (by assumption) (by decide) ?_; intro _ _)
    | (with_reducible refine fl_st (by assumption) (by decide) ?_; intro _ _)
    | with_reducible exact fl_e_Reader_take (by assumption)
    | (with_reducible refine po_call (fl_e_Reader_take (by assumption)) ?_; rintro ⟨_, _, _, _, _⟩ _; try dsimp only)
    | with_reducible exact fl_e_Reader_takeNumber (by assumption)
    | (with_reducible refine po_call (fl_e_Reader_takeNumber (by assumption)) ?_; rintro ⟨_, _, _, _, _⟩ _; try dsimp only)
    | with_reducible refine po_cond (fun _ => ?_) (fun _ => ?_)
    | with_reducible refine po_bind_cond (fun _ => ?_) (fun _ => ?_)
    | with_reducible refine po_bl (fun _ _ => ?_))
theorem fl_e_Reader_takeNewName_101 {n : Nat} {P : Nat → Nat → Nat} {F : Nat → Nat → Int32} {A : Nat → Nat → Nat → Int32} {J : Nat → Nat → Nat → Int64} {x2 : Int32} {x3 : Int64}  (h : FLh d F0 A0 F A) : po (e_Reader_takeNewName_101 n P F A J x2 x3) (fun r => FLh d F0 A0 r.2.2.1 r.2.2.2.1) := by
  unfold e_Reader_takeNewName_101
  repeat' (first
    | with_reducible exact po_some (by assumption)
    | (with_reducible refine fl_pf (by assumption) (by decide) ?_; intro _ _)
    | (with_reducible refine fl_st (by assumption) (by decide) ?_; intro _ _)
    | with_reducible exact fl_e_Reader_failLate (by assumption)
    | (with_reducible refine po_call (fl_e_Reader_failLate (by assumption)) ?_; rintro ⟨_, _, _, _, _⟩ _; try dsimp only)
    | with_reducible refine po_cond (fun _ => ?_) (fun _ => ?_)
    | with_reducible refine po_bind_cond (fun _ => ?_) (fun _ => ?_)
    | with_reducible refine po_bl (fun _ _ => ?_))
theorem fl_e_Reader_takeNewName_106 {n : Nat} {P : Nat → Nat → Nat} {F : Nat → Nat → Int32} {A : Nat → Nat → Nat → Int32} {J : Nat → Nat → Nat → Int64} {x2 : Int32} {x3 : Int64}  (h : FLh d F0 A0 F A) : po (e_Reader_takeNewName_106 n P F A J x2 x3) (fun r => FLh d F0 A0 r.2.2.1 r.2.2.2.1) := by
  unfold e_Reader_takeNewName_106
  repeat' (first
    | with_reducible exact po_some (by assumption)
    | (with_reducible refine fl_pf (by assumption) (by decide) ?_; intro _ _)
    | (with_reducible refine fl_st (by assumption) (by decide) ?_; intro _ _)
    | with_reducible refine po_cond (fun _ => ?_) (fun _ => ?_)
    | with_reducible refine po_bind_cond (fun _ => ?_) (fun _ => ?_)
    | with_reducible refine po_bl (fun _ _ => ?_))
theorem fl_e_Reader_takeNewName {n : Nat} {P : Nat → Nat → Nat} {F : Nat → Nat → Int32} {A : Nat → Nat → Nat → Int32} {J : Nat → Nat → Nat → Int64} {x2 : Int32}  (h : FLh d F0 A0 F A) : po (e_Reader_takeNewName n P F A J x2) (fun r => FLh d F0 A0 r.2.2.1 r.2.2.2.1) := by
  unfold e_Reader_takeNewName
  repeat' (first
    | with_reducible exact po_some (by assumption)
    | (with_reducible refine fl_pf (by assumption) (by decide) ?_; intro _ _)
    | (with_reducible refine fl_st (by assumption) (by decide) ?_; intro _ _)
    | with_reducible exact fl_e_Reader_take (by assumption)
    | (with_reducible refine po_call (fl_e_Reader_take (by assumption)) ?_; rintro ⟨_, _, _, _, _⟩ _; try dsimp only)
    | with_reducible exact fl_e_Reader_takeNewName_101 (by assumption)
    | (with_reducible refine po_call (fl_e_Reader_takeNewName_101 (by assumption)) ?_; rintro ⟨_, _, _, _, _⟩ _; try dsimp only)
    | with_reducible exact fl_e_Reader_takeNewName_106 (by assumption)
    | (with_reducible refine po_call (fl_e_Reader_takeNewName_106 (by assumption)) ?_; rintro ⟨_, _, _, _, _⟩ _; try dsimp only)
    | with_reducible refine po_cond (fun _ => ?_) (fun _ => ?_)
    | with_reducible refine po_bind_cond (fun _ => ?_) (fun _ => ?_)
    | with_reducible refine po_bl (fun _ _ => ?_))
theorem fl_e_Reader_readRoom {n : Nat} {P : Nat → Nat → Nat} {F : Nat → Nat → Int32} {A : Nat → Nat → Nat → Int32} {J : Nat → Nat → Nat → Int64}  (h : FLh d F0 A0 F A) : po (e_Reader_readRoom n P F A J) (fun r => FLh d F0 A0 r.2.2.1 r.2.2.2.1) := by
  unfold e_Reader_readRoom
  repeat' (first
    | with_reducible exact po_some (by assumption)
    | (with_reducible refine fl_pf (by assumption) (by decide) ?_; intro _ _)
    | (with_reducible refine fl_st (by assumption) (by decide) ?_; intro _ _)
    | with_reducible exact fl_e_Reader_takeFirst (by assumption)
    | (with_reducible refine po_call (fl_e_Reader_takeFirst (by assumption)) ?_; rintro ⟨_, _, _, _, _⟩ _; try dsimp only)
    | with_reducible exact fl_e_Reader_takeNewName (by assumption)
    | (with_reducible refine po_call (fl_e_Reader_takeNewName (by assumption)) ?_; rintro ⟨_, _, _, _, _⟩ _; try dsimp only)
    | with_reducible exact fl_e_Reader_take (by assumption)
    | (with_reducible refine po_call (fl_e_Reader_take (by assumption)) ?_; rintro ⟨_, _, _, _, _⟩ _; try dsimp only)
    | with_reducible refine po_cond (fun _ => ?_) (fun _ => ?_)
    | with_reducible refine po_bind_cond (fun _ => ?_) (fun _ => ?_)
    | with_reducible refine po_bl (fun _ _ => ?_))
theorem fl_e_Reader_takeTaskOfStep_57 {n : Nat} {P : Nat → Nat → Nat} {F : Nat → Nat → Int32} {A : Nat → Nat → Nat → Int32} {J : Nat → Nat → Nat → Int64} {x1 : Int32} {x2 : Int32}  (h : FLh d F0 A0 F A) : po (e_Reader_takeTaskOfStep_57 n P F A J x1 x2) (fun r => FLh d F0 A0 r.2.2.1 r.2.2.2.1) := by
  unfold e_Reader_takeTaskOfStep_57
  repeat' (first
    | with_reducible exact po_some (by assumption)
    | (with_reducible refine fl_pf (by assumption) (by decide) ?_; intro _ _)
    | (with_reducible refine fl_st (by assumption) (by decide) ?_; intro _ _)
    | with_reducible exact fl_e_Reader_takeKnownName_v1 (by assumption)
    | (with_reducible refine po_call (fl_e_Reader_takeKnownName_v1 (by assumption)) ?_; rintro ⟨_, _, _, _, _⟩ _; try dsimp only)
    | with_reducible exact fl_e_Reader_fail (by assumption)
    | (with_reducible refine po_call (fl_e_Reader_fail (by assumption)) ?_; rintro ⟨_, _, _, _, _⟩ _; try dsimp only)
    | with_reducible refine po_cond (fun _ => ?_) (fun _ => ?_)
    | with_reducible refine po_bind_cond (fun _ => ?_) (fun _ => ?_)
    | with_reducible refine po_bl (fun _ _ => ?_))
theorem fl_e_Reader_takeTaskOfStep {n : Nat} {P : Nat → Nat → Nat} {F : Nat → Nat → Int32} {A : Nat → Nat → Nat → Int32} {J : Nat → Nat → Nat → Int64}  (h : FLh d F0 A0 F A) : po (e_Reader_takeTaskOfStep n P F A J) (fun r => FLh d F0 A0 r.2.2.1 r.2.2.2.1) := by
  unfold e_Reader_takeTaskOfStep
  repeat' (first
    | with_reducible exact po_some (by assumption)
    | (with_reducible refine fl_pf (by assumption) (by decide) ?_; intro _ _)
    | (with_reducible refine fl_st (by assumption) (by decide) ?_; intro _ _)
    | with_reducible exact fl_e_Reader_take (by assumption)
    | (with_reducible refine po_call (fl_e_Reader_take (by assumption)) ?_; rintro ⟨_, _, _, _, _⟩ _; try dsimp only)
    | with_reducible exact fl_e_Reader_takeTaskOfStep_57 (by assumption)
    | (with_reducible refine po_call (fl_e_Reader_takeTaskOfStep_57 (by assumption)) ?_; rintro ⟨_, _, _, _, _⟩ _; try dsimp only)
    | with_reducible refine po_cond (fun _ => ?_) (fun _ => ?_)
    | with_reducible refine po_bind_cond (fun _ => ?_) (fun _ => ?_)
    | with_reducible refine po_bl (fun _ _ => ?_))
theorem fl_e_Reader_readStep_107 {n : Nat} {P : Nat → Nat → Nat} {F : Nat → Nat → Int32} {A : Nat → Nat → Nat → Int32} {J : Nat → Nat → Nat → Int64} {x1 : Int32} {x2 : Int32} {x3 : Int32} {x4 : Int32} {x5 : Int32} {x6 : Int32} {x7 : Int32}  (h : FLh d F0 A0 F A) : po (e_Reader_readStep_107 n P F A J x1 x2 x3 x4 x5 x6 x7) (fun r => FLh d F0 A0 r.2.2.1 r.2.2.2.1) := by
  unfold e_Reader_readStep_107
  repeat' (first
    | with_reducible exact po_some (by assumption)
    | (with_reducible refine fl_pf (by assumption) (by decide) ?_; intro _ _)
    | (with_reducible refine fl_st (by assumption) (by decide) ?_; intro _ _)
    | with_reducible exact fl_e_Reader_take (by assumption)
    | (with_reducible refine po_call (fl_e_Reader_take (by assumption)) ?_; rintro ⟨_, _, _, _, _⟩ _; try dsimp only)
    | with_reducible refine po_cond (fun _ => ?_) (fun _ => ?_)
    | with_reducible refine po_bind_cond (fun _ => ?_) (fun _ => ?_)
    | with_reducible refine po_bl (fun _ _ => ?_))
theorem fl_e_Reader_readStep_78 {n : Nat} {P : Nat → Nat → Nat} {F : Nat → Nat → Int32} {A : Nat → Nat → Nat → Int32} {J : Nat → Nat → Nat → Int64} {x1 : Int32} {x2 : Int32} {x3 : Int32} {x4 : Int32} {x5 : Int32} {x6 : Int32}  (h : FLh d F0 A0 F A) : po (e_Reader_readStep_78 n P F A J x1 x2 x3 x4 x5 x6) (fun r => FLh d F0 A0 r.2.2.1 r.2.2.2.1) := by
  unfold e_Reader_readStep_78
  repeat' (first
    | with_reducible exact po_some (by assumption)
    | (with_reducible refine fl_pf (by assumption) (by decide) ?_; intro _ _)
    | (with_reducible refine fl_st (by assumption) (by decide) ?_; intro _ _)
    | with_reducible exact fl_e_Reader_readStep_107 (by assumption)
    | (with_reducible refine po_call (fl_e_Reader_readStep_107 (by assumption)) ?_; rintro ⟨_, _, _, _, _⟩ _; try dsimp only)
    | with_reducible exact fl_e_Reader_take (by assumption)
    | (with_reducible refine po_call (fl_e_Reader_take (by assumption)) ?_; rintro ⟨_, _, _, _, _⟩ _; try dsimp only)
    | with_reducible exact fl_e_Reader_takeStepNumber (by assumption)
    | (with_reducible refine po_call (fl_e_Reader_takeStepNumber (by assumption)) ?_; rintro ⟨_, _, _, _, _⟩ _; try dsimp only)
    | with_reducible refine po_cond (fun _ => ?_) (fun _ => ?_)
    | with_reducible refine po_bind_cond (fun _ => ?_) (fun _ => ?_)
    | with_reducible refine po_bl (fun _ _ => ?_))
theorem fl_e_Reader_takeKnownName_v2 {n : Nat} {P : Nat → Nat → Nat} {F : Nat → Nat → Int32} {A : Nat → Nat → Nat → Int32} {J : Nat → Nat → Nat → Int64} {x2 : Int32}  (h : FLh d F0 A0 F A) : po (e_Reader_takeKnownName_v2 n P F A J x2) (fun r => FLh d F0 A0 r.2.2.1 r.2.2.2.1) := by
  unfold e_Reader_takeKnownName_v2
  repeat' (first
    | with_reducible exact po_some (by assumption)
    | (with_reducible refine fl_pf (by assumption) (by decide) ?_; intro _ _)
    | (with_reducible refine fl_st (by assumption) (by decide) ?_; intro _ _)
    | with_reducible exact fl_e_Reader_take (by assumption)
    | (with_reducible refine po_call (fl_e_Reader_take (by assumption)) ?_; rintro ⟨_, _, _, _, _⟩ _; try dsimp only)
    | with_reducible exact fl_e_Reader_failLate (by assumption)
    | (with_reducible refine po_call (fl_e_Reader_failLate (by assumption)) ?_; rintro ⟨_, _, _, _, _⟩ _; try dsimp only)
    | with_reducible refine po_cond (fun _ => ?_) (fun _ => ?_)
    | with_reducible refine po_bind_cond (fun _ => ?_) (fun _ => ?_)
    | with_reducible refine po_bl (fun _ _ => ?_))
theorem fl_e_Reader_readStep {n : Nat} {P : Nat → Nat → Nat} {F : Nat → Nat → Int32} {A : Nat → Nat → Nat → Int32} {J : Nat → Nat → Nat → Int64}  (h : FLh d F0 A0 F A) : po (e_Reader_readStep n P F A J) (fun r => FLh d F0 A0 r.2.2.1 r.2.2.2.1) := by
  unfold e_Reader_readStep
  repeat' (first
    | with_reducible exact po_some (by assumption)
    | (with_reducible refine fl_pf (by assumption) (by decide) ?_; intro _ _)
    | (with_reducible refine fl_st (by assumption) (by decide) ?_; intro _ _)
    | with_reducible exact fl_e_Reader_takeTaskOfStep (by assumption)
    | (with_reducible refine po_call (fl_e_Reader_takeTaskOfStep (by assumption)) ?_; rintro ⟨_, _, _, _, _⟩ _; try dsimp only)
    | with_reducible exact fl_e_Reader_takeNumber (by assumption)
    | (with_reducible refine po_call (fl_e_Reader_takeNumber (by assumption)) ?_; rintro ⟨_, _, _, _, _⟩ _; try dsimp only)
    | with_reducible exact fl_e_Reader_readStep_78 (by assumption)
    | (with_reducible refine po_call (fl_e_Reader_readStep_78 (by assumption)) ?_; rintro ⟨_, _, _, _, _⟩ _; try dsimp only)
    | with_reducible exact fl_e_Reader_take (by assumption)
    | (with_reducible refine po_call (fl_e_Reader_take (by assumption)) ?_; rintro ⟨_, _, _, _, _⟩ _; try dsimp only)
    | with_reducible exact fl_e_Reader_takeKnownName_v2 (by assumption)
    | (with_reducible refine po_call (fl_e_Reader_takeKnownName_v2 (by assumption)) ?_; rintro ⟨_, _, _, _, _⟩ _; try dsimp only)
    | with_reducible refine po_cond (fun _ => ?_) (fun _ => ?_)
    | with_reducible refine po_bind_cond (fun _ => ?_) (fun _ => ?_)
    | with_reducible refine po_bl (fun _ _ => ?_))
theorem fl_e_Reader_takeNewName_v2_101 {n : Nat} {P : Nat → Nat → Nat} {F : Nat → Nat → Int32} {A : Nat → Nat → Nat → Int32} {J : Nat → Nat → Nat → Int64} {x2 : Int32} {x3 : Int64}  (h : FLh d F0 A0 F A) : po (e_Reader_takeNewName_v2_101 n P F A J x2 x3) (fun r => FLh d F0 A0 r.2.2.1 r.2.2.2.1) := by
  unfold e_Reader_takeNewName_v2_101
  repeat' (first
    | with_reducible exact po_some (by assumption)
    | (with_reducible refine fl_pf (by assumption) (by decide) ?_; intro _ _)
    | (with_reducible refine fl_st (by assumption) (by decide) ?_; intro _ _)
    | with_reducible exact fl_e_Reader_failLate (by assumption)
    | (with_reducible refine po_call (fl_e_Reader_failLate (by assumption)) ?_; rintro ⟨_, _, _, _, _⟩ _; try dsimp only)
    | with_reducible refine po_cond (fun _ => ?_) (fun _ => ?_)
    | with_reducible refine po_bind_cond (fun _ => ?_) (fun _ => ?_)
    | with_reducible refine po_bl (fun _ _ => ?_))
theorem fl_e_Reader_takeNewName_v2_106 {n : Nat} {P : Nat → Nat → Nat} {F : Nat → Nat → Int32} {A : Nat → Nat → Nat → Int32} {J : Nat → Nat → Nat → Int64} {x2 : Int32} {x3 : Int64}  (h : FLh d F0 A0 F A) : po (e_Reader_takeNewName_v2_106 n P F A J x2 x3) (fun r => FLh d F0 A0 r.2.2.1 r.2.2.2.1) := by
  unfold e_Reader_takeNewName_v2_106
  repeat' (first
    | with_reducible exact po_some (by assumption)
    | (with_reducible refine fl_pf (by assumption) (by decide) ?_; intro _ _)
    | (with_reducible refine fl_st (by assumption) (by decide) ?_; intro _ _)
    | with_reducible refine po_cond (fun _ => ?_) (fun _ => ?_)
    | with_reducible refine po_bind_cond (fun _ => ?_) (fun _ => ?_)
    | with_reducible refine po_bl (fun _ _ => ?_))
theorem fl_e_Reader_takeNewName_v2 {n : Nat} {P : Nat → Nat → Nat} {F : Nat → Nat → Int32} {A : Nat → Nat → Nat → Int32} {J : Nat → Nat → Nat → Int64} {x2 : Int32}  (h : FLh d F0 A0 F A) : po (e_Reader_takeNewName_v2 n P F A J x2) (fun r => FLh d F0 A0 r.2.2.1 r.2.2.2.1) := by
  unfold e_Reader_takeNewName_v2
  repeat' (first
    | with_reducible exact po_some (by assumption)
    | (with_reducible refine fl_pf (by assumption) (by decide) ?_; intro _ _)
    | (with_reducible refine fl_st (by assumption) (by decide) ?_; intro _ _)
    | with_reducible exact fl_e_Reader_take (by assumption)
    | (with_reducible refine po_call (fl_e_Reader_take (by assumption)) ?_; rintro ⟨_, _, _, _, _⟩ _; try dsimp only)
    | with_reducible exact fl_e_Reader_takeNewName_v2_101 (by assumption)
    | (with_reducible refine po_call (fl_e_Reader_takeNewName_v2_101 (by assumption)) ?_; rintro ⟨_, _, _, _, _⟩ _; try dsimp only)
    | with_reducible exact fl_e_Reader_takeNewName_v2_106 (by assumption)
    | (with_reducible refine po_call (fl_e_Reader_takeNewName_v2_106 (by assumption)) ?_; rintro ⟨_, _, _, _, _⟩ _; try dsimp only)
    | with_reducible refine po_cond (fun _ => ?_) (fun _ => ?_)
    | with_reducible refine po_bind_cond (fun _ => ?_) (fun _ => ?_)
    | with_reducible refine po_bl (fun _ _ => ?_))
theorem fl_e_Reader_readTask {n : Nat} {P : Nat → Nat → Nat} {F : Nat → Nat → Int32} {A : Nat → Nat → Nat → Int32} {J : Nat → Nat → Nat → Int64}  (h : FLh d F0 A0 F A) : po (e_Reader_readTask n P F A J) (fun r => FLh d F0 A0 r.2.2.1 r.2.2.2.1) := by
  unfold e_Reader_readTask
  repeat' (first
    | with_reducible exact po_some (by assumption)
    | (with_reducible refine fl_pf (by assumption) (by decide) ?_; intro _ _)
    | (with_reducible refine fl_st (by assumption) (by decide) ?_; intro _ _)
    | with_reducible exact fl_e_Reader_takeFirst (by assumption)
    | (with_reducible refine po_call (fl_e_Reader_takeFirst (by assumption)) ?_; rintro ⟨_, _, _, _, _⟩ _; try dsimp only)
    | with_reducible exact fl_e_Reader_takeNewName_v2 (by assumption)
    | (with_reducible refine po_call (fl_e_Reader_takeNewName_v2 (by assumption)) ?_; rintro ⟨_, _, _, _, _⟩ _; try dsimp only)
    | with_reducible exact fl_e_Reader_takeKnownName (by assumption)
    | (with_reducible refine po_call (fl_e_Reader_takeKnownName (by assumption)) ?_; rintro ⟨_, _, _, _, _⟩ _; try dsimp only)
    | with_reducible exact fl_e_Reader_takeNumber (by assumption)
    | (with_reducible refine po_call (fl_e_Reader_takeNumber (by assumption)) ?_; rintro ⟨_, _, _, _, _⟩ _; try dsimp only)
    | with_reducible exact fl_e_Reader_take (by assumption)
    | (with_reducible refine po_call (fl_e_Reader_take (by assumption)) ?_; rintro ⟨_, _, _, _, _⟩ _; try dsimp only)
    | with_reducible refine po_cond (fun _ => ?_) (fun _ => ?_)
    | with_reducible refine po_bind_cond (fun _ => ?_) (fun _ => ?_)
    | with_reducible refine po_bl (fun _ _ => ?_))
theorem fl_e_Reader_takeNewName_v1_101 {n : Nat} {P : Nat → Nat → Nat} {F : Nat → Nat → Int32} {A : Nat → Nat → Nat → Int32} {J : Nat → Nat → Nat → Int64} {x2 : Int32} {x3 : Int64}  (h : FLh d F0 A0 F A) : po (e_Reader_takeNewName_v1_101 n P F A J x2 x3) (fun r => FLh d F0 A0 r.2.2.1 r.2.2.2.1) := by
  unfold e_Reader_takeNewName_v1_101
  repeat' (first
    | with_reducible exact po_some (by assumption)
    | (with_reducible refine fl_pf (by assumption) (by decide) ?_; intro _ _)
    | (with_reducible refine fl_st (by assumption) (by decide) ?_; intro _ _)
    | with_reducible exact fl_e_Reader_failLate (by assumption)
    | (with_reducible refine po_call (fl_e_Reader_failLate (by assumption)) ?_; rintro ⟨_, _, _, _, _⟩ _; try dsimp only)
    | with_reducible refine po_cond (fun _ => ?_) (fun _ => ?_)
    | with_reducible refine po_bind_cond (fun _ => ?_) (fun _ => ?_)
    | with_reducible refine po_bl (fun _ _ => ?_))
theorem fl_e_Reader_takeNewName_v1_106 {n : Nat} {P : Nat → Nat → Nat} {F : Nat → Nat → Int32} {A : Nat → Nat → Nat → Int32} {J : Nat → Nat → Nat → Int64} {x2 : Int32} {x3 : Int64}  (h : FLh d F0 A0 F A) : po (e_Reader_takeNewName_v1_106 n P F A J x2 x3) (fun r => FLh d F0 A0 r.2.2.1 r.2.2.2.1) := by
  unfold e_Reader_takeNewName_v1_106
  repeat' (first
    | with_reducible exact po_some (by assumption)
    | (with_reducible refine fl_pf (by assumption) (by decide) ?_; intro _ _)
    | (with_reducible refine fl_st (by assumption) (by decide) ?_; intro _ _)
    | with_reducible refine po_cond (fun _ => ?_) (fun _ => ?_)
    | with_reducible refine po_bind_cond (fun _ => ?_) (fun _ => ?_)
    | with_reducible refine po_bl (fun _ _ => ?_))
theorem fl_e_Reader_takeNewName_v1 {n : Nat} {P : Nat → Nat → Nat} {F : Nat → Nat → Int32} {A : Nat → Nat → Nat → Int32} {J : Nat → Nat → Nat → Int64} {x2 : Int32}  (h : FLh d F0 A0 F A) : po (e_Reader_takeNewName_v1 n P F A J x2) (fun r => FLh d F0 A0 r.2.2.1 r.2.2.2.1) := by
  unfold e_Reader_takeNewName_v1
  repeat' (first
    | with_reducible exact po_some (by assumption)
    | (with_reducible refine fl_pf (by assumption) (by decide) ?_; intro _ _)
    | (with_reducible refine fl_st (by assumption) (by decide) ?_; intro _ _)
    | with_reducible exact fl_e_Reader_take (by assumption)
    | (with_reducible refine po_call (fl_e_Reader_take (by assumption)) ?_; rintro ⟨_, _, _, _, _⟩ _; try dsimp only)
    | with_reducible exact fl_e_Reader_takeNewName_v1_101 (by assumption)
    | (with_reducible refine po_call (fl_e_Reader_takeNewName_v1_101 (by assumption)) ?_; rintro ⟨_, _, _, _, _⟩ _; try dsimp only)
    | with_reducible exact fl_e_Reader_takeNewName_v1_106 (by assumption)
    | (with_reducible refine po_call (fl_e_Reader_takeNewName_v1_106 (by assumption)) ?_; rintro ⟨_, _, _, _, _⟩ _; try dsimp only)
    | with_reducible refine po_cond (fun _ => ?_) (fun _ => ?_)
    | with_reducible refine po_bind_cond (fun _ => ?_) (fun _ => ?_)
    | with_reducible refine po_bl (fun _ _ => ?_))
theorem fl_e_Reader_readTool {n : Nat} {P : Nat → Nat → Nat} {F : Nat → Nat → Int32} {A : Nat → Nat → Nat → Int32} {J : Nat → Nat → Nat → Int64}  (h : FLh d F0 A0 F A) : po (e_Reader_readTool n P F A J) (fun r => FLh d F0 A0 r.2.2.1 r.2.2.2.1) := by
  unfold e_Reader_readTool
  repeat' (first
    | with_reducible exact po_some (by assumption)
    | (with_reducible refine fl_pf (by assumption) (by decide) ?_; intro _ _)
    | (with_reducible refine fl_st (by assumption) (by decide) ?_; intro _ _)
    | with_reducible exact fl_e_Reader_takeFirst (by assumption)
    | (with_reducible refine po_call (fl_e_Reader_takeFirst (by assumption)) ?_; rintro ⟨_, _, _, _, _⟩ _; try dsimp only)
    | with_reducible exact fl_e_Reader_takeNewName_v1 (by assumption)
    | (with_reducible refine po_call (fl_e_Reader_takeNewName_v1 (by assumption)) ?_; rintro ⟨_, _, _, _, _⟩ _; try dsimp only)
    | with_reducible exact fl_e_Reader_takeKnownName (by assumption)
    | (with_reducible refine po_call (fl_e_Reader_takeKnownName (by assumption)) ?_; rintro ⟨_, _, _, _, _⟩ _; try dsimp only)
    | with_reducible exact fl_e_Reader_take (by assumption)
    | (with_reducible refine po_call (fl_e_Reader_take (by assumption)) ?_; rintro ⟨_, _, _, _, _⟩ _; try dsimp only)
    | with_reducible refine po_cond (fun _ => ?_) (fun _ => ?_)
    | with_reducible refine po_bind_cond (fun _ => ?_) (fun _ => ?_)
    | with_reducible refine po_bl (fun _ _ => ?_))
theorem fm_d_fail {F : Nat → Int32} {A : Nat → Nat → Int32} {J : Nat → Nat → Int64} {x1 : Int32}  (h : FMh Fr Ar F A) : po (d_fail F A J x1) (fun r => FMh Fr Ar r.2.1 r.2.2.1) := by
  unfold d_fail
  repeat' (first
    | with_reducible exact po_some (by assumption)
    | (with_reducible refine fm_pf (by assumption) (by decide) ?_; intro _ _)
    | (with_reducible refine fm_st (by assumption) (by decide) ?_; intro _ _)
    | with_reducible refine po_cond (fun _ => ?_) (fun _ => ?_)
    | with_reducible refine po_bind_cond (fun _ => ?_) (fun _ => ?_)
    | with_reducible refine po_bl (fun _ _ => ?_))
theorem fm_d_goesOn {F : Nat → Int32} {A : Nat → Nat → Int32} {J : Nat → Nat → Int64}  (h : FMh Fr Ar F A) : po (d_goesOn F A J) (fun r => FMh Fr Ar r.2.1 r.2.2.1) := by
  unfold d_goesOn
  repeat' (first
    | with_reducible exact po_some (by assumption)
    | (with_reducible refine fm_pf (by assumption) (by decide) ?_; intro _ _)
    | (with_reducible refine fm_st (by assumption) (by decide) ?_; intro _ _)
    | with_reducible exact fm_d_fail (by assumption)
    | (with_reducible refine po_call (fm_d_fail (by assumption)) ?_; rintro ⟨_, _, _, _⟩ _; try dsimp only)
    | with_reducible refine po_cond (fun _ => ?_) (fun _ => ?_)
    | with_reducible refine po_bind_cond (fun _ => ?_) (fun _ => ?_)
    | with_reducible refine po_bl (fun _ _ => ?_))
theorem fm_d_must {F : Nat → Int32} {A : Nat → Nat → Int32} {J : Nat → Nat → Int64} {x1 : Int32}  (h : FMh Fr Ar F A) : po (d_must F A J x1) (fun r => FMh Fr Ar r.2.1 r.2.2.1) := by
  unfold d_must
  repeat' (first
    | with_reducible exact po_some (by assumption)
    | (with_reducible refine fm_pf (by assumption) (by decide) ?_; intro _ _)
    | (with_reducible refine fm_st (by assumption) (by decide) ?_; intro _ _)
    | with_reducible exact fm_d_fail (by assumption)
    | (with_reducible refine po_call (fm_d_fail (by assumption)) ?_; rintro ⟨_, _, _, _⟩ _; try dsimp only)
    | with_reducible exact fm_d_goesOn (by assumption)
    | (with_reducible refine po_call (fm_d_goesOn (by assumption)) ?_; rintro ⟨_, _, _, _⟩ _; try dsimp only)
    | with_reducible refine po_cond (fun _ => ?_) (fun _ => ?_)
    | with_reducible refine po_bind_cond (fun _ => ?_) (fun _ => ?_)
    | with_reducible refine po_bl (fun _ _ => ?_))
theorem fm_d_named_49 {K12 : (Nat → Int32) → (Nat → Nat → Int32) → (Nat → Nat → Int64) → Int32 → Int32 → Option (Int32 × (Nat → Int32) × (Nat → Nat → Int32) × (Nat → Nat → Int64))} {n : Nat} {F : Nat → Int32} {A : Nat → Nat → Int32} {J : Nat → Nat → Int64} {x1 : Int32} {x2 : Int32} (hK12 : ∀ (a0 : Nat → Int32) (a1 : Nat → Nat → Int32) (a2 : Nat → Nat → Int64) (a3 : Int32) (a4 : Int32), FMh Fr Ar a0 a1 → po (K12 a0 a1 a2 a3 a4) (fun r => FMh Fr Ar r.2.1 r.2.2.1)) (h : FMh Fr Ar F A) : po (d_named_49 K12 n F A J x1 x2) (fun r => FMh Fr Ar r.2.1 r.2.2.1) := by
  unfold d_named_49
  repeat' (first
    | with_reducible exact po_some (by assumption)
    | (with_reducible refine fm_pf (by assumption) (by decide) ?_; intro _ _)
    | (with_reducible refine fm_st (by assumption) (by decide) ?_; intro _ _)
    | with_reducible exact hK12 _ _ _ _ _ (by assumption)
    | (intros; with_reducible exact hK12 _ _ _ _ _ (by assumption))
    | with_reducible refine po_cond (fun _ => ?_) (fun _ => ?_)
    | with_reducible refine po_bind_cond (fun _ => ?_) (fun _ => ?_)
    | with_reducible refine po_bl (fun _ _ => ?_))
theorem fm_d_wrong_46 {F : Nat → Int32} {A : Nat → Nat → Int32} {J : Nat → Nat → Int64} {x1 : Int32} {x3 : Int32}  (h : FMh Fr Ar F A) : po (d_wrong_46 F A J x1 x3) (fun r => FMh Fr Ar r.2.1 r.2.2.1) := by
  unfold d_wrong_46
  repeat' (first
    | with_reducible exact po_some (by assumption)
    | (with_reducible refine fm_pf (by assumption) (by decide) ?_; intro _ _)
    | (with_reducible refine fm_st (by assumption) (by decide) ?_; intro _ _)
    | with_reducible refine po_cond (fun _ => ?_) (fun _ => ?_)
    | with_reducible refine po_bind_cond (fun _ => ?_) (fun _ => ?_)
    | with_reducible refine po_bl (fun _ _ => ?_))
theorem fm_d_wrong {F : Nat → Int32} {A : Nat → Nat → Int32} {J : Nat → Nat → Int64} {x1 : Int32} {x2 : Int32}  (h : FMh Fr Ar F A) : po (d_wrong F A J x1 x2) (fun r => FMh Fr Ar r.2.1 r.2.2.1) := by
  unfold d_wrong
  repeat' (first
    | with_reducible exact po_some (by assumption)
    | (with_reducible refine fm_pf (by assumption) (by decide) ?_; intro _ _)
    | (with_reducible refine fm_st (by assumption) (by decide) ?_; intro _ _)
    | with_reducible exact fm_d_wrong_46 (by assumption)
    | (with_reducible refine po_call (fm_d_wrong_46 (by assumption)) ?_; rintro ⟨_, _, _, _⟩ _; try dsimp only)
    | with_reducible refine po_cond (fun _ => ?_) (fun _ => ?_)
    | with_reducible refine po_bind_cond (fun _ => ?_) (fun _ => ?_)
    | with_reducible refine po_bl (fun _ _ => ?_))
theorem fm_d_named_12   : ∀ {n : Nat} {F : Nat → Int32} {A : Nat → Nat → Int32} {J : Nat → Nat → Int64} {x1 : Int32} {x2 : Int32}, FMh Fr Ar F A → po (d_named_12  n F A J x1 x2) (fun r => FMh Fr Ar r.2.1 r.2.2.1) := by
  intro n
  induction n with
  | zero => intro F A J x1 x2 _ r hr; cases hr
  | succ n ih =>
    intro F A J x1 x2 h
    unfold d_named_12
    repeat' (first
      | with_reducible exact po_some (by assumption)
      | (with_reducible refine fm_pf (by assumption) (by decide) ?_; intro _ _)
      | (with_reducible refine fm_st (by assumption) (by decide) ?_; intro _ _)
      | with_reducible refine fm_d_named_49 ?_ (by assumption)
      | (with_reducible refine po_call (fm_d_named_49 ?_ (by assumption)) ?_)
      | with_reducible exact fm_d_wrong (by assumption)
      | (with_reducible refine po_call (fm_d_wrong (by assumption)) ?_; rintro ⟨_, _, _, _⟩ _; try dsimp only)
      | with_reducible exact ih (by assumption)
      | (with_reducible refine po_call (ih (by assumption)) ?_; rintro ⟨_, _, _, _⟩ _; try dsimp only)
      | (intros; with_reducible exact ih (by assumption))
      | with_reducible refine po_cond (fun _ => ?_) (fun _ => ?_)
      | with_reducible refine po_bind_cond (fun _ => ?_) (fun _ => ?_)
      | with_reducible refine po_bl (fun _ _ => ?_))
theorem fm_d_named {n : Nat} {F : Nat → Int32} {A : Nat → Nat → Int32} {J : Nat → Nat → Int64}  (h : FMh Fr Ar F A) : po (d_named n F A J) (fun r => FMh Fr Ar r.2.1 r.2.2.1) := by
  unfold d_named
  repeat' (first
    | with_reducible exact po_some (by assumption)
    | (with_reducible refine fm_pf (by assumption) (by decide) ?_; intro _ _)
    | (with_reducible refine fm_st (by assumption) (by decide) ?_; intro _ _)
    | with_reducible exact fm_d_must (by assumption)
    | (with_reducible refine po_call (fm_d_must (by assumption)) ?_; rintro ⟨_, _, _, _⟩ _; try dsimp only)
    | with_reducible exact fm_d_named_12 (by assumption)
    | (with_reducible refine po_call (fm_d_named_12 (by assumption)) ?_; rintro ⟨_, _, _, _⟩ _; try dsimp only)
    | with_reducible refine po_cond (fun _ => ?_) (fun _ => ?_)
    | with_reducible refine po_bind_cond (fun _ => ?_) (fun _ => ?_)
    | with_reducible refine po_bl (fun _ _ => ?_))
theorem fm_d_notes {F : Nat → Int32} {A : Nat → Nat → Int32} {J : Nat → Nat → Int64} {x1 : Int32} {x2 : Int32} {x3 : Int32}  (h : FMh Fr Ar F A) : po (d_notes F A J x1 x2 x3) (fun r => FMh Fr Ar r.2.1 r.2.2.1) := by
  unfold d_notes
  repeat' (first
    | with_reducible exact po_some (by assumption)
    | (with_reducible refine fm_pf (by assumption) (by decide) ?_; intro _ _)
    | (with_reducible refine fm_st (by assumption) (by decide) ?_; intro _ _)
    | with_reducible refine po_cond (fun _ => ?_) (fun _ => ?_)
    | with_reducible refine po_bind_cond (fun _ => ?_) (fun _ => ?_)
    | with_reducible refine po_bl (fun _ _ => ?_))
theorem fm_d_tellRoom {n : Nat} {F : Nat → Int32} {A : Nat → Nat → Int32} {J : Nat → Nat → Int64}  (h : FMh Fr Ar F A) : po (d_tellRoom n F A J) (fun r => FMh Fr Ar r.2.1 r.2.2.1) := by
  unfold d_tellRoom
  repeat' (first
    | with_reducible exact po_some (by assumption)
    | (with_reducible refine fm_pf (by assumption) (by decide) ?_; intro _ _)
    | (with_reducible refine fm_st (by assumption) (by decide) ?_; intro _ _)
    | with_reducible exact fm_d_named (by assumption)
    | (with_reducible refine po_call (fm_d_named (by assumption)) ?_; rintro ⟨_, _, _, _⟩ _; try dsimp only)
    | with_reducible exact fm_d_must (by assumption)
    | (with_reducible refine po_call (fm_d_must (by assumption)) ?_; rintro ⟨_, _, _, _⟩ _; try dsimp only)
    | with_reducible exact fm_d_notes (by assumption)
    | (with_reducible refine po_call (fm_d_notes (by assumption)) ?_; rintro ⟨_, _, _, _⟩ _; try dsimp only)
    | with_reducible refine po_cond (fun _ => ?_) (fun _ => ?_)
    | with_reducible refine po_bind_cond (fun _ => ?_) (fun _ => ?_)
    | with_reducible refine po_bl (fun _ _ => ?_))
theorem fm_d_known_62 {K21 : (Nat → Int32) → (Nat → Nat → Int32) → (Nat → Nat → Int64) → Int32 → Int32 → Int32 → Option (Int32 × (Nat → Int32) × (Nat → Nat → Int32) × (Nat → Nat → Int64))} {n : Nat} {F : Nat → Int32} {A : Nat → Nat → Int32} {J : Nat → Nat → Int64} {x1 : Int32} {x2 : Int32} {x3 : Int32} (hK21 : ∀ (a0 : Nat → Int32) (a1 : Nat → Nat → Int32) (a2 : Nat → Nat → Int64) (a3 : Int32) (a4 : Int32) (a5 : Int32), FMh Fr Ar a0 a1 → po (K21 a0 a1 a2 a3 a4 a5) (fun r => FMh Fr Ar r.2.1 r.2.2.1)) (h : FMh Fr Ar F A) : po (d_known_62 K21 n F A J x1 x2 x3) (fun r => FMh Fr Ar r.2.1 r.2.2.1) := by
  unfold d_known_62
  repeat' (first
    | with_reducible exact po_some (by assumption)
    | (with_reducible refine fm_pf (by assumption) (by decide) ?_; intro _ _)
    | (with_reducible refine fm_st (by assumption) (by decide) ?_; intro _ _)
    | with_reducible exact hK21 _ _ _ _ _ _ (by assumption)
    | (intros; with_reducible exact hK21 _ _ _ _ _ _ (by assumption))
    | with_reducible refine po_cond (fun _ => ?_) (fun _ => ?_)
    | with_reducible refine po_bind_cond (fun _ => ?_) (fun _ => ?_)
    | with_reducible refine po_bl (fun _ _ => ?_))
theorem fm_d_known_21   : ∀ {n : Nat} {F : Nat → Int32} {A : Nat → Nat → Int32} {J : Nat → Nat → Int64} {x1 : Int32} {x2 : Int32} {x3 : Int32}, FMh Fr Ar F A → po (d_known_21  n F A J x1 x2 x3) (fun r => FMh Fr Ar r.2.1 r.2.2.1) := by
  intro n
  induction n with
  | zero => intro F A J x1 x2 x3 _ r hr; cases hr
  | succ n ih =>
    intro F A J x1 x2 x3 h
    unfold d_known_21
    repeat' (first
      | with_reducible exact po_some (by assumption)
      | (with_reducible refine fm_pf (by assumption) (by decide) ?_; intro _ _)
      | (with_reducible refine fm_st (by assumption) (by decide) ?_; intro _ _)
      | with_reducible exact fm_d_wrong (by assumption)
      | (with_reducible refine po_call (fm_d_wrong (by assumption)) ?_; rintro ⟨_, _, _, _⟩ _; try dsimp only)
      | with_reducible refine fm_d_known_62 ?_ (by assumption)
      | (with_reducible refine po_call (fm_d_known_62 ?_ (by assumption)) ?_)
      | with_reducible exact ih (by assumption)
      | (with_reducible refine po_call (ih (by assumption)) ?_; rintro ⟨_, _, _, _⟩ _; try dsimp only)
      | (intros; with_reducible exact ih (by assumption))
      | with_reducible refine po_cond (fun _ => ?_) (fun _ => ?_)
      | with_reducible refine po_bind_cond (fun _ => ?_) (fun _ => ?_)
      | with_reducible refine po_bl (fun _ _ => ?_))
theorem fm_d_known {n : Nat} {F : Nat → Int32} {A : Nat → Nat → Int32} {J : Nat → Nat → Int64} {x1 : Int32}  (h : FMh Fr Ar F A) : po (d_known n F A J x1) (fun r => FMh Fr Ar r.2.1 r.2.2.1) := by
  unfold d_known
  repeat' (first
    | with_reducible exact po_some (by assumption)
    | (with_reducible refine fm_pf (by assumption) (by decide) ?_; intro _ _)
    | (with_reducible refine fm_st (by assumption) (by decide) ?_; intro _ _)
    | with_reducible exact fm_d_must (by assumption)
    | (with_reducible refine po_call (fm_d_must (by assumption)) ?_; rintro ⟨_, _, _, _⟩ _; try dsimp only)
    | with_reducible exact fm_d_known_21 (by assumption)
    | (with_reducible refine po_call (fm_d_known_21 (by assumption)) ?_; rintro ⟨_, _, _, _⟩ _; try dsimp only)
    | with_reducible refine po_cond (fun _ => ?_) (fun _ => ?_)
    | with_reducible refine po_bind_cond (fun _ => ?_) (fun _ => ?_)
    | with_reducible refine po_bl (fun _ _ => ?_))
theorem fm_d_bounded_15 {F : Nat → Int32} {A : Nat → Nat → Int32} {J : Nat → Nat → Int64} {x1 : Int32}  (h : FMh Fr Ar F A) : po (d_bounded_15 F A J x1) (fun r => FMh Fr Ar r.2.1 r.2.2.1) := by
  unfold d_bounded_15
  repeat' (first
    | with_reducible exact po_some (by assumption)
    | (with_reducible refine fm_pf (by assumption) (by decide) ?_; intro _ _)
    | (with_reducible refine fm_st (by assumption) (by decide) ?_; intro _ _)
    | with_reducible exact fm_d_fail (by assumption)
    | (with_reducible refine po_call (fm_d_fail (by assumption)) ?_; rintro ⟨_, _, _, _⟩ _; try dsimp only)
    | with_reducible refine po_cond (fun _ => ?_) (fun _ => ?_)
    | with_reducible refine po_bind_cond (fun _ => ?_) (fun _ => ?_)
    | with_reducible refine po_bl (fun _ _ => ?_))
theorem fm_d_bounded_42 {F : Nat → Int32} {A : Nat → Nat → Int32} {J : Nat → Nat → Int64} {x3 : Int32}  (h : FMh Fr Ar F A) : po (d_bounded_42 F A J x3) (fun r => FMh Fr Ar r.2.1 r.2.2.1) := by
  unfold d_bounded_42
  repeat' (first
    | with_reducible exact po_some (by assumption)
    | (with_reducible refine fm_pf (by assumption) (by decide) ?_; intro _ _)
    | (with_reducible refine fm_st (by assumption) (by decide) ?_; intro _ _)
    | with_reducible exact fm_d_wrong (by assumption)
    | (with_reducible refine po_call (fm_d_wrong (by assumption)) ?_; rintro ⟨_, _, _, _⟩ _; try dsimp only)
    | with_reducible exact fm_d_goesOn (by assumption)
    | (with_reducible refine po_call (fm_d_goesOn (by assumption)) ?_; rintro ⟨_, _, _, _⟩ _; try dsimp only)
    | with_reducible refine po_cond (fun _ => ?_) (fun _ => ?_)
    | with_reducible refine po_bind_cond (fun _ => ?_) (fun _ => ?_)
    | with_reducible refine po_bl (fun _ _ => ?_))
theorem fm_d_bounded_51 {F : Nat → Int32} {A : Nat → Nat → Int32} {J : Nat → Nat → Int64} {x3 : Int32}  (h : FMh Fr Ar F A) : po (d_bounded_51 F A J x3) (fun r => FMh Fr Ar r.2.1 r.2.2.1) := by
  unfold d_bounded_51
  repeat' (first
    | with_reducible exact po_some (by assumption)
    | (with_reducible refine fm_pf (by assumption) (by decide) ?_; intro _ _)
    | (with_reducible refine fm_st (by assumption) (by decide) ?_; intro _ _)
    | with_reducible exact fm_d_goesOn (by assumption)
    | (with_reducible refine po_call (fm_d_goesOn (by assumption)) ?_; rintro ⟨_, _, _, _⟩ _; try dsimp only)
    | with_reducible refine po_cond (fun _ => ?_) (fun _ => ?_)
    | with_reducible refine po_bind_cond (fun _ => ?_) (fun _ => ?_)
    | with_reducible refine po_bl (fun _ _ => ?_))
theorem fm_d_bounded {F : Nat → Int32} {A : Nat → Nat → Int32} {J : Nat → Nat → Int64} {x1 : Int32} {x2 : Int32}  (h : FMh Fr Ar F A) : po (d_bounded F A J x1 x2) (fun r => FMh Fr Ar r.2.1 r.2.2.1) := by
  unfold d_bounded
  repeat' (first
    | with_reducible exact po_some (by assumption)
    | (with_reducible refine fm_pf (by assumption) (by decide) ?_; intro _ _)
    | (with_reducible refine fm_st (by assumption) (by decide) ?_; intro _ _)
    | with_reducible exact fm_d_bounded_15 (by assumption)
    | (with_reducible refine po_call (fm_d_bounded_15 (by assumption)) ?_; rintro ⟨_, _, _, _⟩ _; try dsimp only)
    | with_reducible exact fm_d_bounded_42 (by assumption)
    | (with_reducible refine po_call (fm_d_bounded_42 (by assumption)) ?_; rintro ⟨_, _, _, _⟩ _; try dsimp only)
    | with_reducible exact fm_d_bounded_51 (by assumption)
    | (with_reducible refine po_call (fm_d_bounded_51 (by assumption)) ?_; rintro ⟨_, _, _, _⟩ _; try dsimp only)
    | with_reducible refine po_cond (fun _ => ?_) (fun _ => ?_)
    | with_reducible refine po_bind_cond (fun _ => ?_) (fun _ => ?_)
    | with_reducible refine po_bl (fun _ _ => ?_))
theorem fm_d_tellDoor_135 {n : Nat} {F : Nat → Int32} {A : Nat → Nat → Int32} {J : Nat → Nat → Int64}  (h : FMh Fr Ar F A) : po (d_tellDoor_135 n F A J) (fun r => FMh Fr Ar r.2.1 r.2.2.1) := by
  unfold d_tellDoor_135
  repeat' (first
    | with_reducible exact po_some (by assumption)
    | (with_reducible refine fm_pf (by assumption) (by decide) ?_; intro _ _)
    | (with_reducible refine fm_st (by assumption) (by decide) ?_; intro _ _)
    | with_reducible exact fm_d_must (by assumption)
    | (with_reducible refine po_call (fm_d_must (by assumption)) ?_; rintro ⟨_, _, _, _⟩ _; try dsimp only)
    | with_reducible refine po_cond (fun _ => ?_) (fun _ => ?_)
    | with_reducible refine po_bind_cond (fun _ => ?_) (fun _ => ?_)
    | with_reducible refine po_bl (fun _ _ => ?_))
theorem fm_d_tellDoor_121 {n : Nat} {F : Nat → Int32} {A : Nat → Nat → Int32} {J : Nat → Nat → Int64} {x1 : Int32} {s1 : Int32} {s2 : Int32}  (h : FMh Fr Ar F A) : po (d_tellDoor_121 n F A J x1 s1 s2) (fun r => FMh Fr Ar r.2.1 r.2.2.1) := by
  unfold d_tellDoor_121
  repeat' (first
    | with_reducible exact po_some (by assumption)
    | (with_reducible refine fm_pf (by assumption) (by decide) ?_; intro _ _)
    | (with_reducible refine fm_st (by assumption) (by decide) ?_; intro _ _)
    | with_reducible exact fm_d_tellDoor_135 (by assumption)
    | (with_reducible refine po_call (fm_d_tellDoor_135 (by assumption)) ?_; rintro ⟨_, _, _, _⟩ _; try dsimp only)
    | with_reducible exact fm_d_goesOn (by assumption)
    | (with_reducible refine po_call (fm_d_goesOn (by assumption)) ?_; rintro ⟨_, _, _, _⟩ _; try dsimp only)
    | with_reducible exact fm_d_must (by assumption)
    | (with_reducible refine po_call (fm_d_must (by assumption)) ?_; rintro ⟨_, _, _, _⟩ _; try dsimp only)
    | with_reducible refine po_cond (fun _ => ?_) (fun _ => ?_)
    | with_reducible refine po_bind_cond (fun _ => ?_) (fun _ => ?_)
    | with_reducible refine po_bl (fun _ _ => ?_))
theorem fm_d_tellDoor_120 {n : Nat} {F : Nat → Int32} {A : Nat → Nat → Int32} {J : Nat → Nat → Int64} {x1 : Int32} {s1 : Int32}  (h : FMh Fr Ar F A) : po (d_tellDoor_120 n F A J x1 s1) (fun r => FMh Fr Ar r.2.1 r.2.2.1) := by
  unfold d_tellDoor_120
  repeat' (first
    | with_reducible exact po_some (by assumption)
    | (with_reducible refine fm_pf (by assumption) (by decide) ?_; intro _ _)
    | (with_reducible refine fm_st (by assumption) (by decide) ?_; intro _ _)
    | with_reducible exact fm_d_tellDoor_121 (by assumption)
    | (with_reducible refine po_call (fm_d_tellDoor_121 (by assumption)) ?_; rintro ⟨_, _, _, _⟩ _; try dsimp only)
    | with_reducible refine po_cond (fun _ => ?_) (fun _ => ?_)
    | with_reducible refine po_bind_cond (fun _ => ?_) (fun _ => ?_)
    | with_reducible refine po_bl (fun _ _ => ?_))
theorem fm_d_tellDoor_82 {n : Nat} {F : Nat → Int32} {A : Nat → Nat → Int32} {J : Nat → Nat → Int64} {x1 : Int32}  (h : FMh Fr Ar F A) : po (d_tellDoor_82 n F A J x1) (fun r => FMh Fr Ar r.2.1 r.2.2.1) := by
  unfold d_tellDoor_82
  repeat' (first
    | with_reducible exact po_some (by assumption)
    | (with_reducible refine fm_pf (by assumption) (by decide) ?_; intro _ _)
    | (with_reducible refine fm_st (by assumption) (by decide) ?_; intro _ _)
    | with_reducible exact fm_d_bounded (by assumption)
    | (with_reducible refine po_call (fm_d_bounded (by assumption)) ?_; rintro ⟨_, _, _, _⟩ _; try dsimp only)
    | with_reducible exact fm_d_tellDoor_120 (by assumption)
    | (with_reducible refine po_call (fm_d_tellDoor_120 (by assumption)) ?_; rintro ⟨_, _, _, _⟩ _; try dsimp only)
    | with_reducible exact fm_d_tellDoor_121 (by assumption)
    | (with_reducible refine po_call (fm_d_tellDoor_121 (by assumption)) ?_; rintro ⟨_, _, _, _⟩ _; try dsimp only)
    | with_reducible refine po_cond (fun _ => ?_) (fun _ => ?_)
    | with_reducible refine po_bind_cond (fun _ => ?_) (fun _ => ?_)
    | with_reducible refine po_bl (fun _ _ => ?_))
theorem fm_d_tellDoor {n : Nat} {F : Nat → Int32} {A : Nat → Nat → Int32} {J : Nat → Nat → Int64}  (h : FMh Fr Ar F A) : po (d_tellDoor n F A J) (fun r => FMh Fr Ar r.2.1 r.2.2.1) := by
  unfold d_tellDoor
  repeat' (first
    | with_reducible exact po_some (by assumption)
    | (with_reducible refine fm_pf (by assumption) (by decide) ?_; intro _ _)
    | (with_reducible refine fm_st (by assumption) (by decide) ?_; intro _ _)
    | with_reducible exact fm_d_known (by assumption)
    | (with_reducible refine po_call (fm_d_known (by assumption)) ?_; rintro ⟨_, _, _, _⟩ _; try dsimp only)
    | with_reducible exact fm_d_tellDoor_82 (by assumption)
    | (with_reducible refine po_call (fm_d_tellDoor_82 (by assumption)) ?_; rintro ⟨_, _, _, _⟩ _; try dsimp only)
    | with_reducible exact fm_d_wrong (by assumption)
    | (with_reducible refine po_call (fm_d_wrong (by assumption)) ?_; rintro ⟨_, _, _, _⟩ _; try dsimp only)
    | with_reducible exact fm_d_bounded (by assumption)
    | (with_reducible refine po_call (fm_d_bounded (by assumption)) ?_; rintro ⟨_, _, _, _⟩ _; try dsimp only)
    | with_reducible exact fm_d_tellDoor_120 (by assumption)
    | (with_reducible refine po_call (fm_d_tellDoor_120 (by assumption)) ?_; rintro ⟨_, _, _, _⟩ _; try dsimp only)
    | with_reducible exact fm_d_tellDoor_121 (by assumption)
    | (with_reducible refine po_call (fm_d_tellDoor_121 (by assumption)) ?_; rintro ⟨_, _, _, _⟩ _; try dsimp only)
    | with_reducible refine po_cond (fun _ => ?_) (fun _ => ?_)
    | with_reducible refine po_bind_cond (fun _ => ?_) (fun _ => ?_)
    | with_reducible refine po_bl (fun _ _ => ?_))
theorem fm_d_tellTool {n : Nat} {F : Nat → Int32} {A : Nat → Nat → Int32} {J : Nat → Nat → Int64}  (h : FMh Fr Ar F A) : po (d_tellTool n F A J) (fun r => FMh Fr Ar r.2.1 r.2.2.1) := by
  unfold d_tellTool
  repeat' (first
    | with_reducible exact po_some (by assumption)
    | (with_reducible refine fm_pf (by assumption) (by decide) ?_; intro _ _)
    | (with_reducible refine fm_st (by assumption) (by decide) ?_; intro _ _)
    | with_reducible exact fm_d_named (by assumption)
    | (with_reducible refine po_call (fm_d_named (by assumption)) ?_; rintro ⟨_, _, _, _⟩ _; try dsimp only)
    | with_reducible exact fm_d_known (by assumption)
    | (with_reducible refine po_call (fm_d_known (by assumption)) ?_; rintro ⟨_, _, _, _⟩ _; try dsimp only)
    | with_reducible exact fm_d_must (by assumption)
    | (with_reducible refine po_call (fm_d_must (by assumption)) ?_; rintro ⟨_, _, _, _⟩ _; try dsimp only)
    | with_reducible exact fm_d_notes (by assumption)
    | (with_reducible refine po_call (fm_d_notes (by assumption)) ?_; rintro ⟨_, _, _, _⟩ _; try dsimp only)
    | with_reducible refine po_cond (fun _ => ?_) (fun _ => ?_)
    | with_reducible refine po_bind_cond (fun _ => ?_) (fun _ => ?_)
    | with_reducible refine po_bl (fun _ _ => ?_))
theorem fm_d_tellTask {n : Nat} {F : Nat → Int32} {A : Nat → Nat → Int32} {J : Nat → Nat → Int64}  (h : FMh Fr Ar F A) : po (d_tellTask n F A J) (fun r => FMh Fr Ar r.2.1 r.2.2.1) := by
  unfold d_tellTask
  repeat' (first
    | with_reducible exact po_some (by assumption)
    | (with_reducible refine fm_pf (by assumption) (by decide) ?_; intro _ _)
    | (with_reducible refine fm_st (by assumption) (by decide) ?_; intro _ _)
    | with_reducible exact fm_d_named (by assumption)
    | (with_reducible refine po_call (fm_d_named (by assumption)) ?_; rintro ⟨_, _, _, _⟩ _; try dsimp only)
    | with_reducible exact fm_d_known (by assumption)
    | (with_reducible refine po_call (fm_d_known (by assumption)) ?_; rintro ⟨_, _, _, _⟩ _; try dsimp only)
    | with_reducible exact fm_d_bounded (by assumption)
    | (with_reducible refine po_call (fm_d_bounded (by assumption)) ?_; rintro ⟨_, _, _, _⟩ _; try dsimp only)
    | with_reducible exact fm_d_must (by assumption)
    | (with_reducible refine po_call (fm_d_must (by assumption)) ?_; rintro ⟨_, _, _, _⟩ _; try dsimp only)
    | with_reducible exact fm_d_notes (by assumption)
    | (with_reducible refine po_call (fm_d_notes (by assumption)) ?_; rintro ⟨_, _, _, _⟩ _; try dsimp only)
    | with_reducible refine po_cond (fun _ => ?_) (fun _ => ?_)
    | with_reducible refine po_bind_cond (fun _ => ?_) (fun _ => ?_)
    | with_reducible refine po_bl (fun _ _ => ?_))
theorem fm_d_tellStep_174 {n : Nat} {F : Nat → Int32} {A : Nat → Nat → Int32} {J : Nat → Nat → Int64} {x2 : Int32} {x4 : Int32} {x5 : Int32} {x6 : Int32} {x7 : Int32} {x8 : Int32} {x9 : Int32} {x10 : Int32}  (h : FMh Fr Ar F A) : po (d_tellStep_174 n F A J x2 x4 x5 x6 x7 x8 x9 x10) (fun r => FMh Fr Ar r.2.1 r.2.2.1) := by
  unfold d_tellStep_174
  repeat' (first
    | with_reducible exact po_some (by assumption)
    | (with_reducible refine fm_pf (by assumption) (by decide) ?_; intro _ _)
    | (with_reducible refine fm_st (by assumption) (by decide) ?_; intro _ _)
    | with_reducible exact fm_d_must (by assumption)
    | (with_reducible refine po_call (fm_d_must (by assumption)) ?_; rintro ⟨_, _, _, _⟩ _; try dsimp only)
    | with_reducible refine po_cond (fun _ => ?_) (fun _ => ?_)
    | with_reducible refine po_bind_cond (fun _ => ?_) (fun _ => ?_)
    | with_reducible refine po_bl (fun _ _ => ?_))
theorem fm_d_tellStep_169 {n : Nat} {F : Nat → Int32} {A : Nat → Nat → Int32} {J : Nat → Nat → Int64} {x2 : Int32} {x4 : Int32} {x5 : Int32} {x6 : Int32} {x7 : Int32} {x8 : Int32} {x9 : Int32} {s1 : Int32} {s2 : Int32}  (h : FMh Fr Ar F A) : po (d_tellStep_169 n F A J x2 x4 x5 x6 x7 x8 x9 s1 s2) (fun r => FMh Fr Ar r.2.1 r.2.2.1) := by
  unfold d_tellStep_169
  repeat' (first
    | with_reducible exact po_some (by assumption)
    | (with_reducible refine fm_pf (by assumption) (by decide) ?_; intro _ _)
    | (with_reducible refine fm_st (by assumption) (by decide) ?_; intro _ _)
    | with_reducible exact fm_d_bounded (by assumption)
    | (with_reducible refine po_call (fm_d_bounded (by assumption)) ?_; rintro ⟨_, _, _, _⟩ _; try dsimp only)
    | with_reducible exact fm_d_tellStep_174 (by assumption)
    | (with_reducible refine po_call (fm_d_tellStep_174 (by assumption)) ?_; rintro ⟨_, _, _, _⟩ _; try dsimp only)
    | with_reducible refine po_cond (fun _ => ?_) (fun _ => ?_)
    | with_reducible refine po_bind_cond (fun _ => ?_) (fun _ => ?_)
    | with_reducible refine po_bl (fun _ _ => ?_))
theorem fm_d_tellStep_134 {n : Nat} {F : Nat → Int32} {A : Nat → Nat → Int32} {J : Nat → Nat → Int64} {x2 : Int32} {x3 : Int32} {x4 : Int32} {x5 : Int32} {x6 : Int32} {x7 : Int32} {x8 : Int32} {x9 : Int32} {x10 : Int32}  (h : FMh Fr Ar F A) : po (d_tellStep_134 n F A J x2 x3 x4 x5 x6 x7 x8 x9 x10) (fun r => FMh Fr Ar r.2.1 r.2.2.1) := by
  unfold d_tellStep_134
  repeat' (first
    | with_reducible exact po_some (by assumption)
    | (with_reducible refine fm_pf (by assumption) (by decide) ?_; intro _ _)
    | (with_reducible refine fm_st (by assumption) (by decide) ?_; intro _ _)
    | with_reducible exact fm_d_tellStep_174 (by assumption)
    | (with_reducible refine po_call (fm_d_tellStep_174 (by assumption)) ?_; rintro ⟨_, _, _, _⟩ _; try dsimp only)
    | with_reducible exact fm_d_goesOn (by assumption)
    | (with_reducible refine po_call (fm_d_goesOn (by assumption)) ?_; rintro ⟨_, _, _, _⟩ _; try dsimp only)
    | with_reducible exact fm_d_tellStep_169 (by assumption)
    | (with_reducible refine po_call (fm_d_tellStep_169 (by assumption)) ?_; rintro ⟨_, _, _, _⟩ _; try dsimp only)
    | with_reducible refine po_cond (fun _ => ?_) (fun _ => ?_)
    | with_reducible refine po_bind_cond (fun _ => ?_) (fun _ => ?_)
    | with_reducible refine po_bl (fun _ _ => ?_))
theorem fm_d_tellStep_59 {n : Nat} {F : Nat → Int32} {A : Nat → Nat → Int32} {J : Nat → Nat → Int64} {x2 : Int32} {x3 : Int32} {s0 : Int32} {s1 : Int32} {s2 : Int32}  (h : FMh Fr Ar F A) : po (d_tellStep_59 n F A J x2 x3 s0 s1 s2) (fun r => FMh Fr Ar r.2.1 r.2.2.1) := by
  unfold d_tellStep_59
  repeat' (first
    | with_reducible exact po_some (by assumption)
    | (with_reducible refine fm_pf (by assumption) (by decide) ?_; intro _ _)
    | (with_reducible refine fm_st (by assumption) (by decide) ?_; intro _ _)
    | with_reducible exact fm_d_bounded (by assumption)
    | (with_reducible refine po_call (fm_d_bounded (by assumption)) ?_; rintro ⟨_, _, _, _⟩ _; try dsimp only)
    | with_reducible exact fm_d_tellStep_134 (by assumption)
    | (with_reducible refine po_call (fm_d_tellStep_134 (by assumption)) ?_; rintro ⟨_, _, _, _⟩ _; try dsimp only)
    | with_reducible exact fm_d_goesOn (by assumption)
    | (with_reducible refine po_call (fm_d_goesOn (by assumption)) ?_; rintro ⟨_, _, _, _⟩ _; try dsimp only)
    | with_reducible exact fm_d_known (by assumption)
    | (with_reducible refine po_call (fm_d_known (by assumption)) ?_; rintro ⟨_, _, _, _⟩ _; try dsimp only)
    | with_reducible refine po_cond (fun _ => ?_) (fun _ => ?_)
    | with_reducible refine po_bind_cond (fun _ => ?_) (fun _ => ?_)
    | with_reducible refine po_bl (fun _ _ => ?_))
theorem fm_d_tellStep_41 {n : Nat} {F : Nat → Int32} {A : Nat → Nat → Int32} {J : Nat → Nat → Int64} {x2 : Int32} {x3 : Int32}  (h : FMh Fr Ar F A) : po (d_tellStep_41 n F A J x2 x3) (fun r => FMh Fr Ar r.2.1 r.2.2.1) := by
  unfold d_tellStep_41
  repeat' (first
    | with_reducible exact po_some (by assumption)
    | (with_reducible refine fm_pf (by assumption) (by decide) ?_; intro _ _)
    | (with_reducible refine fm_st (by assumption) (by decide) ?_; intro _ _)
    | with_reducible exact fm_d_tellStep_59 (by assumption)
    | (with_reducible refine po_call (fm_d_tellStep_59 (by assumption)) ?_; rintro ⟨_, _, _, _⟩ _; try dsimp only)
    | with_reducible refine po_cond (fun _ => ?_) (fun _ => ?_)
    | with_reducible refine po_bind_cond (fun _ => ?_) (fun _ => ?_)
    | with_reducible refine po_bl (fun _ _ => ?_))
theorem fm_d_failAt {F : Nat → Int32} {A : Nat → Nat → Int32} {J : Nat → Nat → Int64} {x1 : Int32} {x2 : Int32}  (h : FMh Fr Ar F A) : po (d_failAt F A J x1 x2) (fun r => FMh Fr Ar r.2.1 r.2.2.1) := by
  unfold d_failAt
  repeat' (first
    | with_reducible exact po_some (by assumption)
    | (with_reducible refine fm_pf (by assumption) (by decide) ?_; intro _ _)
    | (with_reducible refine fm_st (by assumption) (by decide) ?_; intro _ _)
    | with_reducible refine po_cond (fun _ => ?_) (fun _ => ?_)
    | with_reducible refine po_bind_cond (fun _ => ?_) (fun _ => ?_)
    | with_reducible refine po_bl (fun _ _ => ?_))
theorem fm_d_tellStep_28 {n : Nat} {F : Nat → Int32} {A : Nat → Nat → Int32} {J : Nat → Nat → Int64} {x1 : Int32} {x2 : Int32} {s0 : Int32}  (h : FMh Fr Ar F A) : po (d_tellStep_28 n F A J x1 x2 s0) (fun r => FMh Fr Ar r.2.1 r.2.2.1) := by
  unfold d_tellStep_28
  repeat' (first
    | with_reducible exact po_some (by assumption)
    | (with_reducible refine fm_pf (by assumption) (by decide) ?_; intro _ _)
    | (with_reducible refine fm_st (by assumption) (by decide) ?_; intro _ _)
    | with_reducible exact fm_d_tellStep_41 (by assumption)
    | (with_reducible refine po_call (fm_d_tellStep_41 (by assumption)) ?_; rintro ⟨_, _, _, _⟩ _; try dsimp only)
    | with_reducible exact fm_d_failAt (by assumption)
    | (with_reducible refine po_call (fm_d_failAt (by assumption)) ?_; rintro ⟨_, _, _, _⟩ _; try dsimp only)
    | with_reducible exact fm_d_tellStep_59 (by assumption)
    | (with_reducible refine po_call (fm_d_tellStep_59 (by assumption)) ?_; rintro ⟨_, _, _, _⟩ _; try dsimp only)
    | with_reducible refine po_cond (fun _ => ?_) (fun _ => ?_)
    | with_reducible refine po_bind_cond (fun _ => ?_) (fun _ => ?_)
    | with_reducible refine po_bl (fun _ _ => ?_))
theorem fm_d_tellStep {n : Nat} {F : Nat → Int32} {A : Nat → Nat → Int32} {J : Nat → Nat → Int64} {x1 : Int32}  (h : FMh Fr Ar F A) : po (d_tellStep n F A J x1) (fun r => FMh Fr Ar r.2.1 r.2.2.1) := by
  unfold d_tellStep
  repeat' (first
    | with_reducible exact po_some (by assumption)
    | (with_reducible refine fm_pf (by assumption) (by decide) ?_; intro _ _)
    | (with_reducible refine fm_st (by assumption) (by decide) ?_; intro _ _)
    | with_reducible exact fm_d_known (by assumption)
    | (with_reducible refine po_call (fm_d_known (by assumption)) ?_; rintro ⟨_, _, _, _⟩ _; try dsimp only)
    | with_reducible exact fm_d_tellStep_41 (by assumption)
    | (with_reducible refine po_call (fm_d_tellStep_41 (by assumption)) ?_; rintro ⟨_, _, _, _⟩ _; try dsimp only)
    | with_reducible exact fm_d_failAt (by assumption)
    | (with_reducible refine po_call (fm_d_failAt (by assumption)) ?_; rintro ⟨_, _, _, _⟩ _; try dsimp only)
    | with_reducible exact fm_d_tellStep_59 (by assumption)
    | (with_reducible refine po_call (fm_d_tellStep_59 (by assumption)) ?_; rintro ⟨_, _, _, _⟩ _; try dsimp only)
    | with_reducible exact fm_d_tellStep_28 (by assumption)
    | (with_reducible refine po_call (fm_d_tellStep_28 (by assumption)) ?_; rintro ⟨_, _, _, _⟩ _; try dsimp only)
    | with_reducible refine po_cond (fun _ => ?_) (fun _ => ?_)
    | with_reducible refine po_bind_cond (fun _ => ?_) (fun _ => ?_)
    | with_reducible refine po_bl (fun _ _ => ?_))
theorem fm_d_tellMan_118 {n : Nat} {F : Nat → Int32} {A : Nat → Nat → Int32} {J : Nat → Nat → Int64} {x2 : Int32}  (h : FMh Fr Ar F A) : po (d_tellMan_118 n F A J x2) (fun r => FMh Fr Ar r.2.1 r.2.2.1) := by
  unfold d_tellMan_118
  repeat' (first
    | with_reducible exact po_some (by assumption)
    | (with_reducible refine fm_pf (by assumption) (by decide) ?_; intro _ _)
    | (with_reducible refine fm_st (by assumption) (by decide) ?_; intro _ _)
    | with_reducible exact fm_d_must (by assumption)
    | (with_reducible refine po_call (fm_d_must (by assumption)) ?_; rintro ⟨_, _, _, _⟩ _; try dsimp only)
    | with_reducible exact fm_d_notes (by assumption)
    | (with_reducible refine po_call (fm_d_notes (by assumption)) ?_; rintro ⟨_, _, _, _⟩ _; try dsimp only)
    | with_reducible refine po_cond (fun _ => ?_) (fun _ => ?_)
    | with_reducible refine po_bind_cond (fun _ => ?_) (fun _ => ?_)
    | with_reducible refine po_bl (fun _ _ => ?_))
theorem fm_d_tellMan_114 {n : Nat} {F : Nat → Int32} {A : Nat → Nat → Int32} {J : Nat → Nat → Int64} {x2 : Int32} {s1 : Int32} {s3 : Int32} {s4 : Int32}  (h : FMh Fr Ar F A) : po (d_tellMan_114 n F A J x2 s1 s3 s4) (fun r => FMh Fr Ar r.2.1 r.2.2.1) := by
  unfold d_tellMan_114
  repeat' (first
    | with_reducible exact po_some (by assumption)
    | (with_reducible refine fm_pf (by assumption) (by decide) ?_; intro _ _)
    | (with_reducible refine fm_st (by assumption) (by decide) ?_; intro _ _)
    | with_reducible exact fm_d_bounded (by assumption)
    | (with_reducible refine po_call (fm_d_bounded (by assumption)) ?_; rintro ⟨_, _, _, _⟩ _; try dsimp only)
    | with_reducible exact fm_d_must (by assumption)
    | (with_reducible refine po_call (fm_d_must (by assumption)) ?_; rintro ⟨_, _, _, _⟩ _; try dsimp only)
    | with_reducible exact fm_d_notes (by assumption)
    | (with_reducible refine po_call (fm_d_notes (by assumption)) ?_; rintro ⟨_, _, _, _⟩ _; try dsimp only)
    | with_reducible refine po_cond (fun _ => ?_) (fun _ => ?_)
    | with_reducible refine po_bind_cond (fun _ => ?_) (fun _ => ?_)
    | with_reducible refine po_bl (fun _ _ => ?_))
theorem fm_d_tellMan {n : Nat} {F : Nat → Int32} {A : Nat → Nat → Int32} {J : Nat → Nat → Int64}  (h : FMh Fr Ar F A) : po (d_tellMan n F A J) (fun r => FMh Fr Ar r.2.1 r.2.2.1) := by
  unfold d_tellMan
  repeat' (first
    | with_reducible exact po_some (by assumption)
    | (with_reducible refine fm_pf (by assumption) (by decide) ?_; intro _ _)
    | (with_reducible refine fm_st (by assumption) (by decide) ?_; intro _ _)
    | with_reducible exact fm_d_named (by assumption)
    | (with_reducible refine po_call (fm_d_named (by assumption)) ?_; rintro ⟨_, _, _, _⟩ _; try dsimp only)
    | with_reducible exact fm_d_known (by assumption)
    | (with_reducible refine po_call (fm_d_known (by assumption)) ?_; rintro ⟨_, _, _, _⟩ _; try dsimp only)
    | with_reducible exact fm_d_tellMan_118 (by assumption)
    | (with_reducible refine po_call (fm_d_tellMan_118 (by assumption)) ?_; rintro ⟨_, _, _, _⟩ _; try dsimp only)
    | with_reducible exact fm_d_goesOn (by assumption)
    | (with_reducible refine po_call (fm_d_goesOn (by assumption)) ?_; rintro ⟨_, _, _, _⟩ _; try dsimp only)
    | with_reducible exact fm_d_tellMan_114 (by assumption)
    | (with_reducible refine po_call (fm_d_tellMan_114 (by assumption)) ?_; rintro ⟨_, _, _, _⟩ _; try dsimp only)
    | with_reducible refine po_cond (fun _ => ?_) (fun _ => ?_)
    | with_reducible refine po_bind_cond (fun _ => ?_) (fun _ => ?_)
    | with_reducible refine po_bl (fun _ _ => ?_))
theorem fm_d_roomFor_10 {F : Nat → Int32} {A : Nat → Nat → Int32} {J : Nat → Nat → Int64}  (h : FMh Fr Ar F A) : po (d_roomFor_10 F A J) (fun r => FMh Fr Ar r.2.1 r.2.2.1) := by
  unfold d_roomFor_10
  repeat' (first
    | with_reducible exact po_some (by assumption)
    | (with_reducible refine fm_pf (by assumption) (by decide) ?_; intro _ _)
    | (with_reducible refine fm_st (by assumption) (by decide) ?_; intro _ _)
    | with_reducible exact fm_d_goesOn (by assumption)
    | (with_reducible refine po_call (fm_d_goesOn (by assumption)) ?_; rintro ⟨_, _, _, _⟩ _; try dsimp only)
    | with_reducible refine po_cond (fun _ => ?_) (fun _ => ?_)
    | with_reducible refine po_bind_cond (fun _ => ?_) (fun _ => ?_)
    | with_reducible refine po_bl (fun _ _ => ?_))
theorem fm_d_roomFor {F : Nat → Int32} {A : Nat → Nat → Int32} {J : Nat → Nat → Int64} {x1 : Int32} {x2 : Int32}  (h : FMh Fr Ar F A) : po (d_roomFor F A J x1 x2) (fun r => FMh Fr Ar r.2.1 r.2.2.1) := by
  unfold d_roomFor
  repeat' (first
    | with_reducible exact po_some (by assumption)
    | (with_reducible refine fm_pf (by assumption) (by decide) ?_; intro _ _)
    | (with_reducible refine fm_st (by assumption) (by decide) ?_; intro _ _)
    | with_reducible exact fm_d_roomFor_10 (by assumption)
    | (with_reducible refine po_call (fm_d_roomFor_10 (by assumption)) ?_; rintro ⟨_, _, _, _⟩ _; try dsimp only)
    | with_reducible exact fm_d_fail (by assumption)
    | (with_reducible refine po_call (fm_d_fail (by assumption)) ?_; rintro ⟨_, _, _, _⟩ _; try dsimp only)
    | with_reducible exact fm_d_goesOn (by assumption)
    | (with_reducible refine po_call (fm_d_goesOn (by assumption)) ?_; rintro ⟨_, _, _, _⟩ _; try dsimp only)
    | with_reducible refine po_cond (fun _ => ?_) (fun _ => ?_)
    | with_reducible refine po_bind_cond (fun _ => ?_) (fun _ => ?_)
    | with_reducible refine po_bl (fun _ _ => ?_))
theorem fm_s_Room {n : Nat} {x most : Int32} {F : Nat → Int32} {A : Nat → Nat → Int32} {J : Nat → Nat → Int64} (h : FMh Fr Ar F A) : po ((d_roomFor F A J x most).bind fun (_, F5, A6, J7) => cond (g_cnd .ne (F5 13) 0) (some ((), F5, A6, J7)) ((d_tellRoom n F5 A6 J7).bind fun (_, F10, A11, J12) => some ((), F10, A11, J12))) (fun r => FMh Fr Ar r.2.1 r.2.2.1) := by
  repeat' (first
    | exact po_some (by assumption)
    | (refine po_call (fm_d_roomFor (by assumption)) ?_; rintro ⟨_, _, _, _⟩ _; try dsimp only)
    | (refine po_call (fm_d_tellRoom (by assumption)) ?_; rintro ⟨_, _, _, _⟩ _; try dsimp only)
    | (refine fm_st (by assumption) (by decide) ?_; intro _ _)
    | refine po_cond (fun _ => ?_) (fun _ => ?_)
    | refine po_bl (fun _ _ => ?_))
theorem fm_s_Door {n : Nat} {x most : Int32} {F : Nat → Int32} {A : Nat → Nat → Int32} {J : Nat → Nat → Int64} (h : FMh Fr Ar F A) : po ((d_roomFor F A J x most).bind fun (_, F5, A6, J7) => cond (g_cnd .ne (F5 13) 0) (some ((), F5, A6, J7)) ((d_tellDoor n F5 A6 J7).bind fun (_, F10, A11, J12) => some ((), F10, A11, J12))) (fun r => FMh Fr Ar r.2.1 r.2.2.1) := by
  repeat' (first
    | exact po_some (by assumption)
    | (refine po_call (fm_d_roomFor (by assumption)) ?_; rintro ⟨_, _, _, _⟩ _; try dsimp only)
    | (refine po_call (fm_d_tellDoor (by assumption)) ?_; rintro ⟨_, _, _, _⟩ _; try dsimp only)
    | (refine fm_st (by assumption) (by decide) ?_; intro _ _)
    | refine po_cond (fun _ => ?_) (fun _ => ?_)
    | refine po_bl (fun _ _ => ?_))
theorem fm_s_Tool {n : Nat} {x most : Int32} {F : Nat → Int32} {A : Nat → Nat → Int32} {J : Nat → Nat → Int64} (h : FMh Fr Ar F A) : po ((d_roomFor F A J x most).bind fun (_, F5, A6, J7) => cond (g_cnd .ne (F5 13) 0) (some ((), F5, A6, J7)) ((d_tellTool n F5 A6 J7).bind fun (_, F10, A11, J12) => some ((), F10, A11, J12))) (fun r => FMh Fr Ar r.2.1 r.2.2.1) := by
  repeat' (first
    | exact po_some (by assumption)
    | (refine po_call (fm_d_roomFor (by assumption)) ?_; rintro ⟨_, _, _, _⟩ _; try dsimp only)
    | (refine po_call (fm_d_tellTool (by assumption)) ?_; rintro ⟨_, _, _, _⟩ _; try dsimp only)
    | (refine fm_st (by assumption) (by decide) ?_; intro _ _)
    | refine po_cond (fun _ => ?_) (fun _ => ?_)
    | refine po_bl (fun _ _ => ?_))
theorem fm_s_Task {n : Nat} {x most : Int32} {F : Nat → Int32} {A : Nat → Nat → Int32} {J : Nat → Nat → Int64} (h : FMh Fr Ar F A) : po ((d_roomFor F A J x most).bind fun (_, F5, A6, J7) => cond (g_cnd .ne (F5 13) 0) (some ((), F5, A6, J7)) ((d_tellTask n F5 A6 J7).bind fun (_, F10, A11, J12) => some ((), F10, A11, J12))) (fun r => FMh Fr Ar r.2.1 r.2.2.1) := by
  repeat' (first
    | exact po_some (by assumption)
    | (refine po_call (fm_d_roomFor (by assumption)) ?_; rintro ⟨_, _, _, _⟩ _; try dsimp only)
    | (refine po_call (fm_d_tellTask (by assumption)) ?_; rintro ⟨_, _, _, _⟩ _; try dsimp only)
    | (refine fm_st (by assumption) (by decide) ?_; intro _ _)
    | refine po_cond (fun _ => ?_) (fun _ => ?_)
    | refine po_bl (fun _ _ => ?_))
theorem fm_s_Man {n : Nat} {x most : Int32} {F : Nat → Int32} {A : Nat → Nat → Int32} {J : Nat → Nat → Int64} (h : FMh Fr Ar F A) : po ((d_roomFor F A J x most).bind fun (_, F5, A6, J7) => cond (g_cnd .ne (F5 13) 0) (some ((), F5, A6, J7)) ((d_tellMan n F5 A6 J7).bind fun (_, F10, A11, J12) => some ((), F10, A11, J12))) (fun r => FMh Fr Ar r.2.1 r.2.2.1) := by
  repeat' (first
    | exact po_some (by assumption)
    | (refine po_call (fm_d_roomFor (by assumption)) ?_; rintro ⟨_, _, _, _⟩ _; try dsimp only)
    | (refine po_call (fm_d_tellMan (by assumption)) ?_; rintro ⟨_, _, _, _⟩ _; try dsimp only)
    | (refine fm_st (by assumption) (by decide) ?_; intro _ _)
    | refine po_cond (fun _ => ?_) (fun _ => ?_)
    | refine po_bl (fun _ _ => ?_))
theorem fm_s_Step {n : Nat} {F : Nat → Int32} {A : Nat → Nat → Int32} {J : Nat → Nat → Int64} (h : FMh Fr Ar F A) : po ((d_goesOn F A J).bind fun (_, F48, A49, J50) => (d_tellStep n F48 A49 J50 ((F48 11) - 1)).bind fun (_, F52, A53, J54) => some ((), F52, A53, J54)) (fun r => FMh Fr Ar r.2.1 r.2.2.1) := by
  repeat' (first
    | exact po_some (by assumption)
    | (refine po_call (fm_d_goesOn (by assumption)) ?_; rintro ⟨_, _, _, _⟩ _; try dsimp only)
    | (refine po_call (fm_d_tellStep (by assumption)) ?_; rintro ⟨_, _, _, _⟩ _; try dsimp only)
    | (refine fm_st (by assumption) (by decide) ?_; intro _ _)
    | refine po_cond (fun _ => ?_) (fun _ => ?_)
    | refine po_bl (fun _ _ => ?_))
theorem fm_s_Night {F : Nat → Int32} {A : Nat → Nat → Int32} {J : Nat → Nat → Int64} (h : FMh Fr Ar F A) : po ((d_goesOn F A J).bind fun (_, F100, A101, J102) => (d_bounded F100 A101 J102 1 600).bind fun (v103, F104, A105, J106) => (m_st A105 41 2 (F100 19) v103).bind fun A107 => (d_must F104 A107 J106 4).bind fun (_, F109, A110, J111) => some ((), F109, A110, J111)) (fun r => FMh Fr Ar r.2.1 r.2.2.1) := by
  repeat' (first
    | exact po_some (by assumption)
    | (refine po_call (fm_d_goesOn (by assumption)) ?_; rintro ⟨_, _, _, _⟩ _; try dsimp only)
    | (refine po_call (fm_d_bounded (by assumption)) ?_; rintro ⟨_, _, _, _⟩ _; try dsimp only)
    | (refine po_call (fm_d_must (by assumption)) ?_; rintro ⟨_, _, _, _⟩ _; try dsimp only)
    | (refine fm_st (by assumption) (by decide) ?_; intro _ _)
    | refine po_cond (fun _ => ?_) (fun _ => ?_)
    | refine po_bl (fun _ _ => ?_))
/-- laws stay over a sentence without laws -/
theorem rs_l {T : TS} {P : Nat → Nat → Nat} {F : Nat → Nat → Int32} {A : Nat → Nat → Nat → Int32} {Fm : Nat → Int32} {Am : Nat → Nat → Int32} {x : Option (cR Unit)} {z : Option (mR Unit)} (L : RL (Fm 19).toInt d F A Fm Am) (hq : P2 x z (RS T d P)) (hc : po x (fun r => FLh d F A r.2.2.1 r.2.2.2.1)) (hm : po z (fun r => FMh Fm Am r.2.1 r.2.2.1)) : P2 x z (RSL T d) := by
  intro a b ha hb
  have c := hc a ha
  have m := hm b hb
  rcases hq a b ha hb with e | ⟨r, x, h, w⟩
  · exact .inl e
  · refine .inr ⟨r, x, h, w, ?_⟩
    rw [m.1.2.2]
    exact L.eq c.1 c.2.1 c.2.2.1 c.2.2.2 m.1.2.1 m.1.1 m.2
theorem FLh.rfl' {F : Nat → Nat → Int32} {A : Nat → Nat → Nat → Int32} : FLh d F A F A := ⟨rfl, rfl, rfl, rfl⟩
theorem FMh.rfl' {F : Nat → Int32} {A : Nat → Nat → Int32} : FMh F A F A := ⟨⟨rfl, rfl, rfl⟩, fun _ _ _ _ => rfl⟩
end B7y
