section Qz137
/-! what the reference's laws leave as it was (printed by wip/frames.py) -/
section H9ez3a
variable {Fr : Nat → Int32} {Ar : Nat → Nat → Int32}
def TNx (Fr : Nat → Int32) (Ar : Nat → Nat → Int32) (F : Nat → Int32) (A : Nat → Nat → Int32) : Prop := (∀ k, k ≠ 63 → F k = Fr k) ∧ ∀ j, j ≠ 45 → j ≠ 46 → A j = Ar j
theorem TNx.rfl' {F : Nat → Int32} {A : Nat → Nat → Int32} : TNx F A F A := ⟨fun _ _ => rfl, fun _ _ _ => rfl⟩
theorem tn_pz {γ : Type} {x : Int32} {F : Nat → Int32} {A : Nat → Nat → Int32} {g : (Nat → Int32) → Option γ} {Q : γ → Prop} (h : TNx Fr Ar F A) (kk : ∀ F', TNx Fr Ar F' A → po (g F') Q) : po ((m_pfz F 63 x).bind g) Q :=
  po_bl (fun F' e => kk F' ⟨fun k hk => ((gg_pfz e).2 k hk).trans (h.1 k hk), h.2⟩)
theorem tn_st {γ : Type} {j n : Nat} {i x : Int32} {F : Nat → Int32} {A : Nat → Nat → Int32} {g : (Nat → Nat → Int32) → Option γ} {Q : γ → Prop} (h : TNx Fr Ar F A) (hj : j = 45 ∨ j = 46) (kk : ∀ A', TNx Fr Ar F A' → po (g A') Q) : po ((m_st A j n i x).bind g) Q :=
  po_bl (fun A' e => kk A' ⟨h.1, fun q h1 h2 => ((gg_st e).2.2.1 q (by omega)).trans (h.2 q h1 h2)⟩)
theorem tn_d_termOf_158 {K5 : (Nat → Int32) → (Nat → Nat → Int32) → (Nat → Nat → Int64) → Int32 → Int32 → Int32 → Option (Int32 × (Nat → Int32) × (Nat → Nat → Int32) × (Nat → Nat → Int64))} {n : Nat} {F : Nat → Int32} {A : Nat → Nat → Int32} {J : Nat → Nat → Int64} {x2 : Int32} {x3 : Int32} {x4 : Int32} {s1 : Int32} {s2 : Int32} (hK5 : ∀ (a0 : Nat → Int32) (a1 : Nat → Nat → Int32) (a2 : Nat → Nat → Int64) (a3 : Int32) (a4 : Int32) (a5 : Int32), TNx Fr Ar a0 a1 → po (K5 a0 a1 a2 a3 a4 a5) (fun r => TNx Fr Ar r.2.1 r.2.2.1)) (h : TNx Fr Ar F A) : po (d_termOf_158 K5 n F A J x2 x3 x4 s1 s2) (fun r => TNx Fr Ar r.2.1 r.2.2.1) := by
  unfold d_termOf_158
  repeat' (first
    | with_reducible exact po_some (by assumption)
    | (with_reducible refine tn_pz (by assumption) ?_; intro _ _)
    | (with_reducible refine tn_st (by assumption) (by decide) ?_; intro _ _)
    | with_reducible exact hK5 _ _ _ _ _ _ (by assumption)
    | (intros; with_reducible exact hK5 _ _ _ _ _ _ (by assumption))
    | with_reducible refine po_cond (fun _ => ?_) (fun _ => ?_)
    | with_reducible refine po_bind_cond (fun _ => ?_) (fun _ => ?_)
    | with_reducible refine po_bl (fun _ _ => ?_))
theorem tn_d_termOf_104 {K5 : (Nat → Int32) → (Nat → Nat → Int32) → (Nat → Nat → Int64) → Int32 → Int32 → Int32 → Option (Int32 × (Nat → Int32) × (Nat → Nat → Int32) × (Nat → Nat → Int64))} {n : Nat} {F : Nat → Int32} {A : Nat → Nat → Int32} {J : Nat → Nat → Int64} {x2 : Int32} {x3 : Int32} {x4 : Int32} {x5 : Int32} {x6 : Int32} {x7 : Int32} (hK5 : ∀ (a0 : Nat → Int32) (a1 : Nat → Nat → Int32) (a2 : Nat → Nat → Int64) (a3 : Int32) (a4 : Int32) (a5 : Int32), TNx Fr Ar a0 a1 → po (K5 a0 a1 a2 a3 a4 a5) (fun r => TNx Fr Ar r.2.1 r.2.2.1)) (h : TNx Fr Ar F A) : po (d_termOf_104 K5 n F A J x2 x3 x4 x5 x6 x7) (fun r => TNx Fr Ar r.2.1 r.2.2.1) := by
  unfold d_termOf_104
  repeat' (first
    | with_reducible exact po_some (by assumption)
    | (with_reducible refine tn_pz (by assumption) ?_; intro _ _)
    | (with_reducible refine tn_st (by assumption) (by decide) ?_; intro _ _)
    | with_reducible refine tn_d_termOf_158 ?_ (by assumption)
    | (with_reducible refine po_call (tn_d_termOf_158 ?_ (by assumption)) ?_)
    | with_reducible exact hK5 _ _ _ _ _ _ (by assumption)
    | (intros; with_reducible exact hK5 _ _ _ _ _ _ (by assumption))
    | with_reducible refine po_cond (fun _ => ?_) (fun _ => ?_)
    | with_reducible refine po_bind_cond (fun _ => ?_) (fun _ => ?_)
    | with_reducible refine po_bl (fun _ _ => ?_))
theorem tn_d_termOf_159 {K5 : (Nat → Int32) → (Nat → Nat → Int32) → (Nat → Nat → Int64) → Int32 → Int32 → Int32 → Option (Int32 × (Nat → Int32) × (Nat → Nat → Int32) × (Nat → Nat → Int64))} {n : Nat} {F : Nat → Int32} {A : Nat → Nat → Int32} {J : Nat → Nat → Int64} {x2 : Int32} {x3 : Int32} {x4 : Int32} (hK5 : ∀ (a0 : Nat → Int32) (a1 : Nat → Nat → Int32) (a2 : Nat → Nat → Int64) (a3 : Int32) (a4 : Int32) (a5 : Int32), TNx Fr Ar a0 a1 → po (K5 a0 a1 a2 a3 a4 a5) (fun r => TNx Fr Ar r.2.1 r.2.2.1)) (h : TNx Fr Ar F A) : po (d_termOf_159 K5 n F A J x2 x3 x4) (fun r => TNx Fr Ar r.2.1 r.2.2.1) := by
  unfold d_termOf_159
  repeat' (first
    | with_reducible exact po_some (by assumption)
    | (with_reducible refine tn_pz (by assumption) ?_; intro _ _)
    | (with_reducible refine tn_st (by assumption) (by decide) ?_; intro _ _)
    | with_reducible exact hK5 _ _ _ _ _ _ (by assumption)
    | (intros; with_reducible exact hK5 _ _ _ _ _ _ (by assumption))
    | with_reducible refine po_cond (fun _ => ?_) (fun _ => ?_)
    | with_reducible refine po_bind_cond (fun _ => ?_) (fun _ => ?_)
    | with_reducible refine po_bl (fun _ _ => ?_))
theorem tn_d_termOf_58 {K5 : (Nat → Int32) → (Nat → Nat → Int32) → (Nat → Nat → Int64) → Int32 → Int32 → Int32 → Option (Int32 × (Nat → Int32) × (Nat → Nat → Int32) × (Nat → Nat → Int64))} {n : Nat} {F : Nat → Int32} {A : Nat → Nat → Int32} {J : Nat → Nat → Int64} {x2 : Int32} {x3 : Int32} {x4 : Int32} {s1 : Int32} {s2 : Int32} (hK5 : ∀ (a0 : Nat → Int32) (a1 : Nat → Nat → Int32) (a2 : Nat → Nat → Int64) (a3 : Int32) (a4 : Int32) (a5 : Int32), TNx Fr Ar a0 a1 → po (K5 a0 a1 a2 a3 a4 a5) (fun r => TNx Fr Ar r.2.1 r.2.2.1)) (h : TNx Fr Ar F A) : po (d_termOf_58 K5 n F A J x2 x3 x4 s1 s2) (fun r => TNx Fr Ar r.2.1 r.2.2.1) := by
  unfold d_termOf_58
  repeat' (first
    | with_reducible exact po_some (by assumption)
    | (with_reducible refine tn_pz (by assumption) ?_; intro _ _)
    | (with_reducible refine tn_st (by assumption) (by decide) ?_; intro _ _)
    | with_reducible refine tn_d_termOf_159 ?_ (by assumption)
    | (with_reducible refine po_call (tn_d_termOf_159 ?_ (by assumption)) ?_)
    | with_reducible exact hK5 _ _ _ _ _ _ (by assumption)
    | (intros; with_reducible exact hK5 _ _ _ _ _ _ (by assumption))
    | with_reducible refine po_cond (fun _ => ?_) (fun _ => ?_)
    | with_reducible refine po_bind_cond (fun _ => ?_) (fun _ => ?_)
    | with_reducible refine po_bl (fun _ _ => ?_))
theorem tn_d_termOf_5   : ∀ {n : Nat} {F : Nat → Int32} {A : Nat → Nat → Int32} {J : Nat → Nat → Int64} {x2 : Int32} {x3 : Int32} {x4 : Int32}, TNx Fr Ar F A → po (d_termOf_5  n F A J x2 x3 x4) (fun r => TNx Fr Ar r.2.1 r.2.2.1) := by
  intro n
  induction n with
  | zero => intro F A J x2 x3 x4 _ r hr; cases hr
  | succ n ih =>
    intro F A J x2 x3 x4 h
    unfold d_termOf_5
    repeat' (first
      | with_reducible exact po_some (by assumption)
      | (with_reducible refine tn_pz (by assumption) ?_; intro _ _)
      | (with_reducible refine tn_st (by assumption) (by decide) ?_; intro _ _)
      | with_reducible refine tn_d_termOf_104 ?_ (by assumption)
      | (with_reducible refine po_call (tn_d_termOf_104 ?_ (by assumption)) ?_)
      | with_reducible refine tn_d_termOf_159 ?_ (by assumption)
      | (with_reducible refine po_call (tn_d_termOf_159 ?_ (by assumption)) ?_)
      | with_reducible refine tn_d_termOf_58 ?_ (by assumption)
      | (with_reducible refine po_call (tn_d_termOf_58 ?_ (by assumption)) ?_)
      | with_reducible exact ih (by assumption)
      | (with_reducible refine po_call (ih (by assumption)) ?_; rintro ⟨_, _, _, _⟩ _; try dsimp only)
      | (intros; with_reducible exact ih (by assumption))
      | with_reducible refine po_cond (fun _ => ?_) (fun _ => ?_)
      | with_reducible refine po_bind_cond (fun _ => ?_) (fun _ => ?_)
      | with_reducible refine po_bl (fun _ _ => ?_))
theorem tn_d_termOf {n : Nat} {F : Nat → Int32} {A : Nat → Nat → Int32} {J : Nat → Nat → Int64} {x1 : Int32} {x2 : Int32}  (h : TNx Fr Ar F A) : po (d_termOf n F A J x1 x2) (fun r => TNx Fr Ar r.2.1 r.2.2.1) := by
  unfold d_termOf
  repeat' (first
    | with_reducible exact po_some (by assumption)
    | (with_reducible refine tn_pz (by assumption) ?_; intro _ _)
    | (with_reducible refine tn_st (by assumption) (by decide) ?_; intro _ _)
    | with_reducible exact tn_d_termOf_5 (by assumption)
    | (with_reducible refine po_call (tn_d_termOf_5 (by assumption)) ?_; rintro ⟨_, _, _, _⟩ _; try dsimp only)
    | with_reducible refine po_cond (fun _ => ?_) (fun _ => ?_)
    | with_reducible refine po_bind_cond (fun _ => ?_) (fun _ => ?_)
    | with_reducible refine po_bl (fun _ _ => ?_))
theorem tn_d_tells_211 {n : Nat} {F : Nat → Int32} {A : Nat → Nat → Int32} {J : Nat → Nat → Int64} {x1 : Int32} {x3 : Int32} {x6 : Int32}  (h : TNx Fr Ar F A) : po (d_tells_211 n F A J x1 x3 x6) (fun r => TNx Fr Ar r.2.1 r.2.2.1) := by
  unfold d_tells_211
  repeat' (first
    | with_reducible exact po_some (by assumption)
    | (with_reducible refine tn_pz (by assumption) ?_; intro _ _)
    | (with_reducible refine tn_st (by assumption) (by decide) ?_; intro _ _)
    | with_reducible exact tn_d_termOf (by assumption)
    | (with_reducible refine po_call (tn_d_termOf (by assumption)) ?_; rintro ⟨_, _, _, _⟩ _; try dsimp only)
    | with_reducible refine po_cond (fun _ => ?_) (fun _ => ?_)
    | with_reducible refine po_bind_cond (fun _ => ?_) (fun _ => ?_)
    | with_reducible refine po_bl (fun _ _ => ?_))
theorem tn_d_tells_130   : ∀ {n : Nat} {F : Nat → Int32} {A : Nat → Nat → Int32} {J : Nat → Nat → Int64} {x1 : Int32} {x3 : Int32} {x5 : Int32} {x6 : Int32}, TNx Fr Ar F A → po (d_tells_130  n F A J x1 x3 x5 x6) (fun r => TNx Fr Ar r.2.1 r.2.2.1) := by
  intro n
  induction n with
  | zero => intro F A J x1 x3 x5 x6 _ r hr; cases hr
  | succ n ih =>
    intro F A J x1 x3 x5 x6 h
    unfold d_tells_130
    repeat' (first
      | with_reducible exact po_some (by assumption)
      | (with_reducible refine tn_pz (by assumption) ?_; intro _ _)
      | (with_reducible refine tn_st (by assumption) (by decide) ?_; intro _ _)
      | with_reducible exact tn_d_tells_211 (by assumption)
      | (with_reducible refine po_call (tn_d_tells_211 (by assumption)) ?_; rintro ⟨_, _, _, _⟩ _; try dsimp only)
      | with_reducible exact tn_d_termOf (by assumption)
      | (with_reducible refine po_call (tn_d_termOf (by assumption)) ?_; rintro ⟨_, _, _, _⟩ _; try dsimp only)
      | with_reducible exact ih (by assumption)
      | (with_reducible refine po_call (ih (by assumption)) ?_; rintro ⟨_, _, _, _⟩ _; try dsimp only)
      | (intros; with_reducible exact ih (by assumption))
      | with_reducible refine po_cond (fun _ => ?_) (fun _ => ?_)
      | with_reducible refine po_bind_cond (fun _ => ?_) (fun _ => ?_)
      | with_reducible refine po_bl (fun _ _ => ?_))
theorem tn_d_tells {n : Nat} {F : Nat → Int32} {A : Nat → Nat → Int32} {J : Nat → Nat → Int64} {x1 : Int32} {x2 : Int32}  (h : TNx Fr Ar F A) : po (d_tells n F A J x1 x2) (fun r => TNx Fr Ar r.2.1 r.2.2.1) := by
  unfold d_tells
  repeat' (first
    | with_reducible exact po_some (by assumption)
    | (with_reducible refine tn_pz (by assumption) ?_; intro _ _)
    | (with_reducible refine tn_st (by assumption) (by decide) ?_; intro _ _)
    | with_reducible exact tn_d_tells_130 (by assumption)
    | (with_reducible refine po_call (tn_d_tells_130 (by assumption)) ?_; rintro ⟨_, _, _, _⟩ _; try dsimp only)
    | with_reducible refine po_cond (fun _ => ?_) (fun _ => ?_)
    | with_reducible refine po_bind_cond (fun _ => ?_) (fun _ => ?_)
    | with_reducible refine po_bl (fun _ _ => ?_))
end H9ez3a
end Qz137
section Qz138
section H9ez4
variable {n m : Nat} {h q r r' j : Nat} {t s b k l N x nm : Int} {ex : Prop} {P : Nat → Nat → Nat} {F F' : Nat → Nat → Int32} {A A' A1 A2 : Nat → Nat → Nat → Int32} {J : Nat → Nat → Nat → Int64} {Fm Fm' Fm1 : Nat → Int32} {Am Am' Am1 Am2 : Nat → Nat → Int32} {Jm : Nat → Nat → Int64} {x1 x2 x3 x4 x5 y1 y2 y3 y4 : Int32}
/-- the tool of the step that a man does, in the reference -/
def TUm (Fm : Nat → Int32) (Am : Nat → Nat → Int32) (m : Int) : Int := ai Am 27 (6 * (6 * (Fm 18).toInt + ai Am 48 (42 + m)) + ai Am 53 m)
theorem v_inUse2 (hs : 0 ≤ (Fm 18).toInt ∧ (Fm 18).toInt ≤ 1) (hm : ai Am 29 (Fm 18).toInt ≤ 6) (hB : ∀ m, 0 ≤ m → m < ai Am 29 (Fm 18).toInt → ai Am 50 m = 2 → (0 ≤ ai Am 48 (42 + m) ∧ ai Am 48 (42 + m) ≤ 6) ∧ (0 ≤ ai Am 53 m ∧ ai Am 53 m ≤ 6)) : ∀ {n : Nat} {x3 : Int32}, 0 ≤ x3.toInt → po (d_isInUse_2 n Fm Am Jm x1 x2 x3) (fun v => (v.toInt = 1 ∧ ∃ m, 0 ≤ m ∧ m < ai Am 29 (Fm 18).toInt ∧ m ≠ x2.toInt ∧ ai Am 50 m = 2 ∧ TUm Fm Am m = x1.toInt) ∨ (v.toInt = 0 ∧ ∀ m, x3.toInt ≤ m → m < ai Am 29 (Fm 18).toInt → m ≠ x2.toInt → ai Am 50 m = 2 → TUm Fm Am m ≠ x1.toInt)) := by
  intro n
  induction n with
  | zero => intro x3 _ r hr; cases hr
  | succ n ih =>
    intro x3 h0
    unfold d_isInUse_2
    refine po_call v_menNow ?_
    intro v1 e1
    refine po_cond (fun c => po_some (.inr ⟨i_0, fun m m0 m1 => ?_⟩)) (fun c => ?_)
    · rw [i_ge] at c
      omega
    rw [i_nge] at c
    have e3 := i_add (x := x3) (y := 1) (by rw [i_1]; omega) (by rw [i_1]; omega)
    rw [i_1] at e3
    have go : ∀ (p : (x3.toInt ≠ x2.toInt → ai Am 50 x3.toInt = 2 → TUm Fm Am x3.toInt ≠ x1.toInt)), po (d_isInUse_55 (d_isInUse_2 n) n Fm Am Jm x1 x2 x3) (fun v => (v.toInt = 1 ∧ ∃ m, 0 ≤ m ∧ m < ai Am 29 (Fm 18).toInt ∧ m ≠ x2.toInt ∧ ai Am 50 m = 2 ∧ TUm Fm Am m = x1.toInt) ∨ (v.toInt = 0 ∧ ∀ m, x3.toInt ≤ m → m < ai Am 29 (Fm 18).toInt → m ≠ x2.toInt → ai Am 50 m = 2 → TUm Fm Am m ≠ x1.toInt)) := fun p => by
      unfold d_isInUse_55
      refine po_mono (ih (by omega)) (fun v hv => hv.imp id (fun hv => ⟨hv.1, fun m m0 m1 => ?_⟩))
      by_cases e : m = x3.toInt
      · rw [e]
        exact p
      · exact hv.2 m (by omega) m1
    refine po_cond (fun c2 => ?_) (fun c2 => ?_)
    · rw [i_eq] at c2
      exact go (fun h => absurd c2 h)
    rw [i_neq] at c2
    refine po_bl (fun v4 h4 => ?_)
    have g4 := (gm h4).2.2
    refine po_cond (fun c4 => ?_) (fun c4 => ?_)
    · rw [i_ne, show (2 : Int32).toInt = 2 by decide] at c4
      exact go (fun _ h => by omega)
    rw [i_nne, show (2 : Int32).toInt = 2 by decide] at c4
    refine po_bl (fun v6 h6 => po_bl (fun v7 h7 => ?_))
    have i42 := kx1 (c := 42) (x := x3) (k := 42) (by decide) (by decide) (by omega)
    have g6 := (gm h6).2.2
    have g7 := (gm h7).2.2
    rw [i42] at g6
    obtain ⟨b1, b2⟩ := hB x3.toInt h0 (by omega) (by omega)
    refine po_call (v_stepAt hs (by omega) (by omega)) ?_
    intro v8 e8
    refine po_bl (fun v9 h9 => ?_)
    have g9 := (gm h9).2.2
    have tl : v9.toInt = TUm Fm Am x3.toInt := by
      unfold TUm
      rw [g9, e8, g6, g7]
    refine po_cond (fun c9 => ?_) (fun c9 => ?_)
    · rw [i_ne] at c9
      exact go (fun _ _ h => c9 (by omega))
    · rw [i_nne] at c9
      exact po_some (.inl ⟨i_1, x3.toInt, h0, by omega, c2, by omega, by omega⟩)
/-- who does a step, on both sides -/
theorem MNx.d2 {m : Int} (M : MNx N h A Am k l m) : (ai Am 50 m = 2 → 0 ≤ ai Am 48 (42 + m) ∧ ci A 36 4 m = ai Am 53 m ∧ 0 ≤ ai Am 53 m ∧ ai Am 53 m < ci A h 5 (ai Am 48 (42 + m))) ∧ (0 ≤ ci A 36 4 m → ai Am 50 m = 2) := by
  obtain ⟨-, -, M⟩ := M
  rcases M with ⟨m1, m2, m3, m4, m5, m6⟩ | ⟨m1, m2, m3, m4, M⟩
  · exact ⟨fun h => by omega, fun h => by omega⟩
  · rcases M with ⟨a, b, c, d⟩ | ⟨a, b, c, d, e, f⟩ | ⟨a, b, c⟩
    · exact ⟨fun h => by omega, fun h => by omega⟩
    · exact ⟨fun _ => ⟨m1, c, d, e⟩, fun _ => a⟩
    · exact ⟨fun h => by omega, fun h => by omega⟩
/-- the tool of a man's step, on both sides -/
theorem tl_eq {m : Int} (H : NHx h F A Fm Am) (S : SBx ex h q F A Am 48 0) (m0 : 0 ≤ m) (m1 : m < (F h 17).toInt) (D : 0 ≤ ai Am 48 (42 + m) ∧ ci A 36 4 m = ai Am 53 m ∧ 0 ≤ ai Am 53 m ∧ ai Am 53 m < ci A h 5 (ai Am 48 (42 + m))) : ai Am 48 (42 + m) < (F h 16).toInt ∧ ci A q 3 m / 6 = ai Am 48 (42 + m) ∧ NNx (TUc h q A m) (TUm Fm Am m) := by
  obtain ⟨d1, d2, d3, d4⟩ := D
  obtain ⟨s1, -⟩ := S.mn m0 m1
  rcases s1 with ⟨-, e, -⟩ | ⟨t0, t1, u0, u1, e⟩
  · omega
  have s6 := H.s6 t0
  have e6 : ci A q 3 m / 6 = ai Am 48 (42 + m) := by omega
  refine ⟨t1, e6, ?_⟩
  unfold TUc TUm
  rw [e6, d2]
  exact (H.row t0 t1 d3 d4).2.2.2.2.1
/-- both sides ask whether a tool is in use -/
theorem in_use {v : Int} (H : NHx h F A Fm Am) (S : SBx ex h q F A Am 48 0) (C : CVx h q (F h 17).toInt A) (D : ∀ m, 0 ≤ m → m < (F h 17).toInt → (ai Am 50 m = 2 → 0 ≤ ai Am 48 (42 + m) ∧ ci A 36 4 m = ai Am 53 m ∧ 0 ≤ ai Am 53 m ∧ ai Am 53 m < ci A h 5 (ai Am 48 (42 + m))) ∧ (0 ≤ ci A 36 4 m → ai Am 50 m = 2)) (v0 : 0 ≤ v) (v6 : v < 6) (d0 : ci A 36 4 x = -1) : ci A 36 8 v ≠ 0 ↔ ∃ m, 0 ≤ m ∧ m < (F h 17).toInt ∧ m ≠ x ∧ ai Am 50 m = 2 ∧ TUm Fm Am m = v := by
  constructor
  · intro hne
    rcases C.1 v v0 v6 with e | ⟨m, m0, m1, hd, ht⟩
    · exact absurd e hne
    · obtain ⟨D1, D2⟩ := D m m0 m1
      have e2 := D2 hd
      obtain ⟨-, -, nn⟩ := tl_eq H S m0 m1 (D1 e2)
      refine ⟨m, m0, m1, fun e => by rw [e, d0] at hd; omega, e2, ?_⟩
      rcases nn with e | ⟨e, -⟩ <;> omega
  · rintro ⟨m, m0, m1, hm, e2, ht⟩
    obtain ⟨D1, D2⟩ := D m m0 m1
    have dd := D1 e2
    obtain ⟨-, -, nn⟩ := tl_eq H S m0 m1 dd
    have e : TUc h q A m = v := by rcases nn with e | ⟨-, e⟩ <;> omega
    have := (C.2.1 m m0 m1 (by omega) (by omega)).1
    rw [e] at this
    exact this
/-- a man who is there and does nothing, at minute k -/
theorem p2_begin (H : NHx h F A Fm Am) (hq : c_kind q = 2) (e8 : P 36 8 = h) (e9 : P 36 9 = q) (S : SBx ex h q F A Am 48 0) (C : CVx h q (F h 17).toInt A) (MM : ∀ m, 0 ≤ m → m < (F h 17).toInt → ∃ k', MNx N h A Am k' (k + 1) m) (M : MNx N h A Am k (k + 1) x) (x0 : 0 ≤ x) (x6 : x < (F h 17).toInt) (h50 : ai Am 50 x = 1) (hf : ai Am 51 x ≤ k) (k0 : 0 ≤ k) (kN : k < N) (hN : N ≤ 600) (e1 : x1.toInt = x) (f1 : y1.toInt = x) (e2 : x2.toInt = k) (f2 : y2.toInt = k) : P2 (e_Sleep_begin n P F A J x1 x2) (d_begins1 m Fm Am Jm y1 y2) (BGx ex h q N k x P F A Fm Am) := by
  have ct := H.ct
  have hs := H.sd
  have hk := H.kd
  have hne : h ≠ q := k62 hk hq
  have h36 : h ≠ 36 := k6ne hk
  have q36 : q ≠ 36 := k2ne hq
  have exy : x2 = y2 := i_ext (by omega)
  obtain ⟨M6, M7, M⟩ := M
  have MA : 0 ≤ ai Am 48 (42 + x) ∧ ci A 36 5 x = ai Am 54 x ∧ 0 ≤ ai Am 54 x ∧ ai Am 54 x < ci A h 5 (ai Am 48 (42 + x)) ∧ ai Am 56 x = 0 ∧ ci A 36 4 x = -1 ∧ ci A 36 3 x = k := by
    rcases M with ⟨m1, m2, m3, m4, m5, m6⟩ | ⟨m1, m2, m3, m4, M⟩
    · omega
    · rcases M with ⟨a, b, c, d⟩ | ⟨a, b, c, d, e, f⟩ | ⟨a, b, c⟩
      · exact ⟨m1, m2, m3, m4, b, c, by omega⟩
      · omega
      · omega
  obtain ⟨t0, el5, u0, u1, be0, d0, due⟩ := MA
  obtain ⟨t, et⟩ : ∃ t, ai Am 48 (42 + x) = t := ⟨_, rfl⟩
  obtain ⟨u, eu⟩ : ∃ u, ai Am 54 x = u := ⟨_, rfl⟩
  rw [et] at t0 u1
  rw [eu] at u0 u1 el5
  have LY : LYx h A Am x := ⟨M6, M7, by omega, by omega, by omega, by rw [et]; omega, d0⟩
  have t1 : t < (F h 16).toInt ∧ ci A q 3 x / 6 = t ∧ 0 ≤ ci A q 3 x := by
    obtain ⟨s1, -⟩ := S.mn x0 x6
    rw [et] at s1
    rcases s1 with ⟨-, e, -⟩ | ⟨_, t1, w0, w1, e⟩
    · omega
    · have s6 := H.s6 t0
      exact ⟨t1, by omega, by omega⟩
  obtain ⟨t1, eq6, eq0⟩ := t1
  have s6 := H.s6 t0
  have DD : ∀ m, 0 ≤ m → m < (F h 17).toInt → (ai Am 50 m = 2 → 0 ≤ ai Am 48 (42 + m) ∧ ci A 36 4 m = ai Am 53 m ∧ 0 ≤ ai Am 53 m ∧ ai Am 53 m < ci A h 5 (ai Am 48 (42 + m))) ∧ (0 ≤ ci A 36 4 m → ai Am 50 m = 2) := fun m m0 m1 => by
    obtain ⟨k', w⟩ := MM m m0 m1
    exact w.d2
  have i42 := kx1 (c := 42) (x := y1) (k := 42) (by decide) (by decide) (by omega)
  unfold e_Sleep_begin d_begins1
  refine p2_bl (fun _ hk => ?_)
  obtain rfl := (gg_chk hk).2.symm
  try rw [e9]
  refine p2_bl (fun v2 h2 => p2_bl (fun v3 h3 => p2_bl (fun _ hk => ?_)))
  obtain rfl := (gg_chk hk).2.symm
  try rw [e8]
  refine p2_bl (fun _ hk => ?_)
  obtain rfl := (gg_chk hk).2.symm
  try rw [e9]
  refine p2_br (fun w1 k1 => ?_)
  have g2 := (gl h2).2.2
  rw [e1] at g2
  have g3 : v3.toInt = t := by rw [gg_div6 h3, i_div6 (by omega), g2, eq6]
  have a1 := (gm k1).2.2
  rw [i42, f1, et] at a1
  refine p2_call (p2_ended H S t0 t1 a1 g3) ?_
  rintro v6 _ ⟨rfl, alt⟩
  rcases alt with hv | ⟨hv, -⟩
  · -- the task is ended
    obtain rfl : v6 = 1 := i_ext (by rw [hv]; decide)
    refine p2_cl (fun _ => ?_) (fun c => absurd c (by decide))
    refine p2_cr (fun c => absurd c (by decide)) (fun _ => ?_)
    unfold e_Sleep_begin_44
    refine p2_cl (fun c => absurd c (by decide)) (fun _ => ?_)
    unfold e_Sleep_begin_59
    refine p2_bl (fun A49 h49 => ?_)
    refine p2_br (fun B13 k13 => ?_)
    have U := (gg_cst h49).2.2
    have M := gg_st k13
    rw [e1] at U
    rw [f1] at M
    have v1 : (vp_nar .boolean 1).toInt = 1 := by decide
    rw [v1] at M
    rw [i_1] at U
    have H' : NHx h F A49 Fm B13 := H.fr (fun _ => rfl) (fun o _ => U.2.2 h o (fun e => h36 e.1)) rfl (fun q _ _ => M.2.2.1 q (by omega))
    have S' : SBx ex h q F A49 B13 48 0 := S.cg rfl rfl (U.2.2 h 5 (fun e => h36 e.1)) (fun o _ _ => U.2.2 q o (fun e => q36 e.1)) (M.2.2.1 48 (by decide))
    have C' : CVx h q (F h 17).toInt A49 := C.cg (U.2.2 h 10 (fun e => h36 e.1)) (U.2.2 h 4 (fun e => h36 e.1)) (U.2.2 q 3 (fun e => q36 e.1)) (U.2.2 q 4 (fun e => q36 e.1)) (U.2.2 36 4 (fun e => absurd e.2 (by decide))) (U.2.2 36 8 (fun e => absurd e.2 (by decide)))
    have L' : LYx h A49 B13 x := by
      obtain ⟨l1, l2, l4, l5, l6, l7, l8⟩ := LY
      unfold LYx
      rw [ci_fr (U.2.2 36 6 (fun e => absurd e.2 (by decide))), U.1, ci_fr (U.2.2 36 5 (fun e => absurd e.2 (by decide))), ci_fr (U.2.2 36 4 (fun e => absurd e.2 (by decide))), ci_fr (U.2.2 h 5 (fun e => h36 e.1)), ai_fr (M.2.2.1 55 (by decide)), M.2.2.2.1, ai_fr (M.2.2.1 48 (by decide)), ai_fr (M.2.2.1 54 (by decide))]
      exact ⟨l1, ⟨rfl, .inr rfl⟩, l4, l5, l6, l7, l8⟩
    refine p2_call (p2_lie (k := k) H'.kd hq (by omega) e9 S' C' L' x0 (by omega) (N := N) (by omega) e1 f1 exy) ?_
    rintro ⟨_, P51, F52, A53, J54⟩ ⟨_, F15, A16, J17⟩ B
    refine p2_some (BGx.go (A1 := A49) (Fm1 := Fm) (Am1 := B13) (FBx.s36 U (.inr (.inr rfl))) ⟨fun _ _ => rfl, fun j hj => M.2.2.1 j (fun e => hj (by rw [e]; decide)), fun j hj m m0 hm => ?_, fun i _ _ => by rw [ai_fr (M.2.2.1 48 (by decide))]⟩ B)
    by_cases e : j = 56
    · subst e
      exact M.2.2.2.2 m m0 hm
    · rw [ai_fr (M.2.2.1 j e)]
  · -- it is not
    obtain rfl : v6 = 0 := i_ext (by rw [hv]; decide)
    refine p2_cl (fun c => absurd c (by decide)) (fun _ => ?_)
    refine p2_cr (fun _ => ?_) (fun c => absurd c (by decide))
    refine p2_bl (fun _ hk => ?_)
    obtain rfl := (gg_chk hk).2.symm
    try rw [e9]
    refine p2_bl (fun v9 h9 => ?_)
    have g9 := (gl h9).2.2
    rw [g3] at g9
    have sf := S.sf t0 (by omega)
    refine p2_cl (fun c => ?_) (fun c => ?_)
    · -- there is stuff
      rw [i_gt, i_0] at c
      refine p2_call (p2_chosen (n := n) (m := m) (J := J) (Jm := Jm) H S hq e8 e9 x0 x6 t0 t1 u0 u1 et eu el5 M6 e1 f1 g3 exy) ?_
      rintro ⟨v11, P12, F13, A14, J15⟩ ⟨w4, Fm5, A6, Jm7⟩ ⟨e11, ⟨c0, c1⟩, ⟨eP, eF, oA⟩, oF, oB⟩
      dsimp only at e11 c0 c1 eP eF oA oF oB ⊢
      subst e11
      rw [eP, eF]
      have aq : ∀ o, A14 q o = A q o := fun o => oA q o (fun e => q36 e.1) (fun e => hne e.1.symm)
      have ah : ∀ o, o ≠ 17 → A14 h o = A h o := fun o ho => oA h o (fun e => h36 e.1) (fun e => ho e.2)
      have a36 : ∀ o, o ≠ 9 → A14 36 o = A 36 o := fun o ho => oA 36 o (fun e => ho e.2) (fun e => h36 e.1.symm)
      have H' : NHx h F A14 Fm5 A6 := H.fr (fun _ => rfl) ah (oF 18 (by decide)) (fun q _ _ => oB q (by omega) (by omega))
      have S' : SBx ex h q F A14 A6 48 0 := S.cg rfl rfl (ah 5 (by decide)) (fun o _ _ => aq o) (oB 48 (by decide) (by decide))
      have C' : CVx h q (F h 17).toInt A14 := C.cg (ah 10 (by decide)) (ah 4 (by decide)) (aq 3) (aq 4) (a36 4 (by decide)) (a36 8 (by decide))
      have L' : LYx h A14 A6 x := by
        unfold LYx
        rw [ci_fr (a36 6 (by decide)), ci_fr (a36 7 (by decide)), ci_fr (a36 5 (by decide)), ci_fr (a36 4 (by decide)), ci_fr (ah 5 (by decide)), ai_fr (oB 55 (by decide) (by decide)), ai_fr (oB 56 (by decide) (by decide)), ai_fr (oB 48 (by decide) (by decide)), ai_fr (oB 54 (by decide) (by decide))]
        exact LY
      have D' : ∀ m, 0 ≤ m → m < (F h 17).toInt → (ai A6 50 m = 2 → 0 ≤ ai A6 48 (42 + m) ∧ ci A14 36 4 m = ai A6 53 m ∧ 0 ≤ ai A6 53 m ∧ ai A6 53 m < ci A14 h 5 (ai A6 48 (42 + m))) ∧ (0 ≤ ci A14 36 4 m → ai A6 50 m = 2) := fun m m0 m1 => by
        rw [ci_fr (a36 4 (by decide)), ci_fr (ah 5 (by decide)), ai_fr (oB 50 (by decide) (by decide)), ai_fr (oB 48 (by decide) (by decide)), ai_fr (oB 53 (by decide) (by decide))]
        exact DD m m0 m1
      have go : ∀ {a : cR Unit} {b : mR Unit}, BGx ex h q N k x P F A14 Fm5 A6 a b → BGx ex h q N k x P F A Fm Am a b := fun {a b} B => BGx.go ⟨fun r o h1 _ h3 => oA r o (fun e => h1 ⟨e.1, by rw [e.2]; simp⟩) h3, fun o ho m _ _ => by rw [ci_fr (a36 o (by omega))]⟩ ⟨oF, fun j hj => oB j (fun e => hj (by rw [e]; decide)) (fun e => hj (by rw [e]; decide)), fun j hj m _ _ => by rw [ai_fr (oB j (by omega) (by omega))], fun i _ _ => by rw [ai_fr (oB 48 (by decide) (by decide))]⟩ B
      have hs' := H'.sd
      refine p2_mono (R := BGx ex h q N k x P F A14 Fm5 A6) ?_ (fun a b B => go B)
      refine p2_r (v_stepAt hs' (by omega) (by omega)) ?_
      intro w8 q8
      refine p2_bl (fun _ hk => ?_)
      obtain rfl := (gg_chk hk).2.symm
      try rw [e8]
      refine p2_bl (fun v17 h17 => p2_br (fun w9 k9 => ?_))
      have c1' : v11.toInt < ci A14 h 5 t := by rw [ci_fr (ah 5 (by decide))]; exact c1
      have cx := cx6 (x := v3) (y := v11) (by omega) (by omega)
      have g17 := (gl h17).2.2
      rw [cx, g3] at g17
      have a9 := (gm k9).2.2
      rw [q8, a1] at a9
      have nn := (H'.row t0 t1 c0 c1').2.2.2.2.1
      rw [← g17, ← a9] at nn
      have v5 := (H'.hy.2.2.1 t v11.toInt t0 t1 c0 c1').2.2.2.2.1
      rw [← g17] at v5
      have et' : ai A6 48 (42 + x) = t := by rw [ai_fr (oB 48 (by decide) (by decide))]; exact et
      have el' : ci A14 q 3 x / 6 = t := by rw [ci_fr (aq 3)]; exact eq6
      have hf' : ai A6 51 x ≤ k := by rw [ai_fr (oB 51 (by decide) (by decide))]; exact hf
      have be' : ai A6 56 x = 0 := by rw [ai_fr (oB 56 (by decide) (by decide))]; exact be0
      have st' : 0 < ci A14 q 2 t := by rw [ci_fr (aq 2)]; omega
      have d0' : ci A14 36 4 x = -1 := by rw [ci_fr (a36 4 (by decide))]; exact d0
      have w31 : ∀ {v : Int32}, m_ld (A6 48) 100 w1 = some v → v.toInt = ci A14 q 2 t := fun {v} h => by
        rw [(gm h).2.2, a1]
        exact ((S'.sf t0 (by omega)).1).symm
      -- the tool is there, or none is wanted
      refine p2_cl (fun c7 => ?_) (fun c7 => ?_)
      · rw [i_lt, i_0] at c7
        refine p2_cr (fun _ => ?_) (fun c8 => ?_)
        · unfold d_begins1_76 d_begins1_81
          refine p2_br (fun w18 k18 => ?_)
          have z18 := w31 k18
          refine p2_cr (fun c9 => ?_) (fun _ => ?_)
          · rw [i_eq, i_0] at c9
            omega
          refine p2_cr (fun _ => ?_) (fun c9 => absurd c9 (by decide))
          unfold d_begins1_131
          refine p2_cr (fun _ => ?_) (fun c9 => absurd c9 (by decide))
          exact p2_go (v := v17.toInt) H' hq e8 e9 S' L' be' hf' x0 x6 t0 t1 c0 c1' et' el' st' g17.symm k0 (by omega) e1 f1 e2 f2 g3 a1 rfl rfl (fun {A'} z1 z2 z3 z4 z5 z6 z7 => C'.beg (v := v17.toInt) x0 x6 z1 z2 z3 z4 d0' z5 (by unfold TUc; rw [ci_fr z1, ci_fr z3, el', z6]; exact g17.symm) (by omega) (.inl ⟨c7, z7⟩))
        · rw [i_nlt, i_0] at c8
          rcases nn with e | ⟨-, e⟩ <;> omega
      · rw [i_nlt, i_0] at c7
        have w9v : w9.toInt = v17.toInt := by rcases nn with e | ⟨e, -⟩ <;> omega
        refine p2_cr (fun c8 => ?_) (fun _ => ?_)
        · rw [i_lt, i_0] at c8
          omega
        refine p2_bl (fun _ hk => ?_)
        obtain rfl := (gg_chk hk).2.symm
        try rw [e9]
        refine p2_bl (fun v20 h20 => p2_br (fun w11 k11 => ?_))
        have g20 := (gl h20).2.2
        have i72 := kx1 (c := 72) (x := w9) (k := 72) (by decide) (by decide) (by omega)
        have a11 := (gm k11).2.2
        rw [i72, w9v] at a11
        have tl := S'.tl (k := v17.toInt) c7 (by omega)
        have z20 : v20 = w11 := i_ext (by rw [g20, a11]; exact tl)
        have i100 := kx1 (c := 100) (x := x1) (k := 100) (by decide) (by decide) (by omega)
        have i100' := kx1 (c := 100) (x := y1) (k := 100) (by decide) (by decide) (by omega)
        -- the man begins with the tool, or waits for it
        have tool : ∀ {s0 : Int32} (hp : (s0 = 1 ∧ v20.toInt = 100 + x) ∨ (s0 = 0 ∧ v20.toInt ≠ 100 + x ∧ v20.toInt = ci A14 h 4 t)), P2 (e_Sleep_begin_140 n P F A14 J15 x1 x2 v3 v11 v17) (d_begins1_131 m Fm5 A6 Jm7 y1 y2 w1 v11 w9 s0) (BGx ex h q N k x P F A14 Fm5 A6) := fun {s0} hp => by
          have acc : ci A14 q 4 v17.toInt = 100 + x ∨ ci A14 q 4 v17.toInt = ci A14 h 4 (ci A14 q 3 x / 6) := by
            rw [← g20, el']
            rcases hp with ⟨-, e⟩ | ⟨-, -, e⟩
            · exact .inl e
            · exact .inr e
          have use := in_use (x := x) (v := v17.toInt) H' S' C' D' c7 (by omega) d0'
          unfold e_Sleep_begin_140 d_begins1_131
          refine p2_bl (fun v38 h38 => ?_)
          have g38 := (gl h38).2.2
          -- both begin
          have beg : v38.toInt = 0 → P2 ((c_st A14 36 8 6 v17 1).bind fun A40 => e_Sleep_begin_168 n P F A40 J15 x1 x2 v3 v11) (d_begins1_147 m Fm5 A6 Jm7 y1 y2 w1 v11) (BGx ex h q N k x P F A14 Fm5 A6) := fun h0 => by
            refine p2_bl (fun A40 h40 => ?_)
            have U := (gg_cst h40).2.2
            rw [i_1] at U
            have o : ∀ r o, ¬ (r = 36 ∧ o = 8) → A40 r o = A14 r o := U.2.2
            refine p2_mono (R := BGx ex h q N k x P F A40 Fm5 A6) ?_ (fun a b B => BGx.go (FBx.s8 U) FBm.rfl' B)
            refine p2_go (v := v17.toInt) (H'.fr (fun _ => rfl) (fun p _ => o h p (fun e => h36 e.1)) rfl (fun _ _ _ => rfl)) hq e8 e9 (S'.cg rfl rfl (o h 5 (fun e => h36 e.1)) (fun p _ _ => o q p (fun e => q36 e.1)) rfl) ?_ be' hf' x0 x6 t0 t1 c0 (by rw [ci_fr (o h 5 (fun e => h36 e.1))]; exact c1') et' (by rw [ci_fr (o q 3 (fun e => q36 e.1))]; exact el') (by rw [ci_fr (o q 2 (fun e => q36 e.1))]; exact st') (by rw [ci_fr (o h 10 (fun e => h36 e.1))]; exact g17.symm) k0 (by omega) e1 f1 e2 f2 g3 a1 rfl rfl (fun {A'} z1 z2 z3 z4 z5 z6 z7 => ?_)
            · unfold LYx
              rw [ci_fr (o 36 6 (by decide)), ci_fr (o 36 7 (by decide)), ci_fr (o 36 5 (by decide)), ci_fr (o 36 4 (by decide)), ci_fr (o h 5 (fun e => h36 e.1))]
              exact L'
            · refine C'.beg (v := v17.toInt) x0 x6 (z1.trans (o h 10 (fun e => h36 e.1))) (z2.trans (o h 4 (fun e => h36 e.1))) (z3.trans (o q 3 (fun e => q36 e.1))) (z4.trans (o q 4 (fun e => q36 e.1))) d0' (fun m m0 hm => by rw [z5 m m0 hm, ci_fr (o 36 4 (by decide))]) (by unfold TUc; rw [ci_fr z1, ci_fr z3, ci_fr (o h 10 (fun e => h36 e.1)), ci_fr (o q 3 (fun e => q36 e.1)), el', z6]; exact g17.symm) (by omega) (.inr ⟨c7, by omega, by rw [ci_fr z7, U.1]; decide, fun u u0 hu => by rw [ci_fr z7]; exact U.2.1 u u0 hu, acc⟩)
          rcases hp with ⟨rfl, hp⟩ | ⟨rfl, hp1, hp2⟩
          · -- he has it
            have free : v38.toInt = 0 := by
              rw [g38]
              refine Decidable.byContradiction (fun hne0 => ?_)
              obtain ⟨w, w0, w1', hd, ht⟩ := (C'.1 v17.toInt c7 (by omega)).resolve_left hne0
              obtain ⟨-, ac⟩ := C'.2.1 w w0 w1' hd (by omega)
              rw [ht, ← g20] at ac
              rcases ac with e | e
              · have : w = x := by omega
                rw [this, d0'] at hd
                omega
              · obtain ⟨tt1, tt2, -⟩ := tl_eq H' S' w0 w1' ((D' w w0 w1').1 ((D' w w0 w1').2 hd))
                have r := H'.hy.2.1 (ai A6 48 (42 + w)) ((D' w w0 w1').1 ((D' w w0 w1').2 hd)).1 tt1
                rw [tt2] at e
                omega
            refine p2_cl (fun _ => ?_) (fun c => ?_)
            · refine p2_cr (fun _ => beg free) (fun c => absurd c (by decide))
            · rw [i_neq, i_0] at c
              omega
          · -- it lies there
            refine p2_cr (fun c => absurd c (by decide)) (fun _ => ?_)
            have hm' := H'.men
            have inU : po (d_isInUse m Fm5 A6 Jm7 w9 y1) (fun v => (v.toInt = 1 ∧ ∃ m, 0 ≤ m ∧ m < ai A6 29 (Fm5 18).toInt ∧ m ≠ y1.toInt ∧ ai A6 50 m = 2 ∧ TUm Fm5 A6 m = w9.toInt) ∨ (v.toInt = 0 ∧ ∀ m, (0 : Int32).toInt ≤ m → m < ai A6 29 (Fm5 18).toInt → m ≠ y1.toInt → ai A6 50 m = 2 → TUm Fm5 A6 m ≠ w9.toInt)) := by
              unfold d_isInUse
              refine v_inUse2 hs' (by omega) (fun m m0 m1 h2 => ?_) (by decide)
              have d := (D' m m0 (by omega)).1 h2
              have tt := (tl_eq H' S' m0 (by omega) d).1
              have s6' := H'.s6 d.1
              exact ⟨⟨d.1, by omega⟩, d.2.2.1, by omega⟩
            refine p2_r inU ?_
            intro v29 hv29
            rw [f1, w9v, ← hm'] at hv29
            rcases hv29 with ⟨e, m', w0, w1', w2, w3, w4⟩ | ⟨e, no⟩
            · have hne0 := use.mpr ⟨m', w0, w1', w2, w3, w4⟩
              refine p2_cl (fun c => ?_) (fun _ => ?_)
              · rw [i_eq, i_0] at c
                omega
              refine p2_cr (fun c => ?_) (fun _ => ?_)
              · rw [i_eq, i_0] at c
                omega
              -- both wait
              refine p2_bl (fun A48 h48 => p2_some ?_)
              have U := (gg_cst h48).2.2
              have ek := i_add (x := x2) (y := 1) (by rw [i_1]; omega) (by rw [i_1]; omega)
              rw [i_1] at ek
              rw [e1, ek, e2] at U
              have o : ∀ r o, ¬ (r = 36 ∧ o = 3) → A48 r o = A14 r o := U.2.2
              obtain ⟨l1, l2, l4, l5, l6, l7, l8⟩ := L'
              refine ⟨⟨rfl, rfl⟩, FBx.s36 U (.inl rfl), FBm.rfl', S'.cg rfl rfl (o h 5 (fun e => h36 e.1)) (fun p _ _ => o q p (fun e => q36 e.1)) rfl, C'.cg (o h 10 (fun e => h36 e.1)) (o h 4 (fun e => h36 e.1)) (o q 3 (fun e => q36 e.1)) (o q 4 (fun e => q36 e.1)) (o 36 4 (by decide)) (o 36 8 (by decide)), ?_⟩
              show MNx N h A48 A6 (k + 1) (k + 1) x
              unfold MNx
              rw [ci_fr (o 36 6 (by decide)), ci_fr (o 36 7 (by decide)), ci_fr (o 36 5 (by decide)), ci_fr (o 36 4 (by decide)), ci_fr (o h 5 (fun e => h36 e.1)), U.1]
              refine ⟨l1, l2, .inr ⟨l4, l5, l6, l7, .inl ⟨?_, be', l8, .inl ⟨?_, rfl⟩⟩⟩⟩
              · rw [ai_fr (oB 50 (by decide) (by decide))]; exact h50
              · rw [ai_fr (oB 51 (by decide) (by decide))]; omega
            · have free : v38.toInt = 0 := by
                rw [g38]
                refine Decidable.byContradiction (fun hne0 => ?_)
                obtain ⟨w, w0, w1', w2, w3, w4⟩ := use.mp hne0
                exact no w (by rw [i_0]; exact w0) w1' w2 w3 w4
              refine p2_cl (fun _ => ?_) (fun c => ?_)
              · refine p2_cr (fun _ => beg free) (fun c => ?_)
                rw [i_neq, i_0] at c
                omega
              · rw [i_neq, i_0] at c
                omega
        by_cases eh : v20.toInt = 100 + x
        · refine p2_cl (fun _ => ?_) (fun c => ?_)
          · refine p2_cr (fun c => ?_) (fun _ => ?_)
            · rw [i_ne, i100', f1, ← z20] at c
              omega
            · unfold d_begins1_76 d_begins1_81
              refine p2_br (fun w18 k18 => ?_)
              have z18 := w31 k18
              refine p2_cr (fun c9 => ?_) (fun _ => ?_)
              · rw [i_eq, i_0] at c9
                omega
              refine p2_cr (fun _ => tool (.inl ⟨rfl, eh⟩)) (fun c9 => absurd c9 (by decide))
          · rw [i_neq, i100, e1] at c
            omega
        · refine p2_cl (fun c => ?_) (fun _ => ?_)
          · rw [i_eq, i100, e1] at c
            omega
          refine p2_cr (fun _ => ?_) (fun c => ?_)
          · refine p2_bl (fun _ hk => ?_)
            obtain rfl := (gg_chk hk).2.symm
            try rw [e8]
            refine p2_bl (fun v23 h23 => ?_)
            have g23 := (gl h23).2.2
            rw [g3] at g23
            unfold d_begins1_81
            refine p2_br (fun w18 k18 => ?_)
            have z18 := w31 k18
            refine p2_cr (fun c9 => ?_) (fun _ => ?_)
            · rw [i_eq, i_0] at c9
              omega
            refine p2_cr (fun c9 => absurd c9 (by decide)) (fun _ => ?_)
            refine p2_br (fun w21 k21 => p2_br (fun w22 k22 => ?_))
            have a21 := (gm k21).2.2
            have a22 := (gm k22).2.2
            rw [i72, w9v] at a21
            rw [ix6 hs' (by omega), a1] at a22
            have zr : v23.toInt = w22.toInt := by rw [g23, a22]; exact H'.rm t0 t1
            have zt : v20.toInt = w21.toInt := by rw [g20, a21]; exact tl
            refine p2_cl (fun c => ?_) (fun c => ?_)
            · rw [i_eq] at c
              refine p2_cr (fun _ => tool (.inr ⟨rfl, eh, by omega⟩)) (fun c2 => ?_)
              rw [i_neq] at c2
              omega
            · rw [i_neq] at c
              refine p2_cr (fun c2 => ?_) (fun _ => ?_)
              · rw [i_eq] at c2
                omega
              unfold d_begins1_124
              refine p2_call (p2_lie (k := k) H'.kd hq (by omega) e9 S' C' L' x0 (by omega) (N := N) (by omega) e1 f1 exy) ?_
              rintro ⟨_, P51, F52, A53, J54⟩ ⟨_, F15, A16, J17⟩ B
              exact p2_some B
          · rw [i_nne, i100', f1, ← z20] at c
            omega
    · -- there is none
      rw [i_ngt, i_0] at c
      unfold e_Sleep_begin_44
      refine p2_cl (fun _ => ?_) (fun c2 => absurd c2 (by decide))
      unfold e_Sleep_begin_59
      refine p2_bl (fun A49 h49 => ?_)
      have U := (gg_cst h49).2.2
      rw [e1, i_0] at U
      refine p2_r (tn_d_tells TNx.rfl') ?_
      rintro ⟨w4, Fm5, A6, Jm7⟩ ⟨oF, oB⟩
      dsimp only at oF oB ⊢
      have H' : NHx h F A49 Fm5 A6 := H.fr (fun _ => rfl) (fun o _ => U.2.2 h o (fun e => h36 e.1)) (oF 18 (by decide)) (fun q _ _ => oB q (by omega) (by omega))
      have S' : SBx ex h q F A49 A6 48 0 := S.cg rfl rfl (U.2.2 h 5 (fun e => h36 e.1)) (fun o _ _ => U.2.2 q o (fun e => q36 e.1)) (oB 48 (by decide) (by decide))
      have C' : CVx h q (F h 17).toInt A49 := C.cg (U.2.2 h 10 (fun e => h36 e.1)) (U.2.2 h 4 (fun e => h36 e.1)) (U.2.2 q 3 (fun e => q36 e.1)) (U.2.2 q 4 (fun e => q36 e.1)) (U.2.2 36 4 (fun e => absurd e.2 (by decide))) (U.2.2 36 8 (fun e => absurd e.2 (by decide)))
      have L' : LYx h A49 A6 x := by
        obtain ⟨l1, l2, l4, l5, l6, l7, l8⟩ := LY
        unfold LYx
        rw [ci_fr (U.2.2 36 6 (fun e => absurd e.2 (by decide))), U.1, ci_fr (U.2.2 36 5 (fun e => absurd e.2 (by decide))), ci_fr (U.2.2 36 4 (fun e => absurd e.2 (by decide))), ci_fr (U.2.2 h 5 (fun e => h36 e.1)), ai_fr (oB 55 (by decide) (by decide)), ai_fr (oB 56 (by decide) (by decide)), ai_fr (oB 48 (by decide) (by decide)), ai_fr (oB 54 (by decide) (by decide))]
        exact ⟨l1, ⟨be0.symm, .inl be0⟩, l4, l5, l6, l7, l8⟩
      have lie : P2 ((e_Sleep_lieDown P F A49 J x1 x2).bind fun (_, P51, F52, A53, J54) => some ((), P51, F52, A53, J54)) (d_begins1_124 m Fm5 A6 Jm7 y1 y2) (BGx ex h q N k x P F A Fm Am) := by
        unfold d_begins1_124
        refine p2_call (p2_lie (k := k) H'.kd hq (by omega) e9 S' C' L' x0 (by omega) (N := N) (by omega) e1 f1 exy) ?_
        rintro ⟨_, P51, F52, A53, J54⟩ ⟨_, F15, A16, J17⟩ B
        exact p2_some (BGx.go (A1 := A49) (Fm1 := Fm5) (Am1 := A6) (FBx.s36 U (.inr (.inr rfl))) ⟨oF, fun j hj => oB j (fun e => hj (by rw [e]; decide)) (fun e => hj (by rw [e]; decide)), fun j hj m _ _ => by rw [ai_fr (oB j (by omega) (by omega))], fun i _ _ => by rw [ai_fr (oB 48 (by decide) (by decide))]⟩ B)
      have w31 : ∀ {v : Int32}, m_ld (A6 48) 100 w1 = some v → v.toInt = 0 := fun {v} h => by
        rw [(gm h).2.2, a1, ai_fr (oB 48 (by decide) (by decide)), ← sf.1]
        omega
      have lie81 : ∀ {s0 w9 : Int32}, P2 ((e_Sleep_lieDown P F A49 J x1 x2).bind fun (_, P51, F52, A53, J54) => some ((), P51, F52, A53, J54)) (d_begins1_81 m Fm5 A6 Jm7 y1 y2 w1 w4 w9 s0) (BGx ex h q N k x P F A Fm Am) := fun {s0 w9} => by
        unfold d_begins1_81
        refine p2_br (fun w18 k18 => ?_)
        have z18 := w31 k18
        refine p2_cr (fun _ => lie) (fun c9 => ?_)
        rw [i_neq, i_0] at c9
        omega
      refine p2_br (fun w8 _ => p2_br (fun w9 _ => ?_))
      refine p2_cr (fun _ => ?_) (fun _ => ?_)
      · unfold d_begins1_76
        exact lie81
      · refine p2_br (fun w11 _ => ?_)
        refine p2_cr (fun _ => lie81) (fun _ => ?_)
        unfold d_begins1_76
        exact lie81
end H9ez4
end Qz138
section Qz139
/-! what the class's ways and the reference's beginnings leave as it was (printed by wip/frames.py) -/
section H9ez4a
variable {P0 : Nat → Nat → Nat} {F0 : Nat → Nat → Int32} {A0 : Nat → Nat → Nat → Int32} {Ar : Nat → Nat → Int32}
def WFx (P0 : Nat → Nat → Nat) (F0 : Nat → Nat → Int32) (A0 : Nat → Nat → Nat → Int32) (P : Nat → Nat → Nat) (F : Nat → Nat → Int32) (A : Nat → Nat → Nat → Int32) : Prop := P = P0 ∧ F = F0 ∧ ∀ r o, ¬ (r = 36 ∧ o = 2) → A r o = A0 r o
theorem WFx.rfl' {P : Nat → Nat → Nat} {F : Nat → Nat → Int32} {A : Nat → Nat → Nat → Int32} : WFx P F A P F A := ⟨rfl, rfl, fun _ _ _ => rfl⟩
theorem wf_st {γ : Type} {n : Nat} {i x : Int32} {P : Nat → Nat → Nat} {F : Nat → Nat → Int32} {A : Nat → Nat → Nat → Int32} {g : (Nat → Nat → Nat → Int32) → Option γ} {Q : γ → Prop} (h : WFx P0 F0 A0 P F A) (kk : ∀ A', WFx P0 F0 A0 P F A' → po (g A') Q) : po ((c_st A 36 2 n i x).bind g) Q :=
  po_bl (fun A' e => kk A' ⟨h.1, h.2.1, fun r o he => ((gg_cst e).2.2.2.2 r o he).trans (h.2.2 r o he)⟩)
theorem wf_fi {γ : Type} {n : Nat} {x : Int32} {P : Nat → Nat → Nat} {F : Nat → Nat → Int32} {A : Nat → Nat → Nat → Int32} {g : (Nat → Nat → Nat → Int32) → Option γ} {Q : γ → Prop} (h : WFx P0 F0 A0 P F A) (kk : ∀ A', WFx P0 F0 A0 P F A' → po (g A') Q) : po ((c_fi A 36 2 n x).bind g) Q :=
  po_bl (fun A' e => kk A' ⟨h.1, h.2.1, fun r o he => (gg_cfi e r o he).trans (h.2.2 r o he)⟩)
def RNx (Ar A : Nat → Nat → Int32) : Prop := A 55 = Ar 55
theorem rn_st {γ : Type} {j n : Nat} {i x : Int32} {A : Nat → Nat → Int32} {g : (Nat → Nat → Int32) → Option γ} {Q : γ → Prop} (h : RNx Ar A) (hj : j ≠ 55) (kk : ∀ A', RNx Ar A' → po (g A') Q) : po ((m_st A j n i x).bind g) Q :=
  po_bl (fun A' e => kk A' (((gg_st e).2.2.1 55 (fun e => hj e.symm)).trans h))
theorem wf_e_Ways_takeDoors_127 {K39 : (Nat → Nat → Nat) → (Nat → Nat → Int32) → (Nat → Nat → Nat → Int32) → (Nat → Nat → Nat → Int64) → Nat → Int32 → Int32 → Option (Unit × (Nat → Nat → Nat) × (Nat → Nat → Int32) × (Nat → Nat → Nat → Int32) × (Nat → Nat → Nat → Int64))} {n : Nat} {P : Nat → Nat → Nat} {F : Nat → Nat → Int32} {A : Nat → Nat → Nat → Int32} {J : Nat → Nat → Nat → Int64} {r1 : Nat} {x2 : Int32} {x3 : Int32} (hK39 : ∀ (a0 : Nat → Nat → Nat) (a1 : Nat → Nat → Int32) (a2 : Nat → Nat → Nat → Int32) (a3 : Nat → Nat → Nat → Int64) (a4 : Nat) (a5 : Int32) (a6 : Int32), WFx P0 F0 A0 a0 a1 a2 → po (K39 a0 a1 a2 a3 a4 a5 a6) (fun r => WFx P0 F0 A0 r.2.1 r.2.2.1 r.2.2.2.1)) (h : WFx P0 F0 A0 P F A) : po (e_Ways_takeDoors_127 K39 n P F A J r1 x2 x3) (fun r => WFx P0 F0 A0 r.2.1 r.2.2.1 r.2.2.2.1) := by
  unfold e_Ways_takeDoors_127
  repeat' (first
    | with_reducible exact po_some (by assumption)
    | (with_reducible refine wf_st (by assumption) ?_; intro _ _)
    | (with_reducible refine wf_fi (by assumption) ?_; intro _ _)
    | with_reducible exact hK39 _ _ _ _ _ _ _ (by assumption)
    | (intros; with_reducible exact hK39 _ _ _ _ _ _ _ (by assumption))
    | with_reducible refine po_cond (fun _ => ?_) (fun _ => ?_)
    | with_reducible refine po_bind_cond (fun _ => ?_) (fun _ => ?_)
    | with_reducible refine po_bl (fun _ _ => ?_))
theorem wf_e_Ways_takeDoors_39   : ∀ {n : Nat} {P : Nat → Nat → Nat} {F : Nat → Nat → Int32} {A : Nat → Nat → Nat → Int32} {J : Nat → Nat → Nat → Int64} {r1 : Nat} {x2 : Int32} {x3 : Int32}, WFx P0 F0 A0 P F A → po (e_Ways_takeDoors_39  n P F A J r1 x2 x3) (fun r => WFx P0 F0 A0 r.2.1 r.2.2.1 r.2.2.2.1) := by
  intro n
  induction n with
  | zero => intro P F A J r1 x2 x3 _ r hr; cases hr
  | succ n ih =>
    intro P F A J r1 x2 x3 h
    unfold e_Ways_takeDoors_39
    repeat' (first
      | with_reducible exact po_some (by assumption)
      | (with_reducible refine wf_st (by assumption) ?_; intro _ _)
      | (with_reducible refine wf_fi (by assumption) ?_; intro _ _)
      | with_reducible refine wf_e_Ways_takeDoors_127 ?_ (by assumption)
      | (with_reducible refine po_call (wf_e_Ways_takeDoors_127 ?_ (by assumption)) ?_)
      | with_reducible exact ih (by assumption)
      | (with_reducible refine po_call (ih (by assumption)) ?_; rintro ⟨_, _, _, _, _⟩ _; try dsimp only)
      | (intros; with_reducible exact ih (by assumption))
      | with_reducible refine po_cond (fun _ => ?_) (fun _ => ?_)
      | with_reducible refine po_bind_cond (fun _ => ?_) (fun _ => ?_)
      | with_reducible refine po_bl (fun _ _ => ?_))
theorem wf_e_Ways_takeDoors_11   : ∀ {n : Nat} {P : Nat → Nat → Nat} {F : Nat → Nat → Int32} {A : Nat → Nat → Nat → Int32} {J : Nat → Nat → Nat → Int64} {r1 : Nat} {x2 : Int32} {x3 : Int32}, WFx P0 F0 A0 P F A → po (e_Ways_takeDoors_11  n P F A J r1 x2 x3) (fun r => WFx P0 F0 A0 r.2.1 r.2.2.1 r.2.2.2.1) := by
  intro n
  induction n with
  | zero => intro P F A J r1 x2 x3 _ r hr; cases hr
  | succ n ih =>
    intro P F A J r1 x2 x3 h
    unfold e_Ways_takeDoors_11
    repeat' (first
      | with_reducible exact po_some (by assumption)
      | (with_reducible refine wf_st (by assumption) ?_; intro _ _)
      | (with_reducible refine wf_fi (by assumption) ?_; intro _ _)
      | with_reducible exact wf_e_Ways_takeDoors_39 (by assumption)
      | (with_reducible refine po_call (wf_e_Ways_takeDoors_39 (by assumption)) ?_; rintro ⟨_, _, _, _, _⟩ _; try dsimp only)
      | with_reducible exact ih (by assumption)
      | (with_reducible refine po_call (ih (by assumption)) ?_; rintro ⟨_, _, _, _, _⟩ _; try dsimp only)
      | (intros; with_reducible exact ih (by assumption))
      | with_reducible refine po_cond (fun _ => ?_) (fun _ => ?_)
      | with_reducible refine po_bind_cond (fun _ => ?_) (fun _ => ?_)
      | with_reducible refine po_bl (fun _ _ => ?_))
theorem wf_e_Ways_takeDoors {n : Nat} {P : Nat → Nat → Nat} {F : Nat → Nat → Int32} {A : Nat → Nat → Nat → Int32} {J : Nat → Nat → Nat → Int64} {r1 : Nat} {x2 : Int32}  (h : WFx P0 F0 A0 P F A) : po (e_Ways_takeDoors n P F A J r1 x2) (fun r => WFx P0 F0 A0 r.2.1 r.2.2.1 r.2.2.2.1) := by
  unfold e_Ways_takeDoors
  repeat' (first
    | with_reducible exact po_some (by assumption)
    | (with_reducible refine wf_st (by assumption) ?_; intro _ _)
    | (with_reducible refine wf_fi (by assumption) ?_; intro _ _)
    | with_reducible exact wf_e_Ways_takeDoors_11 (by assumption)
    | (with_reducible refine po_call (wf_e_Ways_takeDoors_11 (by assumption)) ?_; rintro ⟨_, _, _, _, _⟩ _; try dsimp only)
    | with_reducible refine po_cond (fun _ => ?_) (fun _ => ?_)
    | with_reducible refine po_bind_cond (fun _ => ?_) (fun _ => ?_)
    | with_reducible refine po_bl (fun _ _ => ?_))
theorem wf_e_Ways_joinWays_97 {K2 : (Nat → Nat → Nat) → (Nat → Nat → Int32) → (Nat → Nat → Nat → Int32) → (Nat → Nat → Nat → Int64) → Int32 → Int32 → Option (Unit × (Nat → Nat → Nat) × (Nat → Nat → Int32) × (Nat → Nat → Nat → Int32) × (Nat → Nat → Nat → Int64))} {K9 : (Nat → Nat → Nat) → (Nat → Nat → Int32) → (Nat → Nat → Nat → Int32) → (Nat → Nat → Nat → Int64) → Int32 → Int32 → Int32 → Option (Unit × (Nat → Nat → Nat) × (Nat → Nat → Int32) × (Nat → Nat → Nat → Int32) × (Nat → Nat → Nat → Int64))} {n : Nat} {P : Nat → Nat → Nat} {F : Nat → Nat → Int32} {A : Nat → Nat → Nat → Int32} {J : Nat → Nat → Nat → Int64} {x1 : Int32} {x2 : Int32} {x3 : Int32} (hK2 : ∀ (a0 : Nat → Nat → Nat) (a1 : Nat → Nat → Int32) (a2 : Nat → Nat → Nat → Int32) (a3 : Nat → Nat → Nat → Int64) (a4 : Int32) (a5 : Int32), WFx P0 F0 A0 a0 a1 a2 → po (K2 a0 a1 a2 a3 a4 a5) (fun r => WFx P0 F0 A0 r.2.1 r.2.2.1 r.2.2.2.1)) (hK9 : ∀ (a0 : Nat → Nat → Nat) (a1 : Nat → Nat → Int32) (a2 : Nat → Nat → Nat → Int32) (a3 : Nat → Nat → Nat → Int64) (a4 : Int32) (a5 : Int32) (a6 : Int32), WFx P0 F0 A0 a0 a1 a2 → po (K9 a0 a1 a2 a3 a4 a5 a6) (fun r => WFx P0 F0 A0 r.2.1 r.2.2.1 r.2.2.2.1)) (h : WFx P0 F0 A0 P F A) : po (e_Ways_joinWays_97 K2 K9 n P F A J x1 x2 x3) (fun r => WFx P0 F0 A0 r.2.1 r.2.2.1 r.2.2.2.1) := by
  unfold e_Ways_joinWays_97
  repeat' (first
    | with_reducible exact po_some (by assumption)
    | (with_reducible refine wf_st (by assumption) ?_; intro _ _)
    | (with_reducible refine wf_fi (by assumption) ?_; intro _ _)
    | with_reducible exact hK2 _ _ _ _ _ _ (by assumption)
    | (intros; with_reducible exact hK2 _ _ _ _ _ _ (by assumption))
    | with_reducible exact hK9 _ _ _ _ _ _ _ (by assumption)
    | (intros; with_reducible exact hK9 _ _ _ _ _ _ _ (by assumption))
    | with_reducible refine po_cond (fun _ => ?_) (fun _ => ?_)
    | with_reducible refine po_bind_cond (fun _ => ?_) (fun _ => ?_)
    | with_reducible refine po_bl (fun _ _ => ?_))
theorem wf_e_Ways_joinWays_91 {K2 : (Nat → Nat → Nat) → (Nat → Nat → Int32) → (Nat → Nat → Nat → Int32) → (Nat → Nat → Nat → Int64) → Int32 → Int32 → Option (Unit × (Nat → Nat → Nat) × (Nat → Nat → Int32) × (Nat → Nat → Nat → Int32) × (Nat → Nat → Nat → Int64))} {K9 : (Nat → Nat → Nat) → (Nat → Nat → Int32) → (Nat → Nat → Nat → Int32) → (Nat → Nat → Nat → Int64) → Int32 → Int32 → Int32 → Option (Unit × (Nat → Nat → Nat) × (Nat → Nat → Int32) × (Nat → Nat → Nat → Int32) × (Nat → Nat → Nat → Int64))} {K30 : (Nat → Nat → Nat) → (Nat → Nat → Int32) → (Nat → Nat → Nat → Int32) → (Nat → Nat → Nat → Int64) → Int32 → Int32 → Int32 → Int32 → Int32 → Option (Unit × (Nat → Nat → Nat) × (Nat → Nat → Int32) × (Nat → Nat → Nat → Int32) × (Nat → Nat → Nat → Int64))} {n : Nat} {P : Nat → Nat → Nat} {F : Nat → Nat → Int32} {A : Nat → Nat → Nat → Int32} {J : Nat → Nat → Nat → Int64} {x1 : Int32} {x2 : Int32} {x3 : Int32} {x4 : Int32} {x5 : Int32} (hK2 : ∀ (a0 : Nat → Nat → Nat) (a1 : Nat → Nat → Int32) (a2 : Nat → Nat → Nat → Int32) (a3 : Nat → Nat → Nat → Int64) (a4 : Int32) (a5 : Int32), WFx P0 F0 A0 a0 a1 a2 → po (K2 a0 a1 a2 a3 a4 a5) (fun r => WFx P0 F0 A0 r.2.1 r.2.2.1 r.2.2.2.1)) (hK9 : ∀ (a0 : Nat → Nat → Nat) (a1 : Nat → Nat → Int32) (a2 : Nat → Nat → Nat → Int32) (a3 : Nat → Nat → Nat → Int64) (a4 : Int32) (a5 : Int32) (a6 : Int32), WFx P0 F0 A0 a0 a1 a2 → po (K9 a0 a1 a2 a3 a4 a5 a6) (fun r => WFx P0 F0 A0 r.2.1 r.2.2.1 r.2.2.2.1)) (hK30 : ∀ (a0 : Nat → Nat → Nat) (a1 : Nat → Nat → Int32) (a2 : Nat → Nat → Nat → Int32) (a3 : Nat → Nat → Nat → Int64) (a4 : Int32) (a5 : Int32) (a6 : Int32) (a7 : Int32) (a8 : Int32), WFx P0 F0 A0 a0 a1 a2 → po (K30 a0 a1 a2 a3 a4 a5 a6 a7 a8) (fun r => WFx P0 F0 A0 r.2.1 r.2.2.1 r.2.2.2.1)) (h : WFx P0 F0 A0 P F A) : po (e_Ways_joinWays_91 K2 K9 K30 n P F A J x1 x2 x3 x4 x5) (fun r => WFx P0 F0 A0 r.2.1 r.2.2.1 r.2.2.2.1) := by
  unfold e_Ways_joinWays_91
  repeat' (first
    | with_reducible exact po_some (by assumption)
    | (with_reducible refine wf_st (by assumption) ?_; intro _ _)
    | (with_reducible refine wf_fi (by assumption) ?_; intro _ _)
    | with_reducible exact hK2 _ _ _ _ _ _ (by assumption)
    | (intros; with_reducible exact hK2 _ _ _ _ _ _ (by assumption))
    | with_reducible exact hK9 _ _ _ _ _ _ _ (by assumption)
    | (intros; with_reducible exact hK9 _ _ _ _ _ _ _ (by assumption))
    | with_reducible exact hK30 _ _ _ _ _ _ _ _ _ (by assumption)
    | (intros; with_reducible exact hK30 _ _ _ _ _ _ _ _ _ (by assumption))
    | with_reducible refine po_cond (fun _ => ?_) (fun _ => ?_)
    | with_reducible refine po_bind_cond (fun _ => ?_) (fun _ => ?_)
    | with_reducible refine po_bl (fun _ _ => ?_))
theorem wf_e_Ways_joinWays_30 {K2 : (Nat → Nat → Nat) → (Nat → Nat → Int32) → (Nat → Nat → Nat → Int32) → (Nat → Nat → Nat → Int64) → Int32 → Int32 → Option (Unit × (Nat → Nat → Nat) × (Nat → Nat → Int32) × (Nat → Nat → Nat → Int32) × (Nat → Nat → Nat → Int64))} {K9 : (Nat → Nat → Nat) → (Nat → Nat → Int32) → (Nat → Nat → Nat → Int32) → (Nat → Nat → Nat → Int64) → Int32 → Int32 → Int32 → Option (Unit × (Nat → Nat → Nat) × (Nat → Nat → Int32) × (Nat → Nat → Nat → Int32) × (Nat → Nat → Nat → Int64))} (hK2 : ∀ (a0 : Nat → Nat → Nat) (a1 : Nat → Nat → Int32) (a2 : Nat → Nat → Nat → Int32) (a3 : Nat → Nat → Nat → Int64) (a4 : Int32) (a5 : Int32), WFx P0 F0 A0 a0 a1 a2 → po (K2 a0 a1 a2 a3 a4 a5) (fun r => WFx P0 F0 A0 r.2.1 r.2.2.1 r.2.2.2.1)) (hK9 : ∀ (a0 : Nat → Nat → Nat) (a1 : Nat → Nat → Int32) (a2 : Nat → Nat → Nat → Int32) (a3 : Nat → Nat → Nat → Int64) (a4 : Int32) (a5 : Int32) (a6 : Int32), WFx P0 F0 A0 a0 a1 a2 → po (K9 a0 a1 a2 a3 a4 a5 a6) (fun r => WFx P0 F0 A0 r.2.1 r.2.2.1 r.2.2.2.1)) : ∀ {n : Nat} {P : Nat → Nat → Nat} {F : Nat → Nat → Int32} {A : Nat → Nat → Nat → Int32} {J : Nat → Nat → Nat → Int64} {x1 : Int32} {x2 : Int32} {x3 : Int32} {x4 : Int32} {x5 : Int32}, WFx P0 F0 A0 P F A → po (e_Ways_joinWays_30 K2 K9 n P F A J x1 x2 x3 x4 x5) (fun r => WFx P0 F0 A0 r.2.1 r.2.2.1 r.2.2.2.1) := by
  intro n
  induction n with
  | zero => intro P F A J x1 x2 x3 x4 x5 _ r hr; cases hr
  | succ n ih =>
    intro P F A J x1 x2 x3 x4 x5 h
    unfold e_Ways_joinWays_30
    repeat' (first
      | with_reducible exact po_some (by assumption)
      | (with_reducible refine wf_st (by assumption) ?_; intro _ _)
      | (with_reducible refine wf_fi (by assumption) ?_; intro _ _)
      | with_reducible refine wf_e_Ways_joinWays_97 ?_ ?_ (by assumption)
      | (with_reducible refine po_call (wf_e_Ways_joinWays_97 ?_ ?_ (by assumption)) ?_)
      | with_reducible refine wf_e_Ways_joinWays_91 ?_ ?_ ?_ (by assumption)
      | (with_reducible refine po_call (wf_e_Ways_joinWays_91 ?_ ?_ ?_ (by assumption)) ?_)
      | with_reducible exact hK2 _ _ _ _ _ _ (by assumption)
      | (intros; with_reducible exact hK2 _ _ _ _ _ _ (by assumption))
      | with_reducible exact hK9 _ _ _ _ _ _ _ (by assumption)
      | (intros; with_reducible exact hK9 _ _ _ _ _ _ _ (by assumption))
      | with_reducible exact ih (by assumption)
      | (with_reducible refine po_call (ih (by assumption)) ?_; rintro ⟨_, _, _, _, _⟩ _; try dsimp only)
      | (intros; with_reducible exact ih (by assumption))
      | with_reducible refine po_cond (fun _ => ?_) (fun _ => ?_)
      | with_reducible refine po_bind_cond (fun _ => ?_) (fun _ => ?_)
      | with_reducible refine po_bl (fun _ _ => ?_))
theorem wf_e_Ways_joinWays_9 {K2 : (Nat → Nat → Nat) → (Nat → Nat → Int32) → (Nat → Nat → Nat → Int32) → (Nat → Nat → Nat → Int64) → Int32 → Int32 → Option (Unit × (Nat → Nat → Nat) × (Nat → Nat → Int32) × (Nat → Nat → Nat → Int32) × (Nat → Nat → Nat → Int64))} (hK2 : ∀ (a0 : Nat → Nat → Nat) (a1 : Nat → Nat → Int32) (a2 : Nat → Nat → Nat → Int32) (a3 : Nat → Nat → Nat → Int64) (a4 : Int32) (a5 : Int32), WFx P0 F0 A0 a0 a1 a2 → po (K2 a0 a1 a2 a3 a4 a5) (fun r => WFx P0 F0 A0 r.2.1 r.2.2.1 r.2.2.2.1)) : ∀ {n : Nat} {P : Nat → Nat → Nat} {F : Nat → Nat → Int32} {A : Nat → Nat → Nat → Int32} {J : Nat → Nat → Nat → Int64} {x1 : Int32} {x2 : Int32} {x3 : Int32}, WFx P0 F0 A0 P F A → po (e_Ways_joinWays_9 K2 n P F A J x1 x2 x3) (fun r => WFx P0 F0 A0 r.2.1 r.2.2.1 r.2.2.2.1) := by
  intro n
  induction n with
  | zero => intro P F A J x1 x2 x3 _ r hr; cases hr
  | succ n ih =>
    intro P F A J x1 x2 x3 h
    unfold e_Ways_joinWays_9
    repeat' (first
      | with_reducible exact po_some (by assumption)
      | (with_reducible refine wf_st (by assumption) ?_; intro _ _)
      | (with_reducible refine wf_fi (by assumption) ?_; intro _ _)
      | with_reducible refine wf_e_Ways_joinWays_30 ?_ ?_ (by assumption)
      | (with_reducible refine po_call (wf_e_Ways_joinWays_30 ?_ ?_ (by assumption)) ?_)
      | with_reducible exact hK2 _ _ _ _ _ _ (by assumption)
      | (intros; with_reducible exact hK2 _ _ _ _ _ _ (by assumption))
      | with_reducible exact ih (by assumption)
      | (with_reducible refine po_call (ih (by assumption)) ?_; rintro ⟨_, _, _, _, _⟩ _; try dsimp only)
      | (intros; with_reducible exact ih (by assumption))
      | with_reducible refine po_cond (fun _ => ?_) (fun _ => ?_)
      | with_reducible refine po_bind_cond (fun _ => ?_) (fun _ => ?_)
      | with_reducible refine po_bl (fun _ _ => ?_))
theorem wf_e_Ways_joinWays_2   : ∀ {n : Nat} {P : Nat → Nat → Nat} {F : Nat → Nat → Int32} {A : Nat → Nat → Nat → Int32} {J : Nat → Nat → Nat → Int64} {x1 : Int32} {x2 : Int32}, WFx P0 F0 A0 P F A → po (e_Ways_joinWays_2  n P F A J x1 x2) (fun r => WFx P0 F0 A0 r.2.1 r.2.2.1 r.2.2.2.1) := by
  intro n
  induction n with
  | zero => intro P F A J x1 x2 _ r hr; cases hr
  | succ n ih =>
    intro P F A J x1 x2 h
    unfold e_Ways_joinWays_2
    repeat' (first
      | with_reducible exact po_some (by assumption)
      | (with_reducible refine wf_st (by assumption) ?_; intro _ _)
      | (with_reducible refine wf_fi (by assumption) ?_; intro _ _)
      | with_reducible refine wf_e_Ways_joinWays_9 ?_ (by assumption)
      | (with_reducible refine po_call (wf_e_Ways_joinWays_9 ?_ (by assumption)) ?_)
      | with_reducible exact ih (by assumption)
      | (with_reducible refine po_call (ih (by assumption)) ?_; rintro ⟨_, _, _, _, _⟩ _; try dsimp only)
      | (intros; with_reducible exact ih (by assumption))
      | with_reducible refine po_cond (fun _ => ?_) (fun _ => ?_)
      | with_reducible refine po_bind_cond (fun _ => ?_) (fun _ => ?_)
      | with_reducible refine po_bl (fun _ _ => ?_))
theorem wf_e_Ways_joinWays {n : Nat} {P : Nat → Nat → Nat} {F : Nat → Nat → Int32} {A : Nat → Nat → Nat → Int32} {J : Nat → Nat → Nat → Int64} {x1 : Int32}  (h : WFx P0 F0 A0 P F A) : po (e_Ways_joinWays n P F A J x1) (fun r => WFx P0 F0 A0 r.2.1 r.2.2.1 r.2.2.2.1) := by
  unfold e_Ways_joinWays
  repeat' (first
    | with_reducible exact po_some (by assumption)
    | (with_reducible refine wf_st (by assumption) ?_; intro _ _)
    | (with_reducible refine wf_fi (by assumption) ?_; intro _ _)
    | with_reducible exact wf_e_Ways_joinWays_2 (by assumption)
    | (with_reducible refine po_call (wf_e_Ways_joinWays_2 (by assumption)) ?_; rintro ⟨_, _, _, _, _⟩ _; try dsimp only)
    | with_reducible refine po_cond (fun _ => ?_) (fun _ => ?_)
    | with_reducible refine po_bind_cond (fun _ => ?_) (fun _ => ?_)
    | with_reducible refine po_bl (fun _ _ => ?_))
theorem rn_d_termOf_158 {K5 : (Nat → Int32) → (Nat → Nat → Int32) → (Nat → Nat → Int64) → Int32 → Int32 → Int32 → Option (Int32 × (Nat → Int32) × (Nat → Nat → Int32) × (Nat → Nat → Int64))} {n : Nat} {F : Nat → Int32} {A : Nat → Nat → Int32} {J : Nat → Nat → Int64} {x2 : Int32} {x3 : Int32} {x4 : Int32} {s1 : Int32} {s2 : Int32} (hK5 : ∀ (a0 : Nat → Int32) (a1 : Nat → Nat → Int32) (a2 : Nat → Nat → Int64) (a3 : Int32) (a4 : Int32) (a5 : Int32), RNx Ar a1 → po (K5 a0 a1 a2 a3 a4 a5) (fun r => RNx Ar r.2.2.1)) (h : RNx Ar A) : po (d_termOf_158 K5 n F A J x2 x3 x4 s1 s2) (fun r => RNx Ar r.2.2.1) := by
  unfold d_termOf_158
  repeat' (first
    | with_reducible exact po_some (by assumption)
    | (with_reducible refine rn_st (by assumption) (by decide) ?_; intro _ _)
    | with_reducible exact hK5 _ _ _ _ _ _ (by assumption)
    | (intros; with_reducible exact hK5 _ _ _ _ _ _ (by assumption))
    | with_reducible refine po_cond (fun _ => ?_) (fun _ => ?_)
    | with_reducible refine po_bind_cond (fun _ => ?_) (fun _ => ?_)
    | with_reducible refine po_bl (fun _ _ => ?_))
theorem rn_d_termOf_104 {K5 : (Nat → Int32) → (Nat → Nat → Int32) → (Nat → Nat → Int64) → Int32 → Int32 → Int32 → Option (Int32 × (Nat → Int32) × (Nat → Nat → Int32) × (Nat → Nat → Int64))} {n : Nat} {F : Nat → Int32} {A : Nat → Nat → Int32} {J : Nat → Nat → Int64} {x2 : Int32} {x3 : Int32} {x4 : Int32} {x5 : Int32} {x6 : Int32} {x7 : Int32} (hK5 : ∀ (a0 : Nat → Int32) (a1 : Nat → Nat → Int32) (a2 : Nat → Nat → Int64) (a3 : Int32) (a4 : Int32) (a5 : Int32), RNx Ar a1 → po (K5 a0 a1 a2 a3 a4 a5) (fun r => RNx Ar r.2.2.1)) (h : RNx Ar A) : po (d_termOf_104 K5 n F A J x2 x3 x4 x5 x6 x7) (fun r => RNx Ar r.2.2.1) := by
  unfold d_termOf_104
  repeat' (first
    | with_reducible exact po_some (by assumption)
    | (with_reducible refine rn_st (by assumption) (by decide) ?_; intro _ _)
    | with_reducible refine rn_d_termOf_158 ?_ (by assumption)
    | (with_reducible refine po_call (rn_d_termOf_158 ?_ (by assumption)) ?_)
    | with_reducible exact hK5 _ _ _ _ _ _ (by assumption)
    | (intros; with_reducible exact hK5 _ _ _ _ _ _ (by assumption))
    | with_reducible refine po_cond (fun _ => ?_) (fun _ => ?_)
    | with_reducible refine po_bind_cond (fun _ => ?_) (fun _ => ?_)
    | with_reducible refine po_bl (fun _ _ => ?_))
theorem rn_d_termOf_159 {K5 : (Nat → Int32) → (Nat → Nat → Int32) → (Nat → Nat → Int64) → Int32 → Int32 → Int32 → Option (Int32 × (Nat → Int32) × (Nat → Nat → Int32) × (Nat → Nat → Int64))} {n : Nat} {F : Nat → Int32} {A : Nat → Nat → Int32} {J : Nat → Nat → Int64} {x2 : Int32} {x3 : Int32} {x4 : Int32} (hK5 : ∀ (a0 : Nat → Int32) (a1 : Nat → Nat → Int32) (a2 : Nat → Nat → Int64) (a3 : Int32) (a4 : Int32) (a5 : Int32), RNx Ar a1 → po (K5 a0 a1 a2 a3 a4 a5) (fun r => RNx Ar r.2.2.1)) (h : RNx Ar A) : po (d_termOf_159 K5 n F A J x2 x3 x4) (fun r => RNx Ar r.2.2.1) := by
  unfold d_termOf_159
  repeat' (first
    | with_reducible exact po_some (by assumption)
    | (with_reducible refine rn_st (by assumption) (by decide) ?_; intro _ _)
    | with_reducible exact hK5 _ _ _ _ _ _ (by assumption)
    | (intros; with_reducible exact hK5 _ _ _ _ _ _ (by assumption))
    | with_reducible refine po_cond (fun _ => ?_) (fun _ => ?_)
    | with_reducible refine po_bind_cond (fun _ => ?_) (fun _ => ?_)
    | with_reducible refine po_bl (fun _ _ => ?_))
theorem rn_d_termOf_58 {K5 : (Nat → Int32) → (Nat → Nat → Int32) → (Nat → Nat → Int64) → Int32 → Int32 → Int32 → Option (Int32 × (Nat → Int32) × (Nat → Nat → Int32) × (Nat → Nat → Int64))} {n : Nat} {F : Nat → Int32} {A : Nat → Nat → Int32} {J : Nat → Nat → Int64} {x2 : Int32} {x3 : Int32} {x4 : Int32} {s1 : Int32} {s2 : Int32} (hK5 : ∀ (a0 : Nat → Int32) (a1 : Nat → Nat → Int32) (a2 : Nat → Nat → Int64) (a3 : Int32) (a4 : Int32) (a5 : Int32), RNx Ar a1 → po (K5 a0 a1 a2 a3 a4 a5) (fun r => RNx Ar r.2.2.1)) (h : RNx Ar A) : po (d_termOf_58 K5 n F A J x2 x3 x4 s1 s2) (fun r => RNx Ar r.2.2.1) := by
  unfold d_termOf_58
  repeat' (first
    | with_reducible exact po_some (by assumption)
    | (with_reducible refine rn_st (by assumption) (by decide) ?_; intro _ _)
    | with_reducible refine rn_d_termOf_159 ?_ (by assumption)
    | (with_reducible refine po_call (rn_d_termOf_159 ?_ (by assumption)) ?_)
    | with_reducible exact hK5 _ _ _ _ _ _ (by assumption)
    | (intros; with_reducible exact hK5 _ _ _ _ _ _ (by assumption))
    | with_reducible refine po_cond (fun _ => ?_) (fun _ => ?_)
    | with_reducible refine po_bind_cond (fun _ => ?_) (fun _ => ?_)
    | with_reducible refine po_bl (fun _ _ => ?_))
theorem rn_d_termOf_5   : ∀ {n : Nat} {F : Nat → Int32} {A : Nat → Nat → Int32} {J : Nat → Nat → Int64} {x2 : Int32} {x3 : Int32} {x4 : Int32}, RNx Ar A → po (d_termOf_5  n F A J x2 x3 x4) (fun r => RNx Ar r.2.2.1) := by
  intro n
  induction n with
  | zero => intro F A J x2 x3 x4 _ r hr; cases hr
  | succ n ih =>
    intro F A J x2 x3 x4 h
    unfold d_termOf_5
    repeat' (first
      | with_reducible exact po_some (by assumption)
      | (with_reducible refine rn_st (by assumption) (by decide) ?_; intro _ _)
      | with_reducible refine rn_d_termOf_104 ?_ (by assumption)
      | (with_reducible refine po_call (rn_d_termOf_104 ?_ (by assumption)) ?_)
      | with_reducible refine rn_d_termOf_159 ?_ (by assumption)
      | (with_reducible refine po_call (rn_d_termOf_159 ?_ (by assumption)) ?_)
      | with_reducible refine rn_d_termOf_58 ?_ (by assumption)
      | (with_reducible refine po_call (rn_d_termOf_58 ?_ (by assumption)) ?_)
      | with_reducible exact ih (by assumption)
      | (with_reducible refine po_call (ih (by assumption)) ?_; rintro ⟨_, _, _, _⟩ _; try dsimp only)
      | (intros; with_reducible exact ih (by assumption))
      | with_reducible refine po_cond (fun _ => ?_) (fun _ => ?_)
      | with_reducible refine po_bind_cond (fun _ => ?_) (fun _ => ?_)
      | with_reducible refine po_bl (fun _ _ => ?_))
theorem rn_d_termOf {n : Nat} {F : Nat → Int32} {A : Nat → Nat → Int32} {J : Nat → Nat → Int64} {x1 : Int32} {x2 : Int32}  (h : RNx Ar A) : po (d_termOf n F A J x1 x2) (fun r => RNx Ar r.2.2.1) := by
  unfold d_termOf
  repeat' (first
    | with_reducible exact po_some (by assumption)
    | (with_reducible refine rn_st (by assumption) (by decide) ?_; intro _ _)
    | with_reducible exact rn_d_termOf_5 (by assumption)
    | (with_reducible refine po_call (rn_d_termOf_5 (by assumption)) ?_; rintro ⟨_, _, _, _⟩ _; try dsimp only)
    | with_reducible refine po_cond (fun _ => ?_) (fun _ => ?_)
    | with_reducible refine po_bind_cond (fun _ => ?_) (fun _ => ?_)
    | with_reducible refine po_bl (fun _ _ => ?_))
theorem rn_d_tells_211 {n : Nat} {F : Nat → Int32} {A : Nat → Nat → Int32} {J : Nat → Nat → Int64} {x1 : Int32} {x3 : Int32} {x6 : Int32}  (h : RNx Ar A) : po (d_tells_211 n F A J x1 x3 x6) (fun r => RNx Ar r.2.2.1) := by
  unfold d_tells_211
  repeat' (first
    | with_reducible exact po_some (by assumption)
    | (with_reducible refine rn_st (by assumption) (by decide) ?_; intro _ _)
    | with_reducible exact rn_d_termOf (by assumption)
    | (with_reducible refine po_call (rn_d_termOf (by assumption)) ?_; rintro ⟨_, _, _, _⟩ _; try dsimp only)
    | with_reducible refine po_cond (fun _ => ?_) (fun _ => ?_)
    | with_reducible refine po_bind_cond (fun _ => ?_) (fun _ => ?_)
    | with_reducible refine po_bl (fun _ _ => ?_))
theorem rn_d_tells_130   : ∀ {n : Nat} {F : Nat → Int32} {A : Nat → Nat → Int32} {J : Nat → Nat → Int64} {x1 : Int32} {x3 : Int32} {x5 : Int32} {x6 : Int32}, RNx Ar A → po (d_tells_130  n F A J x1 x3 x5 x6) (fun r => RNx Ar r.2.2.1) := by
  intro n
  induction n with
  | zero => intro F A J x1 x3 x5 x6 _ r hr; cases hr
  | succ n ih =>
    intro F A J x1 x3 x5 x6 h
    unfold d_tells_130
    repeat' (first
      | with_reducible exact po_some (by assumption)
      | (with_reducible refine rn_st (by assumption) (by decide) ?_; intro _ _)
      | with_reducible exact rn_d_tells_211 (by assumption)
      | (with_reducible refine po_call (rn_d_tells_211 (by assumption)) ?_; rintro ⟨_, _, _, _⟩ _; try dsimp only)
      | with_reducible exact rn_d_termOf (by assumption)
      | (with_reducible refine po_call (rn_d_termOf (by assumption)) ?_; rintro ⟨_, _, _, _⟩ _; try dsimp only)
      | with_reducible exact ih (by assumption)
      | (with_reducible refine po_call (ih (by assumption)) ?_; rintro ⟨_, _, _, _⟩ _; try dsimp only)
      | (intros; with_reducible exact ih (by assumption))
      | with_reducible refine po_cond (fun _ => ?_) (fun _ => ?_)
      | with_reducible refine po_bind_cond (fun _ => ?_) (fun _ => ?_)
      | with_reducible refine po_bl (fun _ _ => ?_))
theorem rn_d_tells {n : Nat} {F : Nat → Int32} {A : Nat → Nat → Int32} {J : Nat → Nat → Int64} {x1 : Int32} {x2 : Int32}  (h : RNx Ar A) : po (d_tells n F A J x1 x2) (fun r => RNx Ar r.2.2.1) := by
  unfold d_tells
  repeat' (first
    | with_reducible exact po_some (by assumption)
    | (with_reducible refine rn_st (by assumption) (by decide) ?_; intro _ _)
    | with_reducible exact rn_d_tells_130 (by assumption)
    | (with_reducible refine po_call (rn_d_tells_130 (by assumption)) ?_; rintro ⟨_, _, _, _⟩ _; try dsimp only)
    | with_reducible refine po_cond (fun _ => ?_) (fun _ => ?_)
    | with_reducible refine po_bind_cond (fun _ => ?_) (fun _ => ?_)
    | with_reducible refine po_bl (fun _ _ => ?_))
theorem rn_d_lies {F : Nat → Int32} {A : Nat → Nat → Int32} {J : Nat → Nat → Int64} {x1 : Int32} {x2 : Int32}  (h : RNx Ar A) : po (d_lies F A J x1 x2) (fun r => RNx Ar r.2.2.1) := by
  unfold d_lies
  repeat' (first
    | with_reducible exact po_some (by assumption)
    | (with_reducible refine rn_st (by assumption) (by decide) ?_; intro _ _)
    | with_reducible refine po_cond (fun _ => ?_) (fun _ => ?_)
    | with_reducible refine po_bind_cond (fun _ => ?_) (fun _ => ?_)
    | with_reducible refine po_bl (fun _ _ => ?_))
theorem rn_d_begins1_124 {n : Nat} {F : Nat → Int32} {A : Nat → Nat → Int32} {J : Nat → Nat → Int64} {x1 : Int32} {x2 : Int32}  (h : RNx Ar A) : po (d_begins1_124 n F A J x1 x2) (fun r => RNx Ar r.2.2.1) := by
  unfold d_begins1_124
  repeat' (first
    | with_reducible exact po_some (by assumption)
    | (with_reducible refine rn_st (by assumption) (by decide) ?_; intro _ _)
    | with_reducible exact rn_d_lies (by assumption)
    | (with_reducible refine po_call (rn_d_lies (by assumption)) ?_; rintro ⟨_, _, _, _⟩ _; try dsimp only)
    | with_reducible refine po_cond (fun _ => ?_) (fun _ => ?_)
    | with_reducible refine po_bind_cond (fun _ => ?_) (fun _ => ?_)
    | with_reducible refine po_bl (fun _ _ => ?_))
theorem rn_d_begins1_147 {n : Nat} {F : Nat → Int32} {A : Nat → Nat → Int32} {J : Nat → Nat → Int64} {x1 : Int32} {x2 : Int32} {x3 : Int32} {x4 : Int32}  (h : RNx Ar A) : po (d_begins1_147 n F A J x1 x2 x3 x4) (fun r => RNx Ar r.2.2.1) := by
  unfold d_begins1_147
  repeat' (first
    | with_reducible exact po_some (by assumption)
    | (with_reducible refine rn_st (by assumption) (by decide) ?_; intro _ _)
    | with_reducible refine po_cond (fun _ => ?_) (fun _ => ?_)
    | with_reducible refine po_bind_cond (fun _ => ?_) (fun _ => ?_)
    | with_reducible refine po_bl (fun _ _ => ?_))
theorem rn_d_begins1_131 {n : Nat} {F : Nat → Int32} {A : Nat → Nat → Int32} {J : Nat → Nat → Int64} {x1 : Int32} {x2 : Int32} {x3 : Int32} {x4 : Int32} {x5 : Int32} {x6 : Int32}  (h : RNx Ar A) : po (d_begins1_131 n F A J x1 x2 x3 x4 x5 x6) (fun r => RNx Ar r.2.2.1) := by
  unfold d_begins1_131
  repeat' (first
    | with_reducible exact po_some (by assumption)
    | (with_reducible refine rn_st (by assumption) (by decide) ?_; intro _ _)
    | with_reducible exact rn_d_begins1_147 (by assumption)
    | (with_reducible refine po_call (rn_d_begins1_147 (by assumption)) ?_; rintro ⟨_, _, _, _⟩ _; try dsimp only)
    | with_reducible refine po_cond (fun _ => ?_) (fun _ => ?_)
    | with_reducible refine po_bind_cond (fun _ => ?_) (fun _ => ?_)
    | with_reducible refine po_bl (fun _ _ => ?_))
theorem rn_d_begins1_81 {n : Nat} {F : Nat → Int32} {A : Nat → Nat → Int32} {J : Nat → Nat → Int64} {x1 : Int32} {x2 : Int32} {x3 : Int32} {x4 : Int32} {x5 : Int32} {s0 : Int32}  (h : RNx Ar A) : po (d_begins1_81 n F A J x1 x2 x3 x4 x5 s0) (fun r => RNx Ar r.2.2.1) := by
  unfold d_begins1_81
  repeat' (first
    | with_reducible exact po_some (by assumption)
    | (with_reducible refine rn_st (by assumption) (by decide) ?_; intro _ _)
    | with_reducible exact rn_d_begins1_124 (by assumption)
    | (with_reducible refine po_call (rn_d_begins1_124 (by assumption)) ?_; rintro ⟨_, _, _, _⟩ _; try dsimp only)
    | with_reducible exact rn_d_begins1_131 (by assumption)
    | (with_reducible refine po_call (rn_d_begins1_131 (by assumption)) ?_; rintro ⟨_, _, _, _⟩ _; try dsimp only)
    | with_reducible refine po_cond (fun _ => ?_) (fun _ => ?_)
    | with_reducible refine po_bind_cond (fun _ => ?_) (fun _ => ?_)
    | with_reducible refine po_bl (fun _ _ => ?_))
theorem rn_d_begins1_76 {n : Nat} {F : Nat → Int32} {A : Nat → Nat → Int32} {J : Nat → Nat → Int64} {x1 : Int32} {x2 : Int32} {x3 : Int32} {x4 : Int32} {x5 : Int32}  (h : RNx Ar A) : po (d_begins1_76 n F A J x1 x2 x3 x4 x5) (fun r => RNx Ar r.2.2.1) := by
  unfold d_begins1_76
  repeat' (first
    | with_reducible exact po_some (by assumption)
    | (with_reducible refine rn_st (by assumption) (by decide) ?_; intro _ _)
    | with_reducible exact rn_d_begins1_81 (by assumption)
    | (with_reducible refine po_call (rn_d_begins1_81 (by assumption)) ?_; rintro ⟨_, _, _, _⟩ _; try dsimp only)
    | with_reducible refine po_cond (fun _ => ?_) (fun _ => ?_)
    | with_reducible refine po_bind_cond (fun _ => ?_) (fun _ => ?_)
    | with_reducible refine po_bl (fun _ _ => ?_))
theorem rn_d_begins1 {n : Nat} {F : Nat → Int32} {A : Nat → Nat → Int32} {J : Nat → Nat → Int64} {x1 : Int32} {x2 : Int32}  (h : RNx Ar A) : po (d_begins1 n F A J x1 x2) (fun r => RNx Ar r.2.2.1) := by
  unfold d_begins1
  repeat' (first
    | with_reducible exact po_some (by assumption)
    | (with_reducible refine rn_st (by assumption) (by decide) ?_; intro _ _)
    | with_reducible exact rn_d_tells (by assumption)
    | (with_reducible refine po_call (rn_d_tells (by assumption)) ?_; rintro ⟨_, _, _, _⟩ _; try dsimp only)
    | with_reducible exact rn_d_begins1_76 (by assumption)
    | (with_reducible refine po_call (rn_d_begins1_76 (by assumption)) ?_; rintro ⟨_, _, _, _⟩ _; try dsimp only)
    | with_reducible exact rn_d_begins1_81 (by assumption)
    | (with_reducible refine po_call (rn_d_begins1_81 (by assumption)) ?_; rintro ⟨_, _, _, _⟩ _; try dsimp only)
    | with_reducible exact rn_d_lies (by assumption)
    | (with_reducible refine po_call (rn_d_lies (by assumption)) ?_; rintro ⟨_, _, _, _⟩ _; try dsimp only)
    | with_reducible refine po_cond (fun _ => ?_) (fun _ => ?_)
    | with_reducible refine po_bind_cond (fun _ => ?_) (fun _ => ?_)
    | with_reducible refine po_bl (fun _ _ => ?_))
end H9ez4a
end Qz139
section Qz140
/-! a night, on both sides: its minutes -/
section H9ez5
variable {h q : Nat} {k l k' l' N x E : Int} {ex : Prop} {P : Nat → Nat → Nat} {F F' : Nat → Nat → Int32} {A A' A1 : Nat → Nat → Nat → Int32} {J : Nat → Nat → Nat → Int64} {Fm Fm' : Nat → Int32} {Am Am' Am1 : Nat → Nat → Int32} {Jm : Nat → Nat → Int64} {x1 x4 x5 y1 y2 : Int32} {β γ δ : Type}
/-- the ways of a house with such doors shut, as a run of the class finds them -/
def wrun (n n' : Nat) (P : Nat → Nat → Nat) (F : Nat → Nat → Int32) (A : Nat → Nat → Nat → Int32) (J : Nat → Nat → Nat → Int64) (h : Nat) (sh : Int32) : Option (cR Unit) := (e_Ways_takeDoors n P F A J h sh).bind fun (_, P3, F4, A5, J6) => e_Ways_joinWays n' P3 F4 A5 J6 (F4 h 13)
/-- what such a run finds -/
def WDx (h : Nat) (F : Nat → Nat → Int32) (A : Nat → Nat → Nat → Int32) (sh : Int32) (D : Int → Int → Int) : Prop := ∀ (n n' : Nat) (P : Nat → Nat → Nat) (F' : Nat → Nat → Int32) (A' : Nat → Nat → Nat → Int32) (J : Nat → Nat → Nat → Int64), (∀ k, F' h k = F h k) → (∀ o, o ≠ 17 → A' h o = A h o) → po (wrun n n' P F' A' J h sh) (fun r => ∀ a b : Int, 0 ≤ a → a < (F h 13).toInt → 0 ≤ b → b < (F h 13).toInt → cx r.2.2.2.1 a b = D a b)
/-- what is kept of the ways is what such a run found -/
def WCx (h : Nat) (F : Nat → Nat → Int32) (A : Nat → Nat → Nat → Int32) : Prop := F 36 101 = -1 ∨ ∃ (n n' : Nat) (P : Nat → Nat → Nat) (F' : Nat → Nat → Int32) (A' : Nat → Nat → Nat → Int32) (J : Nat → Nat → Nat → Int64) (r : cR Unit), (∀ k, F' h k = F h k) ∧ (∀ o, o ≠ 17 → A' h o = A h o) ∧ wrun n n' P F' A' J h (F 36 101) = some r ∧ A 36 2 = r.2.2.2.1 36 2
theorem WDx.cg {D : Int → Int → Int} {sh : Int32} (W : WDx h F A sh D) (hF : ∀ k, F' h k = F h k) (hA : ∀ o, o ≠ 17 → A' h o = A h o) : WDx h F' A' sh D := by
  intro n n' P F1 A1 J f a
  have w := W n n' P F1 A1 J (fun k => (f k).trans (hF k)) (fun o ho => (a o ho).trans (hA o ho))
  rw [hF]
  exact w
theorem WCx.cg (W : WCx h F A) (hF : ∀ k, F' h k = F h k) (hA : ∀ o, o ≠ 17 → A' h o = A h o) (f : F' 36 101 = F 36 101) (a : A' 36 2 = A 36 2) : WCx h F' A' := by
  rcases W with w | ⟨n, n', P, F1, A1, J, r, w1, w2, w3, w4⟩
  · exact .inl (f.trans w)
  · exact .inr ⟨n, n', P, F1, A1, J, r, fun k => (w1 k).trans (hF k).symm, fun o ho => (w2 o ho).trans (hA o ho).symm, by rw [f]; exact w3, a.trans w4⟩
/-- the fewest minutes between two rooms -/
theorem v_between {n : Nat} {sh x3 x4 : Int32} {D : Int → Int → Int} (W : WCx h F A) (WD : WDx h F A sh D) (hs : sh ≠ -1) (h3 : 0 ≤ x3.toInt ∧ x3.toInt < (F h 13).toInt) (h4 : 0 ≤ x4.toInt ∧ x4.toInt < (F h 13).toInt) (h8 : (F h 13).toInt ≤ 8) (h36 : h ≠ 36) : po (e_Ways_between n P F A J h sh x3 x4) (fun r => r.1.toInt = D x3.toInt x4.toInt ∧ (r.2.1 = P ∧ (∀ r' k, ¬ (r' = 36 ∧ k = 101) → r.2.2.1 r' k = F r' k) ∧ ∀ r' o, ¬ (r' = 36 ∧ o = 2) → r.2.2.2.1 r' o = A r' o) ∧ WCx h r.2.2.1 r.2.2.2.1) := by
  unfold e_Ways_between
  refine po_cond (fun c => ?_) (fun c => ?_)
  · rw [i_eq] at c
    have c := i_ext c
    unfold e_Ways_between_27
    refine po_bl (fun v hv => po_some ⟨?_, ⟨rfl, fun _ _ _ => rfl, fun _ _ _ => rfl⟩, W⟩)
    have g := cx_ld hv h3.1 (by omega) h4.1 (by omega)
    rw [g]
    rcases W with w | ⟨n, n', P, F1, A1, J, r, w1, w2, w3, w4⟩
    · exact absurd (c.trans w) hs
    · rw [← c] at w3
      have := WD n n' P F1 A1 J w1 w2 r w3 x3.toInt x4.toInt h3.1 h3.2 h4.1 h4.2
      rw [← this]
      unfold cx
      rw [ci_fr w4]
  · refine po_bl (fun a ha => ?_)
    have wa := wf_e_Ways_takeDoors WFx.rfl' a ha
    obtain ⟨u, P3, F4, A5, J6⟩ := a
    obtain ⟨rfl, rfl, a5⟩ := wa
    dsimp only at a5 ⊢
    refine po_bl (fun b hb => ?_)
    have wb := wf_e_Ways_joinWays (P0 := P3) (F0 := F4) (A0 := A) ⟨rfl, rfl, a5⟩ b hb
    obtain ⟨u', P8, F9, A10, J11⟩ := b
    obtain ⟨rfl, rfl, a10⟩ := wb
    dsimp only at a10 ⊢
    refine po_bl (fun F12 h12 => po_bl (fun v hv => po_some ?_))
    have u := gg_cpf h12
    have run : wrun n n P8 F9 A J h sh = some (u', P8, F9, A10, J11) := by
      unfold wrun
      rw [ha]
      exact hb
    have g := cx_ld hv h3.1 (by omega) h4.1 (by omega)
    refine ⟨?_, ⟨rfl, u.2, a10⟩, .inr ⟨n, n, P8, F9, A, J, (u', P8, F9, A10, J11), fun k => (u.2 h k (fun e => h36 e.1)).symm, fun o ho => (a10 h o (fun e => h36 e.1)).symm, ?_, rfl⟩⟩
    · rw [g]
      exact WD n n P8 F9 A J (fun _ => rfl) (fun _ _ => rfl) _ run x3.toInt x4.toInt h3.1 h3.2 h4.1 h4.2
    · show wrun n n P8 F9 A J h (F12 36 101) = _
      rw [u.1]
      exact run
theorem p2_bcl {c : Bool} {o1 o2 : Option β} {g : β → Option γ} {z : Option δ} {Q : γ → δ → Prop} (h1 : c = true → P2 (o1.bind g) z Q) (h2 : c = false → P2 (o2.bind g) z Q) : P2 ((cond c o1 o2).bind g) z Q := by
  cases c with
  | true => exact h1 rfl
  | false => exact h2 rfl
theorem p2_conv {x y : Option γ} {z : Option δ} {Q : γ → δ → Prop} (e : y = x) (h : P2 x z Q) : P2 y z Q := by
  rw [e]
  exact h
/-- men below x are at (k', l'), the others at (k, l) -/
def NPx (N : Int) (h : Nat) (nm : Int) (A : Nat → Nat → Nat → Int32) (Am : Nat → Nat → Int32) (k l k' l' x : Int) : Prop := ∀ m, 0 ≤ m → m < nm → (m < x → MNx N h A Am k' l' m) ∧ (x ≤ m → MNx N h A Am k l m)
/-- the doors and the nights gone are alike on both sides -/
def SHx (ex : Prop) (q : Nat) (F : Nat → Nat → Int32) (Am : Nat → Nat → Int32) : Prop := ex → (F q 7).toInt = ai Am 48 78 ∧ (F q 8).toInt = ai Am 48 79
theorem SHx.cg (S : SHx ex q F Am) (h7 : F' q 7 = F q 7) (h8 : F' q 8 = F q 8) (m78 : ai Am' 48 78 = ai Am 48 78) (m79 : ai Am' 48 79 = ai Am 48 79) : SHx ex q F' Am' := by
  unfold SHx
  rw [h7, h8, m78, m79]
  exact S
/-- the night on both sides -/
def NBx (ex : Prop) (h q : Nat) (N : Int) (F : Nat → Nat → Int32) (A : Nat → Nat → Nat → Int32) (Fm : Nat → Int32) (Am : Nat → Nat → Int32) (k l k' l' x : Int) : Prop := NHx h F A Fm Am ∧ SBx ex h q F A Am 48 0 ∧ CVx h q (F h 17).toInt A ∧ (WCx h F A ∧ SHx ex q F Am) ∧ NPx N h (F h 17).toInt A Am k l k' l' x
theorem NHx.fb (H : NHx h F A Fm Am) (hq : c_kind q = 2) (f : FBx h q x A A') (g : FBm x Fm Fm' Am Am') : NHx h F A' Fm' Am' :=
  H.fr (fun _ => rfl) (fun o ho => f.1 h o (fun e => k6ne H.kd e.1) (fun e => k62 H.kd hq e.1) (fun e => ho e.2)) (g.1 18 (by decide)) (fun j j8 j44 => g.2.1 j (fun hj => by
    have : ∀ j, j ∈ ([45, 46, 48, 50, 52, 53, 56] : List Nat) → 44 < j := by decide
    have := this j hj
    omega))
theorem MNx.fb {m : Int} (M : MNx N h A Am k l m) (hk : c_kind h = 6) (hq : c_kind q = 2) (f : FBx h q x A A') (g : FBm x Fm Fm' Am Am') (m0 : 0 ≤ m) (m6 : m < 6) (hm : m ≠ x) : MNx N h A' Am' k l m := by
  refine M.cg (f.1 h 5 (fun e => k6ne hk e.1) (fun e => k62 hk hq e.1) (fun e => absurd e.2 (by decide))) (f.2 3 (by simp) m m0 hm) (f.2 4 (by simp) m m0 hm) ?_ ?_ (f.2 7 (by simp) m m0 hm) (fun j j0 j1 => ?_) (g.2.2.2 (42 + m) (by omega) (by omega))
  · rw [ci_fr (f.1 36 5 (fun e => absurd e.2 (by decide)) (fun e => k2ne hq e.1.symm) (fun e => absurd e.2 (by decide)))]
  · rw [ci_fr (f.1 36 6 (fun e => absurd e.2 (by decide)) (fun e => k2ne hq e.1.symm) (fun e => absurd e.2 (by decide)))]
  · by_cases e : j = 50 ∨ j = 52 ∨ j = 53 ∨ j = 56
    · exact g.2.2.1 j e m m0 hm
    · have : j = 51 ∨ j = 54 ∨ j = 55 := by omega
      rcases this with rfl | rfl | rfl
      · rw [ai_fr (g.2.1 51 (by decide))]
      · rw [ai_fr (g.2.1 54 (by decide))]
      · rw [ai_fr (g.2.1 55 (by decide))]
theorem MNx.next {m : Int} (M : MNx N h A Am k (k + 1) m) (hd : ci A 36 3 m ≠ k) : MNx N h A Am (k + 1) (k + 1) m := by
  obtain ⟨a, b, M⟩ := M
  refine ⟨a, b, ?_⟩
  rcases M with M | ⟨m1, m2, m3, m4, M⟩
  · exact .inl M
  · refine .inr ⟨m1, m2, m3, m4, ?_⟩
    rcases M with ⟨c1, c2, c3, c4⟩ | M | M
    · refine .inl ⟨c1, c2, c3, .inr ?_⟩
      omega
    · exact .inr (.inl M)
    · exact .inr (.inr M)
theorem MNx.nof {m : Int} (M : MNx N h A Am k k m) (hd : ci A 36 3 m ≠ k ∨ ci A 36 4 m < 0) : MNx N h A Am k (k + 1) m := by
  obtain ⟨a, b, M⟩ := M
  refine ⟨a, b, ?_⟩
  rcases M with M | ⟨m1, m2, m3, m4, M⟩
  · exact .inl M
  · refine .inr ⟨m1, m2, m3, m4, ?_⟩
    rcases M with M | ⟨c1, c2, c3, c4, c5, c6, c7, c8⟩ | M
    · exact .inl M
    · exact .inr (.inl ⟨c1, c2, c3, c4, c5, c6, by omega, c8⟩)
    · exact .inr (.inr M)
/-- who begins at minute k -/
theorem MNx.due {m : Int} (M : MNx N h A Am k (k + 1) m) (kN : k < N) : ci A 36 3 m = k ↔ (ai Am 50 m = 1 ∧ ai Am 51 m ≤ k) := by
  obtain ⟨a, b, M⟩ := M
  rcases M with ⟨m1, m2, m3, m4, m5, m6⟩ | ⟨m1, m2, m3, m4, M⟩
  · omega
  · rcases M with ⟨c1, c2, c3, c4⟩ | ⟨c1, c2, c3, c4, c5, c6, c7, c8⟩ | ⟨c1, c2, c3⟩
    · omega
    · omega
    · omega
/-- whose step is over at minute k -/
theorem MNx.over {m : Int} (M : MNx N h A Am k k m) : (ci A 36 3 m = k ∧ 0 ≤ ci A 36 4 m) ↔ (ai Am 50 m = 2 ∧ ai Am 52 m = k) := by
  obtain ⟨a, b, M⟩ := M
  rcases M with ⟨m1, m2, m3, m4, m5, m6⟩ | ⟨m1, m2, m3, m4, M⟩
  · omega
  · rcases M with ⟨c1, c2, c3, c4⟩ | ⟨c1, c2, c3, c4, c5, c6, c7, c8⟩ | ⟨c1, c2, c3⟩
    · omega
    · omega
    · omega
/-- all begin, man by man -/
theorem p2_52 {K31 : (Nat → Nat → Nat) → (Nat → Nat → Int32) → (Nat → Nat → Nat → Int32) → (Nat → Nat → Nat → Int64) → Int32 → Int32 → Int32 → Option (cR Unit)} {K27 : (Nat → Int32) → (Nat → Nat → Int32) → (Nat → Nat → Int64) → Int32 → Int32 → Option (mR Unit)} {Q : cR Unit → mR Unit → Prop} (hq : c_kind q = 2) (e8 : P 36 8 = h) (e9 : P 36 9 = q) (k0 : 0 ≤ k) (kE : k < E) (EN : E ≤ N) (hN : N ≤ 600) (eN : N = (F h 18).toInt) (ex1 : x1.toInt = E) (ex4 : x4.toInt = k) (ey2 : y2.toInt = k)
    (kk : ∀ {n m : Nat} {A : Nat → Nat → Nat → Int32} {J : Nat → Nat → Nat → Int64} {Fm : Nat → Int32} {Am : Nat → Nat → Int32} {Jm : Nat → Nat → Int64}, NBx ex h q N F A Fm Am (k + 1) (k + 1) (k + 1) (k + 1) 0 → P2 (e_Sleep_goTill_96 K31 n P F A J x1 x4 x5) (d_goesTill_128 K27 m Fm Am Jm y1 y2) Q) : ∀ {n m : Nat} {A : Nat → Nat → Nat → Int32} {J : Nat → Nat → Nat → Int64} {Fm : Nat → Int32} {Am : Nat → Nat → Int32} {Jm : Nat → Nat → Int64} {x6 y3 : Int32}, NBx ex h q N F A Fm Am k (k + 1) (k + 1) (k + 1) x6.toInt → x6.toInt = y3.toInt → 0 ≤ x6.toInt → P2 (e_Sleep_goTill_52 K31 n P F A J x1 x4 x5 x6) (d_goesTill_75 K27 m Fm Am Jm y1 y2 y3) Q := by
  intro n
  induction n with
  | zero => intro m A J Fm Am Jm x6 y3 _ _ _ a b ha; cases ha
  | succ n ih =>
    intro m A J Fm Am Jm x6 y3 B exy x0
    obtain ⟨H, S, C, W, NP⟩ := B
    have ct := H.ct
    have hm := H.men
    have hn := H.nn
    cases m with
    | zero => intro a b _ hb; cases hb
    | succ m =>
      unfold e_Sleep_goTill_52 d_goesTill_75
      refine p2_bl (fun _ hk => ?_)
      obtain rfl := (gg_chk hk).2.symm
      try rw [e8]
      refine p2_r v_menNow ?_
      intro v22 e22
      refine p2_cl (fun c => ?_) (fun c => ?_)
      · rw [i_ge] at c
        refine p2_cr (fun _ => kk ⟨H, S, C, W, fun m m0 m1 => ⟨fun h => by omega, fun _ => (NP m m0 m1).1 (by omega)⟩⟩) (fun c2 => ?_)
        rw [i_nge] at c2
        omega
      · rw [i_nge] at c
        refine p2_cr (fun c2 => ?_) (fun _ => ?_)
        · rw [i_ge] at c2
          omega
        refine p2_cl (fun c2 => ?_) (fun _ => ?_)
        · rw [i_ge] at c2
          omega
        refine p2_br (fun v24 h24 => ?_)
        have g24 := (gm h24).2.2
        refine p2_cr (fun c2 => ?_) (fun _ => ?_)
        · rw [i_ge] at c2
          omega
        refine p2_bl (fun v29 h29 => p2_br (fun v26 h26 => ?_))
        have g29 := (gl h29).2.2
        have g26 := (gm h26).2.2
        rw [← exy] at g26
        have M := (NP x6.toInt x0 c).2 (Int.le_refl _)
        have du := M.due (by omega)
        have e61 := i_p1 (x := x6) (by omega)
        have e31 := i_p1 (x := y3) (by omega)
        -- nobody begins
        have skip : ci A 36 3 x6.toInt ≠ k → P2 (e_Sleep_goTill_90 K31 (e_Sleep_goTill_52 K31 n) n P F A J x1 x4 x5 x6) (d_goesTill_122 K27 (d_goesTill_75 K27 m) m Fm Am Jm y1 y2 y3) Q := fun hne => by
          unfold e_Sleep_goTill_90 d_goesTill_122
          refine ih ⟨H, S, C, W, fun m m0 m1 => ⟨fun h => ?_, fun h => (NP m m0 m1).2 (by omega)⟩⟩ (by omega) (by omega)
          by_cases e : m = x6.toInt
          · rw [e]
            exact M.next hne
          · exact (NP m m0 m1).1 (by omega)
        by_cases hd : ci A 36 3 x6.toInt = k
        · obtain ⟨h50, h51⟩ := du.mp hd
          refine p2_cl (fun c3 => ?_) (fun _ => ?_)
          · rw [i_ne] at c3
            omega
          refine p2_cr (fun c3 => ?_) (fun _ => ?_)
          · rw [i_ne, i_1] at c3
            omega
          refine p2_br (fun v28 h28 => ?_)
          have g28 := (gm h28).2.2
          rw [← exy] at g28
          refine p2_cr (fun c3 => ?_) (fun _ => ?_)
          · rw [i_gt] at c3
            omega
          refine p2_call (p2_begin (n := n) (m := m) (J := J) (Jm := Jm) H hq e8 e9 S C (fun m m0 m1 => ?_) M x0 c h50 h51 k0 (by omega) hN rfl exy.symm ex4 ey2) ?_
          · by_cases e : m < x6.toInt
            · exact ⟨_, (NP m m0 m1).1 e⟩
            · exact ⟨_, (NP m m0 m1).2 (by omega)⟩
          rintro ⟨_, P32, F33, A34, J35⟩ ⟨_, F31, A32, J33⟩ ⟨⟨eP, eF⟩, f, g, S', C', M'⟩
          dsimp only at eP eF f g S' C' M' ⊢
          rw [eP, eF]
          have H' := H.fb hq f g
          refine ih ⟨H', S', C', ⟨W.1.cg (fun _ => rfl) (fun o ho => f.1 h o (fun e => k6ne H.kd e.1) (fun e => k62 H.kd hq e.1) (fun e => ho e.2)) rfl (f.1 36 2 (fun e => absurd e.2 (by decide)) (fun e => k2ne hq e.1.symm) (fun e => absurd e.2 (by decide))), W.2.cg rfl rfl (g.2.2.2 78 (by decide) (.inr (by decide))) (g.2.2.2 79 (by decide) (.inr (by decide)))⟩, fun m m0 m1 => ⟨fun h => ?_, fun h => ?_⟩⟩ (by omega) (by omega)
          · by_cases e : m = x6.toInt
            · rw [e]
              exact M'
            · exact ((NP m m0 m1).1 (by omega)).fb H.kd hq f g m0 (by omega) e
          · exact ((NP m m0 m1).2 (by omega)).fb H.kd hq f g m0 (by omega) (by omega)
        · refine p2_cl (fun _ => ?_) (fun c3 => ?_)
          · refine p2_cr (fun _ => skip hd) (fun c4 => ?_)
            rw [i_nne, i_1] at c4
            refine p2_br (fun v28 h28 => ?_)
            have g28 := (gm h28).2.2
            rw [← exy] at g28
            refine p2_cr (fun _ => skip hd) (fun c5 => ?_)
            rw [i_ngt] at c5
            exact absurd (du.mpr ⟨by omega, by omega⟩) hd
          · rw [i_nne] at c3
            omega
end H9ez5
end Qz140
section Qz141
section H9ez6
variable {h q : Nat} {k l k' l' N x E : Int} {ex : Prop} {P : Nat → Nat → Nat} {F F' : Nat → Nat → Int32} {A A' A1 : Nat → Nat → Nat → Int32} {J : Nat → Nat → Nat → Int64} {Fm Fm' : Nat → Int32} {Am Am' Am1 : Nat → Nat → Int32} {Jm : Nat → Nat → Int64} {x1 x2 x4 x5 y1 y2 y3 : Int32} {β γ δ : Type}
/-- a man's step is over: what both have then -/
def OVx (ex : Prop) (h q : Nat) (N k x : Int) (F : Nat → Nat → Int32) (A A' : Nat → Nat → Nat → Int32) (Fm Fm' : Nat → Int32) (Am Am' : Nat → Nat → Int32) : Prop := NHx h F A' Fm' Am' ∧ SBx ex h q F A' Am' 48 0 ∧ CVx h q (F h 17).toInt A' ∧ MNx N h A' Am' k (k + 1) x ∧ (∀ m, 0 ≤ m → m < 6 → m ≠ x → (∀ o, 3 ≤ o → o ≤ 7 → ci A' 36 o m = ci A 36 o m) ∧ (∀ j, 50 ≤ j → j ≤ 56 → ai Am' j m = ai Am j m)) ∧ (∀ i, 42 ≤ i → ai Am' 48 i = ai Am 48 i) ∧ A' h 5 = A h 5 ∧ A' 36 2 = A 36 2 ∧ (∀ o, o ≠ 17 → A' h o = A h o)
/-- a step is over, on both sides -/
theorem p2_over {u t : Int} {n m : Nat} {v9 v10 : Int32} {g : cR Unit → Option (cR Unit)} {g' : mR Unit → Option (mR Unit)} {Q : cR Unit → mR Unit → Prop} (H : NHx h F A Fm Am) (hq : c_kind q = 2) (e8 : P 36 8 = h) (e9 : P 36 9 = q) (S : SBx ex h q F A Am 48 0) (C : CVx h q (F h 17).toInt A) (x0 : 0 ≤ x) (x6 : x < (F h 17).toInt) (M6 : ci A 36 6 x = ai Am 55 x) (M7 : ci A 36 7 x = ai Am 56 x) (be : ai Am 56 x = 0) (t0 : 0 ≤ t) (t1 : t < (F h 16).toInt) (u0 : 0 ≤ u) (u1 : u < ci A h 5 t) (et : ai Am 48 (42 + x) = t) (el : ci A q 3 x / 6 = t) (d4 : ci A 36 4 x = u) (d53 : ai Am 53 x = u) (f51 : ai Am 51 x ≤ k) (due : ci A 36 3 x = k) (e2 : x2.toInt = x) (e3 : y3.toInt = x) (ev9 : v9.toInt = t) (ev10 : v10.toInt = u)
    (kk : ∀ {A' : Nat → Nat → Nat → Int32} {J' : Nat → Nat → Nat → Int64} {Fm' : Nat → Int32} {Am' : Nat → Nat → Int32} {Jm' : Nat → Nat → Int64}, OVx ex h q N k x F A A' Fm Fm' Am Am' → P2 (g ((), P, F, A', J')) (g' ((), Fm', Am', Jm')) Q) : P2 ((e_House_finish P F A J h q v9 v10).bind fun (_, P14, F15, A16, J17) => (c_chk 6 (P14 36 8)).bind fun q18 => (m_ld (A16 q18 10) 36 ((v9 * 6) + v10)).bind fun v19 => cond (g_cnd .lt v19 0) ((c_st A16 36 5 6 x2 v10).bind fun A26 => (m_ld (A26 36 6) 6 x2).bind fun v27 => (c_st A26 36 6 6 x2 (v27 + 1)).bind fun A28 => (c_st A28 36 4 6 x2 ((-1))).bind fun A29 => g ((), P14, F15, A29, J17)) ((c_st A16 36 8 6 v19 0).bind fun A21 => (c_st A21 36 5 6 x2 v10).bind fun A22 => (m_ld (A22 36 6) 6 x2).bind fun v23 => (c_st A22 36 6 6 x2 (v23 + 1)).bind fun A24 => (c_st A24 36 4 6 x2 ((-1))).bind fun A25 => g ((), P14, F15, A25, J17))) ((d_isOver Fm Am Jm y3).bind g') Q := by
  have ct := H.ct
  have hs := H.sd
  have hk := H.kd
  have hne : h ≠ q := k62 hk hq
  have h36 : h ≠ 36 := k6ne hk
  have q36 : q ≠ 36 := k2ne hq
  have s6 := H.s6 t0
  have i42 := kx1 (c := 42) (x := y3) (k := 42) (by decide) (by decide) (by omega)
  have lm : (-1 : Int32).toInt = -1 := by decide
  unfold d_isOver
  refine p2_bbr (fun w1 k1 => p2_bbr (fun w2 k2 => ?_))
  have a1 := (gm k1).2.2
  have a2 := (gm k2).2.2
  rw [i42, e3, et] at a1
  rw [e3, d53] at a2
  rw [Option.bind_assoc]
  refine p2_call (p2_fin (J := J) (Jm := Jm) H S hq t0 t1 u0 u1 ev9 ev10 a1 a2) ?_
  rintro ⟨_, P14, F15, A16, J17⟩ ⟨_, F4, A5, J6⟩ ⟨eP, eF, oA, eM, oM, o48, D⟩
  dsimp only at eP eF oA eM oM o48 D ⊢
  rw [eP, eF, eM]
  refine p2_bl (fun _ hk => ?_)
  obtain rfl := (gg_chk hk).2.symm
  try rw [e8]
  refine p2_bl (fun v19 h19 => ?_)
  have ic := cx6 (x := v9) (y := v10) (by omega) (by omega)
  have g19 := (gl h19).2.2
  rw [ic, ev9, ev10, ci_fr (oA h 10 (fun e => hne e.1))] at g19
  have tl : TUc h q A x = v19.toInt := by
    unfold TUc
    rw [el, d4, g19]
  refine p2_bbr (fun B7 k7 => p2_bbr (fun w8 k8 => p2_bbr (fun B9 k9 => p2_bbr (fun w10 k10 => p2_bbr (fun B11 k11 => ?_)))))
  have M7' := gg_st k7
  have a8 := (gm k8).2.2
  have M9 := gg_st k9
  have a10 := (gm k10).2.2
  have M11 := gg_st k11
  rw [e3, i_1] at M7'
  rw [e3, ai_fr (M7'.2.2.1 53 (by decide)), ai_fr (oM 53 (by decide)), d53] at a8
  rw [e3] at M9
  rw [e3, ai_fr (M9.2.2.1 55 (by decide)), ai_fr (M7'.2.2.1 55 (by decide)), ai_fr (oM 55 (by decide))] at a10
  rw [e3] at M11
  have bo : ∀ j, j ≠ 48 → j ≠ 50 → j ≠ 54 → j ≠ 55 → B11 j = Am j := fun j h1 h2 h3 h4 => by rw [M11.2.2.1 j h4, M9.2.2.1 j h3, M7'.2.2.1 j h2, oM j h1]
  have b48 : B11 48 = A5 48 := by rw [M11.2.2.1 48 (by decide), M9.2.2.1 48 (by decide), M7'.2.2.1 48 (by decide)]
  have b50 : ai B11 50 x = 1 := by rw [ai_fr (M11.2.2.1 50 (by decide)), ai_fr (M9.2.2.1 50 (by decide))]; exact M7'.2.2.2.1
  have b54 : ai B11 54 x = u := by rw [ai_fr (M11.2.2.1 54 (by decide)), M9.2.2.2.1, a8]
  have b55 : ai B11 55 x = (w10 + 1).toInt := M11.2.2.2.1
  have o48' : ∀ i, 42 ≤ i → ai B11 48 i = ai Am 48 i := fun i hi => by rw [ai_fr b48]; exact o48 i (by omega) (.inr hi)
  have bm : ∀ m, 0 ≤ m → m ≠ x → ∀ j, 50 ≤ j → j ≤ 56 → ai B11 j m = ai Am j m := fun m m0 hm j j0 j1 => by
    by_cases e0 : j = 50
    · subst e0
      rw [ai_fr (M11.2.2.1 50 (by decide)), ai_fr (M9.2.2.1 50 (by decide)), M7'.2.2.2.2 m m0 hm, ai_fr (oM 50 (by decide))]
    by_cases e4 : j = 54
    · subst e4
      rw [ai_fr (M11.2.2.1 54 (by decide)), M9.2.2.2.2 m m0 hm, ai_fr (M7'.2.2.1 54 (by decide)), ai_fr (oM 54 (by decide))]
    by_cases e5 : j = 55
    · subst e5
      rw [M11.2.2.2.2 m m0 hm, ai_fr (M9.2.2.1 55 (by decide)), ai_fr (M7'.2.2.1 55 (by decide)), ai_fr (oM 55 (by decide))]
    rw [ai_fr (bo j (by omega) e0 e4 e5)]
  -- the class's four stores, behind whatever has become of the tool
  have fin : ∀ {A2 A26 A28 A29 : Nat → Nat → Nat → Int32} {v27 : Int32}, (∀ r o, ¬ (r = 36 ∧ o = 8) → A2 r o = A16 r o) → ((v19.toInt < 0 ∧ A2 36 8 = A16 36 8) ∨ (0 ≤ v19.toInt ∧ ci A2 36 8 v19.toInt = 0 ∧ ∀ u, 0 ≤ u → u ≠ v19.toInt → ci A2 36 8 u = ci A16 36 8 u)) → c_st A2 36 5 6 x2 v10 = some A26 → m_ld (A26 36 6) 6 x2 = some v27 → c_st A26 36 6 6 x2 (v27 + 1) = some A28 → c_st A28 36 4 6 x2 (-1) = some A29 → P2 (g ((), P, F, A29, J17)) (g' ((), Fm, B11, J6)) Q := fun {A2 A26 A28 A29 v27} o2 z h26 h27 h28 h29 => by
    have U26 := (gg_cst h26).2.2
    have g27 := (gl h27).2.2
    have U28 := (gg_cst h28).2.2
    have U29 := (gg_cst h29).2.2
    rw [e2] at U26 U28
    rw [e2, lm] at U29
    rw [e2, ci_fr (U26.2.2 36 6 (by decide)), ci_fr (o2 36 6 (by decide)), ci_fr (oA 36 6 (fun e => q36 e.1.symm)), M6] at g27
    have oo : ∀ r o, ¬ (r = 36 ∧ (o = 4 ∨ o = 5 ∨ o = 6)) → A29 r o = A2 r o := fun r o e => by rw [U29.2.2 r o (fun e' => e ⟨e'.1, .inl e'.2⟩), U28.2.2 r o (fun e' => e ⟨e'.1, .inr (.inr e'.2)⟩), U26.2.2 r o (fun e' => e ⟨e'.1, .inr (.inl e'.2)⟩)]
    have oq : ∀ o, o ≠ 1 → A29 q o = A q o := fun o ho => by rw [oo q o (fun e => q36 e.1), o2 q o (fun e => q36 e.1), oA q o (fun e => ho e.2)]
    have oh : ∀ o, A29 h o = A h o := fun o => by rw [oo h o (fun e => h36 e.1), o2 h o (fun e => h36 e.1), oA h o (fun e => hne e.1)]
    have o3 : ∀ o, o ≠ 4 → o ≠ 5 → o ≠ 6 → o ≠ 8 → A29 36 o = A 36 o := fun o h1 h2 h3 h4 => by rw [oo 36 o (by omega), o2 36 o (fun e => h4 e.2), oA 36 o (fun e => q36 e.1.symm)]
    have c4 : ci A29 36 4 x = -1 := U29.1
    have c6 : ci A29 36 6 x = (v27 + 1).toInt := by rw [ci_fr (U29.2.2 36 6 (by decide))]; exact U28.1
    have c5 : ci A29 36 5 x = u := by rw [ci_fr (U29.2.2 36 5 (by decide)), ci_fr (U28.2.2 36 5 (by decide)), U26.1, ev10]
    have cm : ∀ m, 0 ≤ m → m ≠ x → ∀ o, 3 ≤ o → o ≤ 7 → ci A29 36 o m = ci A 36 o m := fun m m0 hm o o0 o1 => by
      by_cases f4 : o = 4
      · subst f4
        rw [U29.2.1 m m0 hm, ci_fr (U28.2.2 36 4 (by decide)), ci_fr (U26.2.2 36 4 (by decide)), ci_fr (o2 36 4 (by decide)), ci_fr (oA 36 4 (fun e => q36 e.1.symm))]
      by_cases f5 : o = 5
      · subst f5
        rw [ci_fr (U29.2.2 36 5 (by decide)), ci_fr (U28.2.2 36 5 (by decide)), U26.2.1 m m0 hm, ci_fr (o2 36 5 (by decide)), ci_fr (oA 36 5 (fun e => q36 e.1.symm))]
      by_cases f6 : o = 6
      · subst f6
        rw [ci_fr (U29.2.2 36 6 (by decide)), U28.2.1 m m0 hm, ci_fr (U26.2.2 36 6 (by decide)), ci_fr (o2 36 6 (by decide)), ci_fr (oA 36 6 (fun e => q36 e.1.symm))]
      rw [ci_fr (o3 o f4 f5 f6 (by omega))]
    have ew : v27 = w10 := i_ext (by rw [g27, a10])
    refine kk ⟨H.fr (fun _ => rfl) (fun o _ => oh o) rfl (fun j _ _ => bo j (by omega) (by omega) (by omega) (by omega)), ?_, ?_, ?_, fun m m0 _ hm => ⟨fun o o0 o1 => cm m m0 hm o o0 o1, bm m m0 hm⟩, o48', oh 5, o3 2 (by decide) (by decide) (by decide) (by decide), fun o _ => oh o⟩
    · refine SBx.mk0 (fun k k0 k1 => ?_) (fun k k0 k1 => ?_) (fun k k0 k1 => ?_) (fun m m0 m1 => ?_)
      · rw [ci_fr (oo q 1 (fun e => q36 e.1)), ci_fr (o2 q 1 (fun e => q36 e.1)), ai_fr b48]
        exact D k k0 k1
      · rw [ci_fr (oq 2 (by decide)), ai_fr b48, o48 k k0 (.inl k1)]
        exact S.sf k0 k1
      · rw [ci_fr (oq 4 (by decide)), o48' _ (by omega)]
        exact S.tl k0 k1
      · rw [ci_fr (oq 3 (by decide)), ci_fr (oq 5 (by decide)), ci_fr (oq 6 (by decide)), ci_fr (oq 7 (by decide)), o48' _ (by omega), o48' _ (by omega), o48' _ (by omega), o48' _ (by omega), o48' _ (by omega)]
        obtain ⟨s1, s2⟩ := S.mn m0 m1
        exact ⟨s1.cg rfl (oh 5), s2⟩
    · have z8 : A16 36 8 = A 36 8 := oA 36 8 (fun e => q36 e.1.symm)
      have y8 : A29 36 8 = A2 36 8 := oo 36 8 (by decide)
      refine C.fin x0 x6 (oh 10) (oh 4) (oq 3 (by decide)) (oq 4 (by decide)) (by omega) c4 (fun m m0 hm => cm m m0 hm 4 (by decide) (by decide)) ?_
      rw [tl, y8]
      rcases z with ⟨z1, z2⟩ | ⟨z1, z2, z3⟩
      · exact .inl ⟨z1, z2.trans z8⟩
      · refine .inr ⟨z1, by rw [ci_fr y8]; exact z2, fun u u0 hu => ?_⟩
        rw [ci_fr y8, z3 u u0 hu, ci_fr z8]
    · unfold MNx
      rw [c6, c4, c5, ci_fr (o3 7 (by decide) (by decide) (by decide) (by decide)), ci_fr (o3 3 (by decide) (by decide) (by decide) (by decide)), ci_fr (oh 5), b50, b54, b55, o48' _ (by omega), ai_fr (bo 56 (by decide) (by decide) (by decide) (by decide)), ai_fr (bo 51 (by decide) (by decide) (by decide) (by decide)), et, ew]
      exact ⟨rfl, ⟨M7, .inl be⟩, .inr ⟨t0, rfl, u0, u1, .inl ⟨rfl, be, rfl, .inl ⟨f51, due⟩⟩⟩⟩
  refine p2_cl (fun c => ?_) (fun c => ?_)
  · rw [i_lt, i_0] at c
    refine p2_bl (fun A26 h26 => p2_bl (fun v27 h27 => p2_bl (fun A28 h28 => p2_bl (fun A29 h29 => ?_))))
    exact fin (fun _ _ _ => rfl) (.inl ⟨c, rfl⟩) h26 h27 h28 h29
  · rw [i_nlt, i_0] at c
    refine p2_bl (fun A21 h21 => p2_bl (fun A26 h26 => p2_bl (fun v27 h27 => p2_bl (fun A28 h28 => p2_bl (fun A29 h29 => ?_)))))
    have U := (gg_cst h21).2.2
    rw [i_0] at U
    exact fin U.2.2 (.inr ⟨c, U.1, U.2.1⟩) h26 h27 h28 h29
/-- all that is over at minute k, man by man -/
theorem p2_34 {K27 : (Nat → Int32) → (Nat → Nat → Int32) → (Nat → Nat → Int64) → Int32 → Int32 → Option (mR Unit)} {fk : cR Unit → Option (cR Unit)} {Q : cR Unit → mR Unit → Prop} (hq : c_kind q = 2) (e8 : P 36 8 = h) (e9 : P 36 9 = q) (ex1 : x1.toInt = k) (ey2 : y2.toInt = k)
    (kk : ∀ {m : Nat} {A : Nat → Nat → Nat → Int32} {J : Nat → Nat → Nat → Int64} {Fm : Nat → Int32} {Am : Nat → Nat → Int32} {Jm : Nat → Nat → Int64}, NBx ex h q N F A Fm Am k (k + 1) k (k + 1) 0 → P2 (fk ((), P, F, A, J)) (d_goesTill_75 K27 m Fm Am Jm y1 y2 0) Q) : ∀ {n m : Nat} {A : Nat → Nat → Nat → Int32} {J : Nat → Nat → Nat → Int64} {Fm : Nat → Int32} {Am : Nat → Nat → Int32} {Jm : Nat → Nat → Int64} {x2 y3 : Int32}, NBx ex h q N F A Fm Am k k k (k + 1) x2.toInt → x2.toInt = y3.toInt → 0 ≤ x2.toInt → P2 ((e_Sleep_finishAll_2 n P F A J x1 x2).bind fk) (d_goesTill_34 K27 m Fm Am Jm y1 y2 y3) Q := by
  intro n
  induction n with
  | zero => intro m A J Fm Am Jm x2 y3 _ _ _ a b ha; cases ha
  | succ n ih =>
    intro m A J Fm Am Jm x2 y3 B exy x0
    obtain ⟨H, S, C, W, NP⟩ := B
    have ct := H.ct
    have hm := H.men
    cases m with
    | zero => intro a b _ hb; cases hb
    | succ m =>
      unfold e_Sleep_finishAll_2 d_goesTill_34
      refine p2_bbl (fun _ hk => ?_)
      obtain rfl := (gg_chk hk).2.symm
      try rw [e8]
      refine p2_r v_menNow ?_
      intro v12 e12
      refine p2_bcl (fun c => ?_) (fun c => ?_)
      · rw [i_ge] at c
        refine p2_cr (fun _ => kk ⟨H, S, C, W, fun m m0 m1 => ⟨fun h => by omega, fun _ => (NP m m0 m1).1 (by omega)⟩⟩) (fun c2 => ?_)
        rw [i_nge] at c2
        omega
      · rw [i_nge] at c
        refine p2_cr (fun c2 => ?_) (fun _ => ?_)
        · rw [i_ge] at c2
          omega
        refine p2_bbl (fun v3 h3 => p2_br (fun w14 k14 => ?_))
        have g3 := (gl h3).2.2
        have a14 := (gm k14).2.2
        rw [← exy] at a14
        have M := (NP x2.toInt x0 c).2 (Int.le_refl _)
        have ov := M.over
        have e21 := i_p1 (x := x2) (by omega)
        have e31 := i_p1 (x := y3) (by omega)
        have skip : ¬ (ci A 36 3 x2.toInt = k ∧ 0 ≤ ci A 36 4 x2.toInt) → P2 ((e_Sleep_finishAll_122 (e_Sleep_finishAll_2 n) n P F A J x1 x2).bind fk) (d_goesTill_67 K27 (d_goesTill_34 K27 m) m Fm Am Jm y1 y2 y3) Q := fun hne => by
          unfold e_Sleep_finishAll_122 d_goesTill_67
          refine ih ⟨H, S, C, W, fun m m0 m1 => ⟨fun h => ?_, fun h => (NP m m0 m1).2 (by omega)⟩⟩ (by omega) (by omega)
          by_cases e : m = x2.toInt
          · rw [e]
            exact M.nof (by omega)
          · exact (NP m m0 m1).1 (by omega)
        -- the reference passes him over
        have ref : ¬ (ci A 36 3 x2.toInt = k ∧ 0 ≤ ci A 36 4 x2.toInt) → P2 ((e_Sleep_finishAll_122 (e_Sleep_finishAll_2 n) n P F A J x1 x2).bind fk) (cond (g_cnd .ne w14 2) (d_goesTill_67 K27 (d_goesTill_34 K27 m) m Fm Am Jm y1 y2 y3) ((m_ld (Am 52) 6 y3).bind fun v16 => cond (g_cnd .ne v16 y2) (d_goesTill_67 K27 (d_goesTill_34 K27 m) m Fm Am Jm y1 y2 y3) ((d_isOver Fm Am Jm y3).bind fun (_, F19, A20, J21) => (d_goesTill_34 K27 m) F19 A20 J21 y1 y2 (y3 + 1)))) Q := fun hne => by
          refine p2_cr (fun _ => skip hne) (fun c4 => ?_)
          rw [i_nne, show (2 : Int32).toInt = 2 by decide] at c4
          refine p2_br (fun w16 k16 => ?_)
          have a16 := (gm k16).2.2
          rw [← exy] at a16
          refine p2_cr (fun _ => skip hne) (fun c5 => ?_)
          rw [i_nne] at c5
          exact absurd (ov.mpr ⟨by omega, by omega⟩) hne
        refine p2_bcl (fun c3 => ?_) (fun c3 => ?_)
        · rw [i_ne] at c3
          exact ref (fun h => by omega)
        rw [i_nne] at c3
        refine p2_bbl (fun v5 h5 => ?_)
        have g5 := (gl h5).2.2
        refine p2_bcl (fun c5 => ?_) (fun c5 => ?_)
        · rw [i_lt, i_0] at c5
          exact ref (fun h => by omega)
        rw [i_nlt, i_0] at c5
        obtain ⟨h50, h52⟩ := ov.mp ⟨by omega, by omega⟩
        refine p2_cr (fun c4 => ?_) (fun _ => ?_)
        · rw [i_ne, show (2 : Int32).toInt = 2 by decide] at c4
          omega
        refine p2_br (fun w16 k16 => ?_)
        have a16 := (gm k16).2.2
        rw [← exy] at a16
        refine p2_cr (fun c4 => ?_) (fun _ => ?_)
        · rw [i_ne] at c4
          omega
        refine p2_bbl (fun _ hk => ?_)
        obtain rfl := (gg_chk hk).2.symm
        try rw [e9]
        refine p2_bbl (fun v8 h8 => p2_bbl (fun v9 h9 => p2_bbl (fun v10 h10 => p2_bbl (fun _ hk => ?_))))
        obtain rfl := (gg_chk hk).2.symm
        try rw [e8]
        refine p2_bbl (fun _ hk => ?_)
        obtain rfl := (gg_chk hk).2.symm
        try rw [e9]
        have g8 := (gl h8).2.2
        have g10 := (gl h10).2.2
        obtain ⟨M6, ⟨M7, -⟩, M'⟩ := M
        have MA : 0 ≤ ai Am 48 (42 + x2.toInt) ∧ ai Am 56 x2.toInt = 0 ∧ ci A 36 4 x2.toInt = ai Am 53 x2.toInt ∧ 0 ≤ ai Am 53 x2.toInt ∧ ai Am 53 x2.toInt < ci A h 5 (ai Am 48 (42 + x2.toInt)) ∧ ci A 36 3 x2.toInt = ai Am 52 x2.toInt ∧ ai Am 51 x2.toInt ≤ ai Am 52 x2.toInt := by
          rcases M' with ⟨m1, m2, m3, m4, m5, m6⟩ | ⟨m1, m2, m3, m4, M'⟩
          · omega
          · rcases M' with ⟨c1, c2, c3, c4⟩ | ⟨c1, c2, c3, c4, c5, c6, c7, c8⟩ | ⟨c1, c2, c3⟩
            · omega
            · exact ⟨m1, c2, c3, c4, c5, c6, c8⟩
            · omega
        obtain ⟨t0, be, d1, d2, d3, d5, d6⟩ := MA
        have lq := (S.mn x0 c).1
        have lt : ai Am 48 (42 + x2.toInt) < (F h 16).toInt ∧ ci A q 3 x2.toInt / 6 = ai Am 48 (42 + x2.toInt) ∧ 0 ≤ ci A q 3 x2.toInt := by
          rcases lq with ⟨-, e, -⟩ | ⟨_, t1, w0, w1, e⟩
          · omega
          · have s6 := H.s6 t0
            exact ⟨t1, by omega, by omega⟩
        have ev9 : v9.toInt = ai Am 48 (42 + x2.toInt) := by rw [gg_div6 h9, i_div6 (by omega), g8, lt.2.1]
        have big := p2_over (n := n) (m := m) (v9 := v9) (v10 := v10) (N := N) (k := k) (x2 := x2) (y3 := y3) (J := J) (Jm := Jm) (g := fun (_, P', F', A', J') => (e_Sleep_finishAll_2 n P' F' A' J' x1 (x2 + 1)).bind fk) (g' := fun (_, F19, A20, J21) => (d_goesTill_34 K27 m) F19 A20 J21 y1 y2 (y3 + 1)) (Q := Q) H hq e8 e9 S C x0 c M6 M7 be t0 lt.1 d2 d3 rfl lt.2.1 d1 rfl (by omega) (by omega) rfl exy.symm ev9 (by omega) ?_
        · refine p2_conv ?_ big
          try simp only [Option.bind_assoc]
          congr 1
          funext a
          obtain ⟨_, P14, F15, A16, J17⟩ := a
          dsimp only
          try simp only [Option.bind_assoc]
          congr 1
          funext q18
          congr 1
          funext v19
          cases g_cnd .lt v19 0 with
          | true =>
            rw [cond_true, cond_true]
            unfold e_Sleep_finishAll_97
            try simp only [Option.bind_assoc]
          | false =>
            rw [cond_false, cond_false]
            try simp only [Option.bind_assoc]
        · intro A' J' Fm' Am' Jm' O
          dsimp only
          obtain ⟨H', S', C', M2, om, o48, h5', a2, oh⟩ := O
          refine ih ⟨H', S', C', ⟨W.1.cg (fun _ => rfl) oh rfl a2, W.2.cg rfl rfl (o48 78 (by decide)) (o48 79 (by decide))⟩, fun m m0 m1 => ⟨fun h => ?_, fun h => ?_⟩⟩ (by omega) (by omega)
          · by_cases e : m = x2.toInt
            · rw [e]
              exact M2
            · obtain ⟨z1, z2⟩ := om m m0 (by omega) e
              exact ((NP m m0 m1).1 (by omega)).cg h5' (z1 3 (by decide) (by decide)) (z1 4 (by decide) (by decide)) (z1 5 (by decide) (by decide)) (z1 6 (by decide) (by decide)) (z1 7 (by decide) (by decide)) z2 (o48 _ (by omega))
          · obtain ⟨z1, z2⟩ := om m m0 (by omega) (by omega)
            exact ((NP m m0 m1).2 (by omega)).cg h5' (z1 3 (by decide) (by decide)) (z1 4 (by decide) (by decide)) (z1 5 (by decide) (by decide)) (z1 6 (by decide) (by decide)) (z1 7 (by decide) (by decide)) z2 (o48 _ (by omega))
end H9ez6
end Qz141
section Qz142
section H9ez7
variable {h q : Nat} {k l k' l' N x E : Int} {ex : Prop} {P : Nat → Nat → Nat} {F F' : Nat → Nat → Int32} {A A' A1 : Nat → Nat → Nat → Int32} {J : Nat → Nat → Nat → Int64} {Fm Fm' : Nat → Int32} {Am Am' Am1 : Nat → Nat → Int32} {Jm : Nat → Nat → Int64} {x1 x2 x4 x5 y1 y2 y3 : Int32} {β γ δ : Type}
/-- the reference passes over a minute in which nothing happens -/
theorem r_idle75 {K27 : (Nat → Int32) → (Nat → Nat → Int32) → (Nat → Nat → Int64) → Int32 → Int32 → Option (mR Unit)} {z : Option γ} {Q : γ → mR Unit → Prop} (h1 : ∀ m, 0 ≤ m → m < ai Am 29 (Fm 18).toInt → y2.toInt < ai Am 41 (Fm 18).toInt → ai Am 50 m = 1 → y2.toInt < ai Am 51 m) (kk : P2 z (K27 Fm Am Jm y1 (y2 + 1)) Q) : ∀ {m : Nat} {y3 : Int32}, 0 ≤ y3.toInt → P2 z (d_goesTill_75 K27 m Fm Am Jm y1 y2 y3) Q := by
  intro m
  induction m with
  | zero => intro y3 _ a b _ hb; cases hb
  | succ m ih =>
    intro y3 h0
    unfold d_goesTill_75
    refine p2_r v_menNow ?_
    intro v22 e22
    refine p2_cr (fun _ => ?_) (fun c => ?_)
    · unfold d_goesTill_128
      exact kk
    rw [i_nge] at c
    refine p2_br (fun v24 h24 => ?_)
    have g24 := (gm h24).2.2
    refine p2_cr (fun _ => ?_) (fun c2 => ?_)
    · unfold d_goesTill_128
      exact kk
    rw [i_nge] at c2
    have e31 := i_p1 (x := y3) (by have rg : ai Am 29 (Fm 18).toInt < 2147483648 := (i_rng _).2; omega)
    refine p2_br (fun v26 h26 => ?_)
    have g26 := (gm h26).2.2
    refine p2_cr (fun _ => ?_) (fun c3 => ?_)
    · unfold d_goesTill_122
      exact ih (by omega)
    rw [i_nne, i_1] at c3
    refine p2_br (fun v28 h28 => ?_)
    have g28 := (gm h28).2.2
    refine p2_cr (fun _ => ?_) (fun c4 => ?_)
    · unfold d_goesTill_122
      exact ih (by omega)
    rw [i_ngt] at c4
    have := h1 y3.toInt h0 (by omega) (by omega) (by omega)
    omega
theorem r_idle34 {K27 : (Nat → Int32) → (Nat → Nat → Int32) → (Nat → Nat → Int64) → Int32 → Int32 → Option (mR Unit)} {z : Option γ} {Q : γ → mR Unit → Prop} (h2 : ∀ m, 0 ≤ m → m < ai Am 29 (Fm 18).toInt → ai Am 50 m = 2 → ai Am 52 m ≠ y2.toInt) (kk : ∀ {m : Nat}, P2 z (d_goesTill_75 K27 m Fm Am Jm y1 y2 0) Q) : ∀ {m : Nat} {y3 : Int32}, 0 ≤ y3.toInt → P2 z (d_goesTill_34 K27 m Fm Am Jm y1 y2 y3) Q := by
  intro m
  induction m with
  | zero => intro y3 _ a b _ hb; cases hb
  | succ m ih =>
    intro y3 h0
    unfold d_goesTill_34
    refine p2_r v_menNow ?_
    intro v12 e12
    refine p2_cr (fun _ => kk) (fun c => ?_)
    rw [i_nge] at c
    have e31 := i_p1 (x := y3) (by have rg : ai Am 29 (Fm 18).toInt < 2147483648 := (i_rng _).2; omega)
    refine p2_br (fun v14 h14 => ?_)
    have g14 := (gm h14).2.2
    refine p2_cr (fun _ => ?_) (fun c3 => ?_)
    · unfold d_goesTill_67
      exact ih (by omega)
    rw [i_nne, show (2 : Int32).toInt = 2 by decide] at c3
    refine p2_br (fun v16 h16 => ?_)
    have g16 := (gm h16).2.2
    refine p2_cr (fun _ => ?_) (fun c4 => ?_)
    · unfold d_goesTill_67
      exact ih (by omega)
    rw [i_nne] at c4
    exact absurd (by omega) (h2 y3.toInt h0 (by omega) (by omega))
/-- the least of all due minutes -/
theorem v_next5 (e8 : P 36 8 = h) : ∀ {n : Nat} {x1 x2 : Int32}, 0 ≤ x2.toInt → po (e_Sleep_nextMinute_5 n P F A J x1 x2) (fun r => (r.2.1 = P ∧ r.2.2.1 = F ∧ r.2.2.2.1 = A) ∧ r.1.toInt ≤ x1.toInt ∧ (∀ m, x2.toInt ≤ m → m < (F h 17).toInt → r.1.toInt ≤ ci A 36 3 m) ∧ (r.1.toInt = x1.toInt ∨ ∃ m, x2.toInt ≤ m ∧ m < (F h 17).toInt ∧ r.1.toInt = ci A 36 3 m)) := by
  intro n
  induction n with
  | zero => intro x1 x2 _ r hr; cases hr
  | succ n ih =>
    intro x1 x2 h0
    unfold e_Sleep_nextMinute_5
    refine po_bl (fun _ hk => ?_)
    obtain rfl := (gg_chk hk).2.symm
    try rw [e8]
    refine po_cond (fun c => po_some ⟨⟨rfl, rfl, rfl⟩, Int.le_refl _, fun m m0 m1 => ?_, .inl rfl⟩) (fun c => ?_)
    · rw [i_ge] at c
      omega
    rw [i_nge] at c
    refine po_bl (fun v3 h3 => ?_)
    have g3 := (gl h3).2.2
    have e21 := i_p1 (x := x2) (by have rg := i_rng (F h 17); omega)
    have mn : (if v3 < x1 then v3 else x1).toInt ≤ x1.toInt ∧ (if v3 < x1 then v3 else x1).toInt ≤ v3.toInt ∧ ((if v3 < x1 then v3 else x1).toInt = x1.toInt ∨ (if v3 < x1 then v3 else x1).toInt = v3.toInt) := by
      by_cases hl : v3 < x1
      · rw [if_pos hl]
        rw [Int32.lt_iff_toInt_lt] at hl
        exact ⟨by omega, Int.le_refl _, .inr rfl⟩
      · rw [if_neg hl]
        rw [Int32.lt_iff_toInt_lt] at hl
        exact ⟨Int.le_refl _, by omega, .inl rfl⟩
    generalize (if v3 < x1 then v3 else x1) = w at mn ⊢
    refine po_mono (ih (x1 := w) (x2 := x2 + 1) (by omega)) (fun r hr => ?_)
    obtain ⟨r1, r2, r3, r4⟩ := hr
    refine ⟨r1, by omega, fun m m0 m1 => ?_, ?_⟩
    · by_cases e : m = x2.toInt
      · rw [e]
        omega
      · exact r3 m (by omega) m1
    · rcases r4 with r4 | ⟨m, m0, m1, r4⟩
      · rcases mn.2.2 with e | e
        · exact .inl (by omega)
        · exact .inr ⟨x2.toInt, Int.le_refl _, c, by omega⟩
      · exact .inr ⟨m, by omega, m1, r4⟩
theorem v_next (e8 : P 36 8 = h) {n : Nat} : po (e_Sleep_nextMinute n P F A J) (fun r => (r.2.1 = P ∧ r.2.2.1 = F ∧ r.2.2.2.1 = A) ∧ r.1.toInt ≤ 1000000 ∧ (∀ m, 0 ≤ m → m < (F h 17).toInt → r.1.toInt ≤ ci A 36 3 m) ∧ (r.1.toInt = 1000000 ∨ ∃ m, 0 ≤ m ∧ m < (F h 17).toInt ∧ r.1.toInt = ci A 36 3 m)) := by
  unfold e_Sleep_nextMinute
  refine po_mono (v_next5 e8 (x1 := 1000000) (x2 := 0) (by decide)) (fun r hr => ?_)
  rw [show (1000000 : Int32).toInt = 1000000 by decide, i_0] at hr
  exact hr
theorem r_75_55 {K27 : (Nat → Int32) → (Nat → Nat → Int32) → (Nat → Nat → Int64) → Int32 → Int32 → Option (mR Unit)} {A0 : Nat → Nat → Int32} {R : mR Unit → Prop} (kk : ∀ F A J, A 55 = A0 55 → po (K27 F A J y1 (y2 + 1)) R) : ∀ {m : Nat} {F : Nat → Int32} {A : Nat → Nat → Int32} {J : Nat → Nat → Int64} {y3 : Int32}, A 55 = A0 55 → po (d_goesTill_75 K27 m F A J y1 y2 y3) R := by
  intro m
  induction m with
  | zero => intro F A J y3 _ r hr; cases hr
  | succ m ih =>
    intro F A J y3 hA
    unfold d_goesTill_75 d_goesTill_128 d_goesTill_122
    refine po_call (R := fun _ => True) (fun _ _ => trivial) (fun v22 _ => ?_)
    refine po_cond (fun _ => kk F A J hA) (fun _ => po_bl (fun v24 _ => ?_))
    refine po_cond (fun _ => kk F A J hA) (fun _ => po_bl (fun v26 _ => ?_))
    refine po_cond (fun _ => ih hA) (fun _ => po_bl (fun v28 _ => ?_))
    refine po_cond (fun _ => ih hA) (fun _ => ?_)
    refine po_call (rn_d_begins1 (Ar := A0) hA) ?_
    rintro ⟨_, F31, A32, J33⟩ h
    exact ih h
theorem NBx.to {k'' l'' : Int} (B : NBx ex h q N F A Fm Am k l k' l' 0) : NBx ex h q N F A Fm Am k l k'' l'' (0 : Int32).toInt :=
  ⟨B.1, B.2.1, B.2.2.1, B.2.2.2.1, fun m m0 m1 => ⟨fun h => by rw [i_0] at h; omega, fun _ => (B.2.2.2.2 m m0 m1).2 m0⟩⟩
/-- what men did this night, put down -/
theorem v_wake2 (hq : c_kind q = 2) (hk : c_kind h = 6) (e8 : P 36 8 = h) (e9 : P 36 9 = q) : ∀ {n : Nat} {A : Nat → Nat → Nat → Int32} {J : Nat → Nat → Nat → Int64} {x1 : Int32}, 0 ≤ x1.toInt → po (e_Sleep_wakeUp_2 n P F A J x1) (fun r => (r.2.1 = P ∧ r.2.2.1 = F) ∧ (∀ r' o, ¬ (r' = q ∧ (o = 3 ∨ o = 5 ∨ o = 6)) → r.2.2.2.1 r' o = A r' o) ∧ ∀ m : Int, 0 ≤ m → (m < x1.toInt → ci r.2.2.2.1 q 3 m = ci A q 3 m ∧ ci r.2.2.2.1 q 5 m = ci A q 5 m ∧ ci r.2.2.2.1 q 6 m = ci A q 6 m) ∧ (x1.toInt ≤ m → m < (F h 17).toInt → ci r.2.2.2.1 q 5 m = ci A 36 6 m ∧ r.2.2.2.1 q 6 m.toNat = A q 6 m.toNat + A 36 6 m.toNat ∧ (ci A q 3 m < 0 → ci r.2.2.2.1 q 3 m = ci A q 3 m) ∧ (0 ≤ ci A q 3 m → ci A 36 7 m = 1 → ci r.2.2.2.1 q 3 m = -1) ∧ (0 ≤ ci A q 3 m → ci A 36 7 m ≠ 1 → 0 ≤ ci A 36 5 m → ci A 36 5 m < 6 → ci A q 3 m < 36 → ci r.2.2.2.1 q 3 m = ci A q 3 m / 6 * 6 + ci A 36 5 m))) := by
  intro n
  have q36 : q ≠ 36 := k2ne hq
  have hne : h ≠ q := k62 hk hq
  induction n with
  | zero => intro A J x1 _ r hr; cases hr
  | succ n ih =>
    intro A J x1 h0
    unfold e_Sleep_wakeUp_2
    refine po_bl (fun _ hk => ?_)
    obtain rfl := (gg_chk hk).2.symm
    try rw [e8]
    refine po_cond (fun c => po_some ⟨⟨rfl, rfl⟩, fun _ _ _ => rfl, fun m m0 => ⟨fun _ => ⟨rfl, rfl, rfl⟩, fun m1 m2 => ?_⟩⟩) (fun c => ?_)
    · rw [i_ge] at c
      omega
    rw [i_nge] at c
    have e11 := i_p1 (x := x1) (by have rg := i_rng (F h 17); omega)
    refine po_bl (fun _ hk => ?_)
    obtain rfl := (gg_chk hk).2.symm
    try rw [e9]
    refine po_bl (fun v4 h4 => po_bl (fun _ hk => ?_))
    obtain rfl := (gg_chk hk).2.symm
    try rw [e9]
    refine po_bl (fun v6 h6 => po_bl (fun A7 h7 => po_bl (fun _ hk => ?_)))
    obtain rfl := (gg_chk hk).2.symm
    try rw [e9]
    refine po_bl (fun v9 h9 => po_bl (fun v10 h10 => po_bl (fun A11 h11 => ?_)))
    have g4 := (gl h4).2.2
    have g6 := gg_ld h6
    have U7 := (gg_cst h7).2.2
    have g9 := gg_ld h9
    have g10 := gg_ld h10
    have U11 := (gg_cst h11).2.2
    have z6 : A7 36 6 = A 36 6 := U7.2.2 36 6 (fun e => q36 e.1.symm)
    have y6 : A7 q 6 = A q 6 := U7.2.2 q 6 (fun e => absurd e.2 (by decide))
    have o11 : ∀ r o, ¬ (r = q ∧ (o = 5 ∨ o = 6)) → A11 r o = A r o := fun r o e => by rw [U11.2.2 r o (fun e' => e ⟨e'.1, .inr e'.2⟩), U7.2.2 r o (fun e' => e ⟨e'.1, .inl e'.2⟩)]
    have c5 : ci A11 q 5 x1.toInt = ci A 36 6 x1.toInt := by rw [ci_fr (U11.2.2 q 5 (fun e => absurd e.2 (by decide))), U7.1, g6.2.2]; rfl
    have c6 : A11 q 6 x1.toInt.toNat = A q 6 x1.toInt.toNat + A 36 6 x1.toInt.toNat := i_ext (by
      have e : ci A11 q 6 x1.toInt = (v9 + v10).toInt := U11.1
      rw [g9.2.2, g10.2.2, z6, y6] at e
      exact e)
    have m5 : ∀ m, 0 ≤ m → m ≠ x1.toInt → ci A11 q 5 m = ci A q 5 m := fun m m0 hm => by rw [ci_fr (U11.2.2 q 5 (fun e => absurd e.2 (by decide))), U7.2.1 m m0 hm]
    have m6 : ∀ m, 0 ≤ m → m ≠ x1.toInt → ci A11 q 6 m = ci A q 6 m := fun m m0 hm => by rw [U11.2.1 m m0 hm, ci_fr y6]
    have n6 : ∀ m : Int, 0 ≤ m → m ≠ x1.toInt → A11 q 6 m.toNat = A q 6 m.toNat := fun m m0 hm => i_ext (m6 m m0 hm)
    -- going on, with the row of what men left as it may be
    have go : ∀ {A' : Nat → Nat → Nat → Int32} {J : Nat → Nat → Nat → Int64}, (∀ r o, ¬ (r = q ∧ o = 3) → A' r o = A11 r o) → (∀ m, 0 ≤ m → m ≠ x1.toInt → ci A' q 3 m = ci A q 3 m) → ((ci A q 3 x1.toInt < 0 → ci A' q 3 x1.toInt = ci A q 3 x1.toInt) ∧ (0 ≤ ci A q 3 x1.toInt → ci A 36 7 x1.toInt = 1 → ci A' q 3 x1.toInt = -1) ∧ (0 ≤ ci A q 3 x1.toInt → ci A 36 7 x1.toInt ≠ 1 → 0 ≤ ci A 36 5 x1.toInt → ci A 36 5 x1.toInt < 6 → ci A q 3 x1.toInt < 36 → ci A' q 3 x1.toInt = ci A q 3 x1.toInt / 6 * 6 + ci A 36 5 x1.toInt)) → po (e_Sleep_wakeUp_2 n P F A' J (x1 + 1)) (fun r => (r.2.1 = P ∧ r.2.2.1 = F) ∧ (∀ r' o, ¬ (r' = q ∧ (o = 3 ∨ o = 5 ∨ o = 6)) → r.2.2.2.1 r' o = A r' o) ∧ ∀ m : Int, 0 ≤ m → (m < x1.toInt → ci r.2.2.2.1 q 3 m = ci A q 3 m ∧ ci r.2.2.2.1 q 5 m = ci A q 5 m ∧ ci r.2.2.2.1 q 6 m = ci A q 6 m) ∧ (x1.toInt ≤ m → m < (F h 17).toInt → ci r.2.2.2.1 q 5 m = ci A 36 6 m ∧ r.2.2.2.1 q 6 m.toNat = A q 6 m.toNat + A 36 6 m.toNat ∧ (ci A q 3 m < 0 → ci r.2.2.2.1 q 3 m = ci A q 3 m) ∧ (0 ≤ ci A q 3 m → ci A 36 7 m = 1 → ci r.2.2.2.1 q 3 m = -1) ∧ (0 ≤ ci A q 3 m → ci A 36 7 m ≠ 1 → 0 ≤ ci A 36 5 m → ci A 36 5 m < 6 → ci A q 3 m < 36 → ci r.2.2.2.1 q 3 m = ci A q 3 m / 6 * 6 + ci A 36 5 m))) := fun {A' J} o3 l3 lx => by
      refine po_mono (ih (A := A') (x1 := x1 + 1) (by omega)) (fun r hr => ?_)
      obtain ⟨r1, r2, r3⟩ := hr
      have q5 : A' q 5 = A11 q 5 := o3 q 5 (fun e => absurd e.2 (by decide))
      have q6 : A' q 6 = A11 q 6 := o3 q 6 (fun e => absurd e.2 (by decide))
      have w : ∀ o, A' 36 o = A 36 o := fun o => (o3 36 o (fun e => q36 e.1.symm)).trans (o11 36 o (fun e => q36 e.1.symm))
      refine ⟨r1, fun r' o e => by rw [r2 r' o e, o3 r' o (fun e' => e ⟨e'.1, .inl e'.2⟩), o11 r' o (fun e' => e ⟨e'.1, .inr e'.2⟩)], fun m m0 => ⟨fun m1 => ?_, fun m1 m2 => ?_⟩⟩
      · obtain ⟨a, b, d⟩ := (r3 m m0).1 (by omega)
        rw [a, b, d, ci_fr q5, ci_fr q6, m5 m m0 (by omega), m6 m m0 (by omega), l3 m m0 (by omega)]
        exact ⟨rfl, rfl, rfl⟩
      · by_cases e : m = x1.toInt
        · subst e
          obtain ⟨a, b, d⟩ := (r3 x1.toInt m0).1 (by omega)
          refine ⟨by rw [b, ci_fr q5]; exact c5, ?_, by rw [a]; exact lx.1, by rw [a]; exact lx.2.1, by rw [a]; exact lx.2.2⟩
          rw [← c6, ← q6]
          exact i_ext d
        · obtain ⟨a, b, d⟩ := (r3 m m0).2 (by omega) m2
          rw [ci_fr (w 6)] at a
          rw [w 6, q6, n6 m m0 e] at b
          rw [ci_fr (w 7), ci_fr (w 5), l3 m m0 e] at d
          exact ⟨a, b, d⟩
    refine po_cond (fun c4 => ?_) (fun c4 => ?_)
    · rw [i_lt, i_0] at c4
      unfold e_Sleep_wakeUp_99
      refine go (fun _ _ _ => rfl) (fun m m0 hm => by rw [ci_fr (o11 q 3 (by omega))]) ⟨fun _ => by rw [ci_fr (o11 q 3 (by omega))], fun h => by omega, fun h => by omega⟩
    · rw [i_nlt, i_0] at c4
      refine po_bl (fun v13 h13 => po_bl (fun _ hk => ?_))
      obtain rfl := (gg_chk hk).2.symm
      try rw [e9]
      refine po_bl (fun v15 h15 => ?_)
      have g15 := (gl h15).2.2
      rw [ci_fr (o11 36 7 (fun e => q36 e.1.symm))] at g15
      have st : ∀ {s : Int32} {A18 : Nat → Nat → Nat → Int32}, c_st A11 q 3 6 x1 s = some A18 → (∀ r o, ¬ (r = q ∧ o = 3) → A18 r o = A11 r o) ∧ (∀ m, 0 ≤ m → m ≠ x1.toInt → ci A18 q 3 m = ci A q 3 m) ∧ ci A18 q 3 x1.toInt = s.toInt := fun {s A18} h18 => by
        have U := (gg_cst h18).2.2
        exact ⟨U.2.2, fun m m0 hm => by rw [U.2.1 m m0 hm, ci_fr (o11 q 3 (by omega))], U.1⟩
      refine po_cond (fun c5 => ?_) (fun c5 => ?_)
      · rw [i_ne, i_1] at c5
        refine po_bl (fun v17 h17 => ?_)
        unfold e_Sleep_wakeUp_98
        refine po_bl (fun A18 h18 => ?_)
        obtain ⟨s1, s2, s3⟩ := st h18
        refine go s1 s2 ⟨fun h => by omega, fun _ h => by omega, fun _ _ z0 z1 z2 => ?_⟩
        have g17 := (gl h17).2.2
        rw [ci_fr (o11 36 5 (fun e => q36 e.1.symm))] at g17
        have g13 : v13.toInt = ci A q 3 x1.toInt / 6 := by rw [gg_div6 h13, i_div6 (by omega), g4]
        rw [s3, cx6 (by omega) (by omega), g13, g17]
      · rw [i_nne, i_1] at c5
        unfold e_Sleep_wakeUp_98
        refine po_bl (fun A18 h18 => ?_)
        obtain ⟨s1, s2, s3⟩ := st h18
        exact go s1 s2 ⟨fun h => by omega, fun _ _ => s3.trans (by decide), fun _ h => by omega⟩
/-- what both have when the night is over: the class has put it down -/
def WEx (ex : Prop) (h q : Nat) (F : Nat → Nat → Int32) (A' : Nat → Nat → Nat → Int32) (Am : Nat → Nat → Int32) : Prop := SHx ex q F Am ∧ (∀ k : Int, 0 ≤ k → k < 36 → ci A' q 1 k = ai Am 48 (6 + k)) ∧ (∀ k : Int, 0 ≤ k → k < 6 → ci A' q 2 k = ai Am 48 k ∧ 0 ≤ ci A' q 2 k) ∧ (∀ k : Int, 0 ≤ k → k < 6 → ci A' q 4 k = ai Am 48 (72 + k)) ∧ (∀ m : Int, 0 ≤ m → m < (F h 17).toInt → A' q 6 m.toNat = Am 48 (60 + m).toNat + Am 55 m.toNat ∧ (ex → ci A' q 7 m = ai Am 48 (66 + m)) ∧ ((ai Am 56 m = 1 ∧ ci A' q 3 m = -1) ∨ (ai Am 56 m = 0 ∧ LQx h F A' (ci A' q 3 m) (ai Am 48 (42 + m)) (ai Am 54 m))))
/-- what both have when the night is over -/
def QTx (ex : Prop) (h q : Nat) (N E : Int) (P : Nat → Nat → Nat) (F : Nat → Nat → Int32) (a : cR Unit) (b : mR Unit) : Prop := (a.2.1 = P ∧ a.2.2.1 = F) ∧ (∀ m : Int, 0 ≤ m → m < (F h 17).toInt → ci a.2.2.2.1 q 5 m = ai b.2.2.1 55 m) ∧ (E = N → NHx h F a.2.2.2.1 b.2.1 b.2.2.1 ∧ WCx h F a.2.2.2.1 ∧ WEx ex h q F a.2.2.2.1 b.2.2.1)
/-- the end of the night -/
theorem p2_end {n : Nat} (hq : c_kind q = 2) (e8 : P 36 8 = h) (e9 : P 36 9 = q) (B : NBx ex h q N F A Fm Am k l k' l' x) : P2 (e_Sleep_goTill_119 n P F A J) (some ((), Fm, Am, Jm)) (QTx ex h q N E P F) := by
  obtain ⟨H, S, C, W, NP⟩ := B
  have q36 : q ≠ 36 := k2ne hq
  have hne : h ≠ q := k62 H.kd hq
  have h36 : h ≠ 36 := k6ne H.kd
  have ct := H.ct
  unfold e_Sleep_goTill_119 e_Sleep_wakeUp
  refine p2_l (v_wake2 hq H.kd e8 e9 (x1 := 0) (by decide)) ?_
  rintro ⟨_, P22, F23, A24, J25⟩ ⟨⟨rfl, rfl⟩, o, w⟩
  dsimp only at o w ⊢
  have w : ∀ m : Int, 0 ≤ m → m < (F23 h 17).toInt → ci A24 q 5 m = ci A 36 6 m ∧ A24 q 6 m.toNat = A q 6 m.toNat + A 36 6 m.toNat ∧ (ci A q 3 m < 0 → ci A24 q 3 m = ci A q 3 m) ∧ (0 ≤ ci A q 3 m → ci A 36 7 m = 1 → ci A24 q 3 m = -1) ∧ (0 ≤ ci A q 3 m → ci A 36 7 m ≠ 1 → 0 ≤ ci A 36 5 m → ci A 36 5 m < 6 → ci A q 3 m < 36 → ci A24 q 3 m = ci A q 3 m / 6 * 6 + ci A 36 5 m) := fun m m0 m1 => (w m m0).2 (by rw [i_0]; exact m0) m1
  have MM : ∀ m : Int, 0 ≤ m → m < (F23 h 17).toInt → ∃ k l, MNx N h A Am k l m := fun m m0 m1 => by
    by_cases e : m < x
    · exact ⟨_, _, (NP m m0 m1).1 e⟩
    · exact ⟨_, _, (NP m m0 m1).2 (by omega)⟩
  refine p2_some ⟨⟨rfl, rfl⟩, fun m m0 m1 => ?_, fun _ => ⟨?_, ?_, ?_⟩⟩
  · obtain ⟨k, l, M6, -⟩ := MM m m0 m1
    show ci A24 q 5 m = ai Am 55 m
    rw [(w m m0 m1).1, M6]
  · exact H.fr (fun _ => rfl) (fun p _ => o h p (fun e => hne e.1)) rfl (fun _ _ _ => rfl)
  · exact W.1.cg (fun _ => rfl) (fun p _ => o h p (fun e => hne e.1)) rfl (o 36 2 (fun e => q36 e.1.symm))
  · show WEx ex h q F23 A24 Am
    refine ⟨W.2, fun k k0 k1 => ?_, fun k k0 k1 => ?_, fun k k0 k1 => ?_, fun m m0 m1 => ?_⟩
    · rw [ci_fr (o q 1 (by omega))]; exact S.dn k0 k1
    · rw [ci_fr (o q 2 (by omega))]; exact S.sf k0 k1
    · rw [ci_fr (o q 4 (by omega))]; exact S.tl k0 k1
    · obtain ⟨k, l, M6, ⟨M7, M7'⟩, M⟩ := MM m m0 m1
      obtain ⟨s1, s2, s3, s4⟩ := S.mn m0 m1
      obtain ⟨w1, w2, w3, w4, w5⟩ := w m m0 m1
      refine ⟨?_, by rw [ci_fr (o q 7 (by omega))]; exact s4, ?_⟩
      · rw [w2, i_ext (show (A q 6 m.toNat).toInt = (Am 48 (60 + m).toNat).toInt from s3), i_ext (show (A 36 6 m.toNat).toInt = (Am 55 m.toNat).toInt from M6)]
      · have lq : ∀ {a t u : Int}, LQx h F23 A a t u → LQx h F23 A24 a t u := fun L => L.cg rfl (o h 5 (fun e => hne e.1))
        rcases M with ⟨m1', m2, m3, m4, m5, m6⟩ | ⟨m1', m2, m3, m4, M⟩
        · refine .inr ⟨m6, lq ?_⟩
          have neg : ci A q 3 m < 0 := by
            rcases s1 with ⟨e, -, -⟩ | ⟨e, -, -, -, -⟩ <;> omega
          rw [w3 neg, m1', m2]
          rcases s1 with ⟨e, -, -⟩ | ⟨e, -, -, -, -⟩
          · exact .inl ⟨e, rfl, rfl⟩
          · omega
        · rcases s1 with ⟨-, e, -⟩ | ⟨t0, t1, u0, u1, e⟩
          · omega
          have s6 := H.s6 t0
          rcases M7' with z | z
          · refine .inr ⟨z, lq ?_⟩
            rw [w5 (by omega) (by omega) (by omega) (by omega) (by omega)]
            exact .inr ⟨t0, t1, m3, m4, by omega⟩
          · exact .inl ⟨z, w4 (by omega) (by omega)⟩
/-- the minutes of a night, one by one -/
theorem p2_31 (hq : c_kind q = 2) (e8 : P 36 8 = h) (e9 : P 36 9 = q) (EN : E ≤ N) (hN : N ≤ 600) (eN : N = (F h 18).toInt) (ex1 : x1.toInt = E) (ey1 : y1.toInt = E) : ∀ {m n : Nat} {A : Nat → Nat → Nat → Int32} {J : Nat → Nat → Nat → Int64} {Fm : Nat → Int32} {Am : Nat → Nat → Int32} {Jm : Nat → Nat → Int64} {x4 x5 y2 : Int32}, NBx ex h q N F A Fm Am y2.toInt y2.toInt y2.toInt y2.toInt 0 → 0 ≤ y2.toInt → y2.toInt ≤ x4.toInt → x5.toInt ≤ y2.toInt → 0 ≤ x5.toInt → (y2.toInt ≤ E → ∀ m, 0 ≤ m → m < (F h 17).toInt → x4.toInt ≤ ci A 36 3 m) → P2 (e_Sleep_goTill_31 n P F A J x1 x4 x5) (d_goesTill_27 m Fm Am Jm y1 y2) (QTx ex h q N E P F) := by
  have lF : (1000000 : Int32).toInt = 1000000 := by decide
  intro m
  induction m with
  | zero => intro n A J Fm Am Jm x4 x5 y2 _ _ _ _ _ _ a b _ hb; cases hb
  | succ m ih =>
    intro n A J Fm Am Jm x4 x5 y2 B y0 yx x5y x50 du
    obtain ⟨H, S, C, W, NP⟩ := B
    have ct := H.ct
    have hm := H.men
    have hn := H.nn
    unfold d_goesTill_27
    refine p2_cr (fun c => ?_) (fun c => ?_)
    · -- the night is over
      rw [i_gt] at c
      cases n with
      | zero => intro a b ha; cases ha
      | succ n =>
        unfold e_Sleep_goTill_31
        refine p2_cl (fun _ => p2_end hq e8 e9 ⟨H, S, C, W, NP⟩) (fun _ => p2_cl (fun _ => p2_end hq e8 e9 ⟨H, S, C, W, NP⟩) (fun c2 => ?_))
        rw [i_ngt] at c2
        omega
    rw [i_ngt] at c
    have e21 := i_p1 (x := y2) (by omega)
    have du := du (by omega)
    have MM : ∀ m, 0 ≤ m → m < (F h 17).toInt → MNx N h A Am y2.toInt y2.toInt m := fun m m0 m1 => (NP m m0 m1).2 m0
    by_cases idle : y2.toInt < x4.toInt
    · -- nothing happens in this minute
      have over : ∀ m, 0 ≤ m → m < (F h 17).toInt → ¬ (ai Am 50 m = 2 ∧ ai Am 52 m = y2.toInt) := fun m m0 m1 h => by
        have := (MM m m0 m1).over.mpr h
        have := du m m0 m1
        omega
      have MN1 : ∀ m, 0 ≤ m → m < (F h 17).toInt → MNx N h A Am y2.toInt (y2.toInt + 1) m := fun m m0 m1 => (MM m m0 m1).nof (.inl (by have := du m m0 m1; omega))
      refine r_idle34 (fun m m0 m1 h50 h52 => over m m0 (by omega) ⟨h50, h52⟩) (fun {m'} => ?_) (by decide)
      refine r_idle75 (fun m m0 m1 hN' h50 => ?_) ?_ (by decide)
      · have dd := (MN1 m m0 (by omega)).due (by omega)
        have := du m m0 (by omega)
        omega
      · refine ih ⟨H, S, C, W, fun m m0 m1 => ⟨fun h => by omega, fun _ => ?_⟩⟩ (by omega) (by omega) (by omega) x50 (fun _ => du)
        rw [e21]
        exact (MN1 m m0 m1).next (by have := du m m0 m1; omega)
    · -- something is over, or begins
      have x4e : x4.toInt = y2.toInt := by omega
      cases n with
      | zero => intro a b ha; cases ha
      | succ n =>
        unfold e_Sleep_goTill_31
        refine p2_cl (fun c2 => ?_) (fun _ => p2_cl (fun c2 => ?_) (fun _ => ?_))
        · rw [i_gt] at c2
          omega
        · rw [i_gt] at c2
          omega
        have e51 := i_p1 (x := x5) (by omega)
        unfold e_Sleep_finishAll
        refine p2_34 (k := y2.toInt) (N := N) hq e8 e9 x4e rfl (fun {m' A J Fm Am Jm} B => ?_) ⟨H, S, C, W, fun m m0 m1 => ⟨fun h => by rw [i_0] at h; omega, fun _ => MM m m0 m1⟩⟩ rfl (by decide)
        dsimp only
        by_cases kE : y2.toInt < E
        · refine p2_52 (k := y2.toInt) (E := E) (N := N) hq e8 e9 y0 kE EN hN eN ex1 x4e rfl (fun {n' m' A J Fm Am Jm} B => ?_) (NBx.to B) rfl (by decide)
          unfold e_Sleep_goTill_96 d_goesTill_128
          refine p2_cl (fun c2 => ?_) (fun _ => ?_)
          · rw [i_ge] at c2
            omega
          refine p2_l (v_next e8) ?_
          rintro ⟨v37, P38, F39, A40, J41⟩ ⟨⟨w1, w2, w3⟩, n1, n2, n3⟩
          dsimp only at w1 w2 w3 n1 n2 n3 ⊢
          subst w1 w2 w3
          unfold e_Sleep_goTill_111
          refine ih (by rw [e21]; exact B) (by omega) ?_ (by omega) (by omega) (fun _ => n2)
          rcases n3 with n3 | ⟨m', m0, m1, n3⟩
          · omega
          · have M := (B.2.2.2.2 m' m0 m1).2 m0
            obtain ⟨-, -, M⟩ := M
            rcases M with ⟨c1, c2, c3, c4, c5, c6⟩ | ⟨c1, c2, c3, c4, M⟩
            · omega
            · rcases M with ⟨d1, d2, d3, d4⟩ | ⟨d1, d2, d3, d4, d5, d6, d7, d8⟩ | ⟨d1, d2, d3⟩
              · omega
              · omega
              · omega
        · -- the last minute
          have kE : y2.toInt = E := by omega
          obtain ⟨H', S', C', W', NP'⟩ := B
          have hm' := H'.men
          have hn' := H'.nn
          have cls : ∀ {n' n'' : Nat} {z : Option (mR Unit)}, P2 (e_Sleep_goTill_119 n' P F A J) z (QTx ex h q N E P F) → P2 (e_Sleep_goTill_96 (e_Sleep_goTill_31 (n' + 1)) n'' P F A J x1 x4 x5) z (QTx ex h q N E P F) := fun {n' n'' z} hz => by
            unfold e_Sleep_goTill_96
            refine p2_cl (fun _ => ?_) (fun c2 => ?_)
            · unfold e_Sleep_goTill_111 e_Sleep_goTill_31
              refine p2_cl (fun _ => hz) (fun _ => p2_cl (fun _ => hz) (fun c2 => ?_))
              rw [i_ngt, lF] at c2
              omega
            · rw [i_nge] at c2
              omega
          have cls52 : ∀ {n' n'' : Nat} {z : Option (mR Unit)}, P2 (e_Sleep_goTill_119 n' P F A J) z (QTx ex h q N E P F) → P2 (e_Sleep_goTill_52 (e_Sleep_goTill_31 (n' + 1)) n'' P F A J x1 x4 x5 0) z (QTx ex h q N E P F) := fun {n' n'' z} hz => by
            cases n'' with
            | zero => intro a b ha; cases ha
            | succ n'' =>
              unfold e_Sleep_goTill_52
              refine p2_bl (fun _ hk => ?_)
              refine p2_cl (fun _ => cls hz) (fun _ => p2_cl (fun _ => cls hz) (fun c2 => ?_))
              rw [i_nge] at c2
              omega
          cases n with
          | zero => intro a b ha; cases ha
          | succ n =>
            refine cls52 ?_
            by_cases eEN : E = N
            · -- no step begins any more
              refine r_idle75 (fun m m0 m1 hN' h50 => by omega) ?_ (by decide)
              cases m with
              | zero => intro a b _ hb; cases hb
              | succ m =>
                unfold d_goesTill_27
                refine p2_cr (fun _ => p2_end hq e8 e9 ⟨H', S', C', W', NP'⟩) (fun c2 => ?_)
                rw [i_ngt] at c2
                omega
            · -- what the reference begins in it doesn't count
              have pe := p2_end (n := n) (J := J) (Jm := Jm) (E := E) hq e8 e9 ⟨H', S', C', W', NP'⟩
              have pr : po (d_goesTill_75 (d_goesTill_27 m) m' Fm Am Jm y1 y2 0) (fun b => b.2.2.1 55 = Am 55) := by
                refine r_75_55 (A0 := Am) (fun F' A' J' hA => ?_) rfl
                cases m with
                | zero => intro b hb; cases hb
                | succ m =>
                  unfold d_goesTill_27
                  refine po_cond (fun _ => po_some hA) (fun c2 => ?_)
                  rw [i_ngt] at c2
                  omega
              intro a b ha hb
              obtain ⟨r1, r2, -⟩ := pe a _ ha rfl
              exact ⟨r1, fun m m0 m1 => by rw [r2 m m0 m1, ai_fr (pr b hb)], fun h => absurd h eEN⟩
end H9ez7
end Qz142
section Qz143
section H9ez8
variable {h q : Nat} {k l k' l' N x E : Int} {ex : Prop} {P : Nat → Nat → Nat} {F F' : Nat → Nat → Int32} {A A' A1 : Nat → Nat → Nat → Int32} {J : Nat → Nat → Nat → Int64} {Fm Fm' : Nat → Int32} {Am Am' Am1 : Nat → Nat → Int32} {Jm : Nat → Nat → Int64} {x1 x2 x4 x5 y1 y2 y3 : Int32} {D : Int → Int → Int} {sh : Int32} {β γ δ : Type}
/-- a man gets up, in the reference -/
def GUx (y : Int) (Fm : Nat → Int32) (Am Am' : Nat → Nat → Int32) : Prop := (∀ j, j ≠ 48 → j ≠ 50 → j ≠ 51 → j ≠ 54 → j ≠ 55 → j ≠ 56 → Am' j = Am j) ∧ (∀ i, 0 ≤ i → i ≠ 66 + y → ai Am' 48 i = ai Am 48 i) ∧ (∀ j, 50 ≤ j → j ≤ 56 → ∀ m, 0 ≤ m → m ≠ y → ai Am' j m = ai Am j m) ∧ ai Am' 55 y = 0 ∧ ai Am' 56 y = 0 ∧ ai Am' 54 y = ai Am 48 (48 + y) ∧ ((ai Am 48 (42 + y) < 0 ∧ ai Am' 50 y = 0 ∧ ai Am' 48 (66 + y) = -2) ∨ (0 ≤ ai Am 48 (42 + y) ∧ ∃ e, e = ai Am 49 (8 * ai Am 30 (6 * (Fm 18).toInt + y) + ai Am 20 (6 * (Fm 18).toInt + ai Am 48 (42 + y))) ∧ ai Am' 51 y = e ∧ ((e ≠ 1000000 ∧ ai Am' 50 y = 1 ∧ ai Am' 48 (66 + y) = -2) ∨ (e = 1000000 ∧ ai Am' 50 y = 3 ∧ ai Am' 48 (66 + y) = 0))))
theorem v_getsUp {y : Int} (hs : 0 ≤ (Fm 18).toInt ∧ (Fm 18).toInt ≤ 1) (ey : y2.toInt = y) (y0 : 0 ≤ y) (y6 : y < 6) (ht : ai Am 48 (42 + y) ≤ 5) (hr : 0 ≤ ai Am 48 (42 + y) → (0 ≤ ai Am 30 (6 * (Fm 18).toInt + y) ∧ ai Am 30 (6 * (Fm 18).toInt + y) < 8) ∧ 0 ≤ ai Am 20 (6 * (Fm 18).toInt + ai Am 48 (42 + y)) ∧ ai Am 20 (6 * (Fm 18).toInt + ai Am 48 (42 + y)) < 8) : po (d_getsUp Fm Am Jm y2) (fun b => b.2.1 = Fm ∧ GUx y Fm Am b.2.2.1) := by
  have i42 := kx1 (c := 42) (x := y2) (k := 42) (by decide) (by decide) (by omega)
  have i48 := kx1 (c := 48) (x := y2) (k := 48) (by decide) (by decide) (by omega)
  have i66 := kx1 (c := 66) (x := y2) (k := 66) (by decide) (by decide) (by omega)
  have l2 : (-2 : Int32).toInt = -2 := by decide
  have lF : (1000000 : Int32).toInt = 1000000 := by decide
  have n0 : (vp_nar .boolean 0).toInt = 0 := by decide
  unfold d_getsUp
  refine po_bl (fun v1 h1 => po_bl (fun A2 h2 => po_bl (fun A3 h3 => po_bl (fun A4 h4 => po_bl (fun A5 h5 => po_bl (fun v6 h6 => po_bl (fun A7 h7 => ?_)))))))
  have g1 := (gm h1).2.2
  have M2 := gg_st h2
  have M3 := gg_st h3
  have M4 := gg_st h4
  have M5 := gg_st h5
  have g6 := (gm h6).2.2
  have M7 := gg_st h7
  rw [i42, ey] at g1
  rw [ey, i_0] at M2 M3
  rw [ey, n0] at M4
  rw [i66, ey, l2] at M5
  rw [i48, ey, M5.2.2.2.2 _ (by omega) (by omega), ai_fr (M4.2.2.1 48 (by decide)), ai_fr (M3.2.2.1 48 (by decide)), ai_fr (M2.2.2.1 48 (by decide))] at g6
  rw [ey, g6] at M7
  have o7 : ∀ j, j ≠ 48 → j ≠ 50 → j ≠ 54 → j ≠ 55 → j ≠ 56 → A7 j = Am j := fun j h48 h50 h54 h55 h56 => by rw [M7.2.2.1 j h54, M5.2.2.1 j h48, M4.2.2.1 j h56, M3.2.2.1 j h55, M2.2.2.1 j h50]
  have b48 : ∀ i, 0 ≤ i → i ≠ 66 + y → ai A7 48 i = ai Am 48 i := fun i i0 hi => by rw [ai_fr (M7.2.2.1 48 (by decide)), M5.2.2.2.2 i i0 hi, ai_fr (M4.2.2.1 48 (by decide)), ai_fr (M3.2.2.1 48 (by decide)), ai_fr (M2.2.2.1 48 (by decide))]
  have b66 : ai A7 48 (66 + y) = -2 := by rw [ai_fr (M7.2.2.1 48 (by decide))]; exact M5.2.2.2.1
  have b55 : ai A7 55 y = 0 := by rw [ai_fr (M7.2.2.1 55 (by decide)), ai_fr (M5.2.2.1 55 (by decide)), ai_fr (M4.2.2.1 55 (by decide))]; exact M3.2.2.2.1
  have b56 : ai A7 56 y = 0 := by rw [ai_fr (M7.2.2.1 56 (by decide)), ai_fr (M5.2.2.1 56 (by decide))]; exact M4.2.2.2.1
  have b50 : ai A7 50 y = 0 := by rw [ai_fr (M7.2.2.1 50 (by decide)), ai_fr (M5.2.2.1 50 (by decide)), ai_fr (M4.2.2.1 50 (by decide)), ai_fr (M3.2.2.1 50 (by decide))]; exact M2.2.2.2.1
  have bm : ∀ j, 50 ≤ j → j ≤ 56 → ∀ m, 0 ≤ m → m ≠ y → ai A7 j m = ai Am j m := fun j j0 j1 m m0 hm => by
    by_cases e0 : j = 50
    · subst e0
      rw [ai_fr (M7.2.2.1 50 (by decide)), ai_fr (M5.2.2.1 50 (by decide)), ai_fr (M4.2.2.1 50 (by decide)), ai_fr (M3.2.2.1 50 (by decide))]
      exact M2.2.2.2.2 m m0 hm
    by_cases e4 : j = 54
    · subst e4
      rw [M7.2.2.2.2 m m0 hm, ai_fr (M5.2.2.1 54 (by decide)), ai_fr (M4.2.2.1 54 (by decide)), ai_fr (M3.2.2.1 54 (by decide)), ai_fr (M2.2.2.1 54 (by decide))]
    by_cases e5 : j = 55
    · subst e5
      rw [ai_fr (M7.2.2.1 55 (by decide)), ai_fr (M5.2.2.1 55 (by decide)), ai_fr (M4.2.2.1 55 (by decide)), M3.2.2.2.2 m m0 hm, ai_fr (M2.2.2.1 55 (by decide))]
    by_cases e6 : j = 56
    · subst e6
      rw [ai_fr (M7.2.2.1 56 (by decide)), ai_fr (M5.2.2.1 56 (by decide)), M4.2.2.2.2 m m0 hm, ai_fr (M3.2.2.1 56 (by decide)), ai_fr (M2.2.2.1 56 (by decide))]
    rw [ai_fr (o7 j (by omega) e0 e4 e5 e6)]
  have b54 : ai A7 54 y = ai Am 48 (48 + y) := M7.2.2.2.1
  refine po_cond (fun c => ?_) (fun c => ?_)
  · rw [i_ge, i_0] at c
    obtain ⟨⟨h0, h1'⟩, r0, r1⟩ := hr (by omega)
    refine po_bl (fun v9 h9 => po_bl (fun v10 h10 => po_bl (fun v11 h11 => ?_)))
    have g9 := (gm h9).2.2
    have g10 := (gm h10).2.2
    have g11 := (gm h11).2.2
    rw [ix6 hs (by omega), ey, ai_fr (o7 30 (by decide) (by decide) (by decide) (by decide) (by decide))] at g9
    rw [ix6 hs (by omega), g1, ai_fr (o7 20 (by decide) (by decide) (by decide) (by decide) (by decide))] at g10
    rw [w_ix (by omega) (by omega) (by omega) (by omega), g9, g10, ai_fr (o7 49 (by decide) (by decide) (by decide) (by decide) (by decide))] at g11
    have gu : ∀ {s2 : Int32}, ((v11.toInt ≠ 1000000 ∧ s2.toInt = 1) ∨ (v11.toInt = 1000000 ∧ s2.toInt = 3)) → po (d_getsUp_117 Fm A7 Jm y2 v11 y2 s2) (fun b => b.2.1 = Fm ∧ GUx y Fm Am b.2.2.1) := fun {s2} hs2 => by
      unfold d_getsUp_117
      refine po_bl (fun A13 h13 => po_bl (fun A14 h14 => ?_))
      have M13 := gg_st h13
      have M14 := gg_st h14
      rw [ey] at M13 M14
      have c50 : ai A14 50 y = s2.toInt := by rw [ai_fr (M14.2.2.1 50 (by decide))]; exact M13.2.2.2.1
      have o14 : ∀ j, j ≠ 50 → j ≠ 51 → A14 j = A7 j := fun j h0 h1 => (M14.2.2.1 j h1).trans (M13.2.2.1 j h0)
      have m14 : ∀ j, 50 ≤ j → j ≤ 56 → ∀ m, 0 ≤ m → m ≠ y → ai A14 j m = ai Am j m := fun j j0 j1 m m0 hm => by
        rw [← bm j j0 j1 m m0 hm]
        by_cases e0 : j = 50
        · subst e0
          rw [ai_fr (M14.2.2.1 50 (by decide))]
          exact M13.2.2.2.2 m m0 hm
        by_cases e1 : j = 51
        · subst e1
          rw [M14.2.2.2.2 m m0 hm, ai_fr (M13.2.2.1 51 (by decide))]
        rw [ai_fr (o14 j e0 e1)]
      refine po_cond (fun c2 => po_some ⟨rfl, ?_⟩) (fun c2 => ?_)
      · rw [i_ne, lF] at c2
        refine ⟨fun j a b c' d e f => (o14 j b c').trans (o7 j a b d e f), fun i i0 hi => by rw [ai_fr (o14 48 (by decide) (by decide))]; exact b48 i i0 hi, m14, by rw [ai_fr (o14 55 (by decide) (by decide))]; exact b55, by rw [ai_fr (o14 56 (by decide) (by decide))]; exact b56, by rw [ai_fr (o14 54 (by decide) (by decide))]; exact b54, .inr ⟨by omega, _, rfl, by rw [M14.2.2.2.1]; exact g11, .inl ⟨by omega, (show ai A14 50 y = 1 by omega), by rw [ai_fr (o14 48 (by decide) (by decide))]; exact b66⟩⟩⟩
      · rw [i_nne, lF] at c2
        refine po_bl (fun A16 h16 => po_some ⟨rfl, ?_⟩)
        have M16 := gg_st h16
        rw [i66, ey, i_0] at M16
        have o16 : ∀ j, j ≠ 48 → A16 j = A14 j := M16.2.2.1
        refine ⟨fun j a b c' d e f => (o16 j a).trans ((o14 j b c').trans (o7 j a b d e f)), fun i i0 hi => by rw [M16.2.2.2.2 i i0 hi, ai_fr (o14 48 (by decide) (by decide))]; exact b48 i i0 hi, fun j j0 j1 m m0 hm => by rw [ai_fr (o16 j (by omega))]; exact m14 j j0 j1 m m0 hm, by rw [ai_fr (o16 55 (by decide)), ai_fr (o14 55 (by decide) (by decide))]; exact b55, by rw [ai_fr (o16 56 (by decide)), ai_fr (o14 56 (by decide) (by decide))]; exact b56, by rw [ai_fr (o16 54 (by decide)), ai_fr (o14 54 (by decide) (by decide))]; exact b54, .inr ⟨by omega, _, rfl, by rw [ai_fr (o16 51 (by decide)), M14.2.2.2.1]; exact g11, .inr ⟨by omega, by rw [ai_fr (o16 50 (by decide))]; omega, M16.2.2.2.1⟩⟩⟩
    refine po_cond (fun c2 => ?_) (fun c2 => ?_)
    · rw [i_ne, lF] at c2
      exact gu (.inl ⟨c2, by decide⟩)
    · rw [i_nne, lF] at c2
      exact gu (.inr ⟨c2, by decide⟩)
  · rw [i_nge, i_0] at c
    exact po_some ⟨rfl, fun j a b _ d e f => o7 j a b d e f, b48, bm, b55, b56, b54, .inl ⟨by omega, b50, b66⟩⟩
/-- when men arrive: alike, or both too late -/
def ARx (ex : Prop) (h : Nat) (N : Int) (F : Nat → Nat → Int32) (A : Nat → Nat → Nat → Int32) (Am : Nat → Nat → Int32) (D : Int → Int → Int) : Prop := ∀ m, 0 ≤ m → m < (F h 17).toInt → 0 ≤ ai Am 48 (42 + m) → (0 ≤ D (ci A h 12 m) (ci A h 4 (ai Am 48 (42 + m))) ∧ D (ci A h 12 m) (ci A h 4 (ai Am 48 (42 + m))) ≤ 1000000) ∧ (0 ≤ ai Am 49 (8 * ci A h 12 m + ci A h 4 (ai Am 48 (42 + m))) ∧ ai Am 49 (8 * ci A h 12 m + ci A h 4 (ai Am 48 (42 + m))) ≤ 1000000) ∧ (D (ci A h 12 m) (ci A h 4 (ai Am 48 (42 + m))) = ai Am 49 (8 * ci A h 12 m + ci A h 4 (ai Am 48 (42 + m))) ∨ (¬ ex ∧ N ≤ D (ci A h 12 m) (ci A h 4 (ai Am 48 (42 + m))) ∧ N ≤ ai Am 49 (8 * ci A h 12 m + ci A h 4 (ai Am 48 (42 + m)))))
def UPx (ex : Prop) (h q : Nat) (N : Int) (sh : Int32) (D : Int → Int → Int) (F : Nat → Nat → Int32) (A : Nat → Nat → Nat → Int32) (Fm : Nat → Int32) (Am : Nat → Nat → Int32) (x : Int) : Prop := NHx h F A Fm Am ∧ SBx ex h q F A Am 48 0 ∧ (WCx h F A ∧ SHx ex q F Am) ∧ (WDx h F A sh D ∧ F q 7 = sh ∧ sh ≠ -1) ∧ ARx ex h N F A Am D ∧ (∀ u, 0 ≤ u → u < 6 → ci A 36 8 u = 0) ∧ (∀ m, 0 ≤ m → m < x → MNx N h A Am 0 0 m ∧ ci A 36 4 m = -1)
theorem p2_up {fk : cR Unit → Option (cR Unit)} {F0 : Nat → Nat → Int32} {Q : cR Unit → mR Unit → Prop} (hq : c_kind q = 2) (e8 : P 36 8 = h) (e9 : P 36 9 = q) (hN : N ≤ 600)
    (kk : ∀ {m : Nat} {F : Nat → Nat → Int32} {A : Nat → Nat → Nat → Int32} {J : Nat → Nat → Nat → Int64} {Fm : Nat → Int32} {Am : Nat → Nat → Int32} {Jm : Nat → Nat → Int64}, (∀ r k, ¬ (r = 36 ∧ k = 101) → F r k = F0 r k) → NBx ex h q N F A Fm Am 0 0 0 0 0 → P2 (fk ((), P, F, A, J)) (d_goesTill_27 m Fm Am Jm y1 0) Q) : ∀ {n m : Nat} {F : Nat → Nat → Int32} {A : Nat → Nat → Nat → Int32} {J : Nat → Nat → Nat → Int64} {Fm : Nat → Int32} {Am : Nat → Nat → Int32} {Jm : Nat → Nat → Int64} {x1 y2 : Int32}, (∀ r k, ¬ (r = 36 ∧ k = 101) → F r k = F0 r k) → UPx ex h q N sh D F A Fm Am x1.toInt → x1.toInt = y2.toInt → 0 ≤ x1.toInt → P2 ((e_Sleep_getUp_2 n P F A J x1).bind fk) (d_goesTill_6 m Fm Am Jm y1 y2) Q := by
  have lm : (-1 : Int32).toInt = -1 := by decide
  have l2 : (-2 : Int32).toInt = -2 := by decide
  have lF : (1000000 : Int32).toInt = 1000000 := by decide
  intro n
  induction n with
  | zero => intro m F A J Fm Am Jm x1 y2 _ _ _ _ a b ha; cases ha
  | succ n ih =>
    intro m F A J Fm Am Jm x1 y2 oF U exy x0
    obtain ⟨H, S, ⟨W, SH⟩, ⟨WD, e7, hsh⟩, AR, z8, MM⟩ := U
    have ct := H.ct
    have hm := H.men
    have hs := H.sd
    have hk := H.kd
    have hne : h ≠ q := k62 hk hq
    have h36 : h ≠ 36 := k6ne hk
    have q36 : q ≠ 36 := k2ne hq
    cases m with
    | zero => intro a b _ hb; cases hb
    | succ m =>
      unfold e_Sleep_getUp_2 d_goesTill_6
      refine p2_bbl (fun _ hk => ?_)
      obtain rfl := (gg_chk hk).2.symm
      try rw [e8]
      refine p2_r v_menNow ?_
      intro v5 e5
      refine p2_bcl (fun c => ?_) (fun c => ?_)
      · rw [i_ge] at c
        refine p2_cr (fun _ => kk oF ⟨H, S, ⟨fun u u0 u1 => .inl (z8 u u0 u1), fun m m0 m1 hd => ?_, fun m m' m0 m1 _ _ hd => ?_⟩, ⟨W, SH⟩, fun m m0 m1 => ⟨fun h => by omega, fun _ => (MM m m0 (by omega)).1⟩⟩) (fun c2 => ?_)
        · have := (MM m m0 (by omega)).2
          omega
        · have := (MM m m0 (by omega)).2
          omega
        · rw [i_nge] at c2
          omega
      · rw [i_nge] at c
        refine p2_cr (fun c2 => ?_) (fun _ => ?_)
        · rw [i_ge] at c2
          omega
        have e11 := i_p1 (x := x1) (by omega)
        have e21 := i_p1 (x := y2) (by omega)
        obtain ⟨sl, s5, s6, s7⟩ := S.mn x0 c
        have tt : ai Am 48 (42 + x1.toInt) ≤ 5 ∧ (0 ≤ ai Am 48 (42 + x1.toInt) → ai Am 48 (42 + x1.toInt) < (F h 16).toInt) := by
          rcases sl with ⟨-, e, -⟩ | ⟨t0, t1, u0, u1, e⟩
          · omega
          · exact ⟨by omega, fun _ => t1⟩
        have hm12 := H.hm x0 c
        have y12 := H.hy.2.2.2.1 x1.toInt x0 c
        refine p2_r (v_getsUp (y := x1.toInt) (Jm := Jm) hs exy.symm x0 (by omega) tt.1 (fun t0 => ?_)) ?_
        · have r1 := H.rm t0 (tt.2 t0)
          have y4 := H.hy.2.1 _ t0 (tt.2 t0)
          rw [← hm12, ← r1]
          omega
        rintro ⟨_, Fm8, B, Jm10⟩ ⟨eFm, G⟩
        dsimp only at eFm G ⊢
        rw [eFm]
        obtain ⟨oB, b48, bm, b55, b56, b54, G⟩ := G
        refine p2_bbl (fun _ hk => ?_)
        obtain rfl := (gg_chk hk).2.symm
        try rw [e9]
        refine p2_bbl (fun v4 h4 => p2_bbl (fun A5 h5 => p2_bbl (fun A6 h6 => p2_bbl (fun A7 h7 => p2_bbl (fun A8 h8 => p2_bbl (fun _ hk => ?_))))))
        obtain rfl := (gg_chk hk).2.symm
        try rw [e9]
        refine p2_bbl (fun A10 h10 => ?_)
        have g4 := (gl h4).2.2
        have U5 := (gg_cst h5).2.2
        have U6 := (gg_cst h6).2.2
        have U7 := (gg_cst h7).2.2
        have U8 := (gg_cst h8).2.2
        have U10 := (gg_cst h10).2.2
        rw [lm] at U5
        rw [i_0] at U6 U7
        rw [lF] at U8
        rw [l2] at U10
        -- the class's rows so far
        have o10 : ∀ r o, ¬ (r = 36 ∧ (o = 3 ∨ o = 4 ∨ o = 6 ∨ o = 7)) → ¬ (r = q ∧ o = 7) → A10 r o = A r o := fun r o e e' => by rw [U10.2.2 r o e', U8.2.2 r o (fun z => e ⟨z.1, .inl z.2⟩), U7.2.2 r o (fun z => e ⟨z.1, .inr (.inr (.inr z.2))⟩), U6.2.2 r o (fun z => e ⟨z.1, .inr (.inr (.inl z.2))⟩), U5.2.2 r o (fun z => e ⟨z.1, .inr (.inl z.2)⟩)]
        have q10 : ∀ o, A10 36 o = A8 36 o := fun o => U10.2.2 36 o (fun e => q36 e.1.symm)
        have c4 : ci A10 36 4 x1.toInt = -1 := by rw [ci_fr (q10 4), ci_fr (U8.2.2 36 4 (by decide)), ci_fr (U7.2.2 36 4 (by decide)), ci_fr (U6.2.2 36 4 (by decide))]; exact U5.1
        have c6 : ci A10 36 6 x1.toInt = 0 := by rw [ci_fr (q10 6), ci_fr (U8.2.2 36 6 (by decide)), ci_fr (U7.2.2 36 6 (by decide))]; exact U6.1
        have c7 : ci A10 36 7 x1.toInt = 0 := by rw [ci_fr (q10 7), ci_fr (U8.2.2 36 7 (by decide))]; exact U7.1
        have c3 : ci A10 36 3 x1.toInt = 1000000 := by rw [ci_fr (q10 3)]; exact U8.1
        have cq7 : ci A10 q 7 x1.toInt = -2 := U10.1
        have m10 : ∀ m, 0 ≤ m → m ≠ x1.toInt → ∀ o, 3 ≤ o → o ≤ 7 → ci A10 36 o m = ci A 36 o m := fun m m0 hm o o0 o1 => by
          rw [ci_fr (q10 o)]
          by_cases f3 : o = 3
          · subst f3
            rw [U8.2.1 m m0 hm, ci_fr (U7.2.2 36 3 (by decide)), ci_fr (U6.2.2 36 3 (by decide)), ci_fr (U5.2.2 36 3 (by decide))]
          by_cases f4 : o = 4
          · subst f4
            rw [ci_fr (U8.2.2 36 4 (by decide)), ci_fr (U7.2.2 36 4 (by decide)), ci_fr (U6.2.2 36 4 (by decide)), U5.2.1 m m0 hm]
          by_cases f6 : o = 6
          · subst f6
            rw [ci_fr (U8.2.2 36 6 (by decide)), ci_fr (U7.2.2 36 6 (by decide)), U6.2.1 m m0 hm, ci_fr (U5.2.2 36 6 (by decide))]
          by_cases f7 : o = 7
          · subst f7
            rw [ci_fr (U8.2.2 36 7 (by decide)), U7.2.1 m m0 hm, ci_fr (U6.2.2 36 7 (by decide)), ci_fr (U5.2.2 36 7 (by decide))]
          rw [ci_fr (U8.2.2 36 o (fun e => f3 e.2)), ci_fr (U7.2.2 36 o (fun e => f7 e.2)), ci_fr (U6.2.2 36 o (fun e => f6 e.2)), ci_fr (U5.2.2 36 o (fun e => f4 e.2))]
        have mq7 : ∀ m, 0 ≤ m → m ≠ x1.toInt → ci A10 q 7 m = ci A q 7 m := fun m m0 hm => by rw [U10.2.1 m m0 hm, ci_fr (U8.2.2 q 7 (fun e => q36 e.1)), ci_fr (U7.2.2 q 7 (fun e => q36 e.1)), ci_fr (U6.2.2 q 7 (fun e => q36 e.1)), ci_fr (U5.2.2 q 7 (fun e => q36 e.1))]
        -- what has to be shown of the rows behind this man
        have go : ∀ {F' : Nat → Nat → Int32} {A' : Nat → Nat → Nat → Int32} {J' : Nat → Nat → Nat → Int64}, (∀ r k, ¬ (r = 36 ∧ k = 101) → F' r k = F r k) → WCx h F' A' → (∀ r o, ¬ (r = 36 ∧ (o = 2 ∨ o = 3 ∨ o = 4 ∨ o = 5 ∨ o = 6 ∨ o = 7)) → ¬ (r = q ∧ o = 7) → A' r o = A r o) → (∀ m, 0 ≤ m → m ≠ x1.toInt → (∀ o, 3 ≤ o → o ≤ 7 → ci A' 36 o m = ci A 36 o m) ∧ ci A' q 7 m = ci A q 7 m) → (ex → ci A' q 7 x1.toInt = ai B 48 (66 + x1.toInt)) → MNx N h A' B 0 0 x1.toInt → ci A' 36 4 x1.toInt = -1 → P2 ((e_Sleep_getUp_2 n P F' A' J' (x1 + 1)).bind fk) (d_goesTill_6 m Fm B Jm10 y1 (y2 + 1)) Q := fun {F' A' J'} fF w oA mA hx M d4 => by
          have oh : ∀ o, A' h o = A h o := fun o => oA h o (fun e => h36 e.1) (fun e => hne e.1)
          have oq : ∀ o, o ≠ 7 → A' q o = A q o := fun o ho => oA q o (fun e => q36 e.1) (fun e => ho e.2)
          have fh : ∀ k, F' h k = F h k := fun k => fF h k (fun e => h36 e.1)
          refine ih (fun r k e => (fF r k e).trans (oF r k e)) ⟨H.fr fh (fun o _ => oh o) rfl (fun j j8 j44 => oB j (by omega) (by omega) (by omega) (by omega) (by omega) (by omega)), ?_, ⟨w, SH.cg (fF q 7 (fun e => q36 e.1)) (fF q 8 (fun e => q36 e.1)) (b48 78 (by decide) (by omega)) (b48 79 (by decide) (by omega))⟩, ⟨WD.cg fh (fun o _ => oh o), by rw [fF q 7 (fun e => q36 e.1)]; exact e7, hsh⟩, ?_, ?_, fun m m0 m1 => ?_⟩ (by omega) (by omega)
          · refine SBx.mk0 (fun k k0 k1 => ?_) (fun k k0 k1 => ?_) (fun k k0 k1 => ?_) (fun m m0 m1 => ?_)
            · rw [ci_fr (oq 1 (by decide)), b48 _ (by omega) (by omega)]; exact S.dn k0 k1
            · rw [ci_fr (oq 2 (by decide)), b48 _ (by omega) (by omega)]; exact S.sf k0 k1
            · rw [ci_fr (oq 4 (by decide)), b48 _ (by omega) (by omega)]; exact S.tl k0 k1
            · rw [fh] at m1
              obtain ⟨z1, z2, z3, z4⟩ := S.mn m0 m1
              refine ⟨?_, ?_, ?_, fun hx' => ?_⟩
              · rw [ci_fr (oq 3 (by decide)), b48 _ (by omega) (by omega), b48 _ (by omega) (by omega)]
                exact z1.cg (fh 16) (oh 5)
              · rw [ci_fr (oq 5 (by decide)), b48 _ (by omega) (by omega)]; exact z2
              · rw [ci_fr (oq 6 (by decide)), b48 _ (by omega) (by omega)]; exact z3
              · by_cases e : m = x1.toInt
                · rw [e]; exact hx hx'
                · rw [(mA m m0 e).2, b48 _ (by omega) (by omega)]; exact z4 hx'
          · intro m m0 m1 ht
            rw [fh] at m1
            have ht' : 0 ≤ ai Am 48 (42 + m) := by rw [← b48 _ (by omega) (by omega)]; exact ht
            rw [b48 _ (by omega) (by omega), ci_fr (oh 12), ci_fr (oh 4), ai_fr (oB 49 (by decide) (by decide) (by decide) (by decide) (by decide) (by decide))]
            exact AR m m0 m1 ht'
          · intro u u0 u1
            rw [ci_fr (oA 36 8 (by simp) (fun e => q36 e.1.symm))]
            exact z8 u u0 u1
          · by_cases e : m = x1.toInt
            · rw [e]
              exact ⟨M, d4⟩
            · obtain ⟨z1, z2⟩ := MM m m0 (by omega)
              have z := (mA m m0 e).1
              refine ⟨z1.cg (oh 5) (z 3 (by decide) (by decide)) (z 4 (by decide) (by decide)) (z 5 (by decide) (by decide)) (z 6 (by decide) (by decide)) (z 7 (by decide) (by decide)) (fun j j0 j1 => bm j j0 j1 m m0 e) (b48 _ (by omega) (by omega)), ?_⟩
              rw [z 4 (by decide) (by decide)]
              exact z2
        have lqa : (ci A q 3 x1.toInt < 0 ↔ ai Am 48 (42 + x1.toInt) < 0) ∧ (0 ≤ ai Am 48 (42 + x1.toInt) → ci A q 3 x1.toInt / 6 = ai Am 48 (42 + x1.toInt) ∧ ci A q 3 x1.toInt % 6 = ai Am 48 (48 + x1.toInt) ∧ 0 ≤ ai Am 48 (48 + x1.toInt) ∧ ai Am 48 (48 + x1.toInt) < ci A h 5 (ai Am 48 (42 + x1.toInt))) ∧ (ai Am 48 (42 + x1.toInt) < 0 → ai Am 48 (42 + x1.toInt) = -1 ∧ ai Am 48 (48 + x1.toInt) = -1) := by
          rcases sl with ⟨e1, e2, e3⟩ | ⟨t0, t1, u0, u1, e⟩
          · omega
          · have s6' := H.s6 t0
            omega
        refine p2_bcl (fun cl => ?_) (fun cl => ?_)
        · rw [i_lt, i_0] at cl
          unfold e_Sleep_getUp_145
          obtain ⟨n1, n2⟩ := lqa.2.2 (by omega)
          rcases G with ⟨_, g50, g66⟩ | ⟨g, _⟩
          · refine go (fun _ _ _ => rfl) (W.cg (fun _ => rfl) (fun o _ => o10 h o (fun e => h36 e.1) (fun e => hne e.1)) rfl (o10 36 2 (by simp) (fun e => q36 e.1.symm))) (fun r o e e' => o10 r o (fun z => e ⟨z.1, by omega⟩) e') (fun m m0 hm => ⟨m10 m m0 hm, mq7 m m0 hm⟩) (fun _ => by rw [cq7, g66]) ?_ c4
            refine ⟨by rw [c6, b55], ⟨by rw [c7, b56], .inl b56⟩, .inl ⟨by rw [b48 _ (by omega) (by omega)]; exact n1, by rw [b54]; exact n2, g50, c4, by rw [c3]; omega, b56⟩⟩
          · omega
        · rw [i_nlt, i_0] at cl
          have t0 : 0 ≤ ai Am 48 (42 + x1.toInt) := by omega
          obtain ⟨d6, r6, u0, u1⟩ := lqa.2.1 t0
          have t1 := tt.2 t0
          refine p2_bbl (fun v12 h12 => p2_bbl (fun A13 h13 => p2_bbl (fun _ hk => ?_)))
          obtain rfl := (gg_chk hk).2.symm
          try rw [e8]
          refine p2_bbl (fun v15 h15 => p2_bbl (fun v16 h16 => p2_bbl (fun _ hk => ?_)))
          obtain rfl := (gg_chk hk).2.symm
          try rw [e8]
          refine p2_bbl (fun _ hk => ?_)
          obtain rfl := (gg_chk hk).2.symm
          try rw [e9]
          refine p2_bbl (fun _ hk => ?_)
          obtain rfl := (gg_chk hk).2.symm
          try rw [e8]
          refine p2_bbl (fun v20 h20 => ?_)
          have U13 := (gg_cst h13).2.2
          have g12 : v12.toInt = ai Am 48 (48 + x1.toInt) := by rw [gg_rem6 h12, i_rem6 (by omega), g4]; exact r6
          have g15 : v15.toInt = ai Am 48 (42 + x1.toInt) := by rw [gg_div6 h15, i_div6 (by omega), g4]; exact d6
          have g16 := (gl h16).2.2
          have g20 := (gl h20).2.2
          have oh13 : ∀ o, A13 h o = A h o := fun o => (U13.2.2 h o (fun e => h36 e.1)).trans (o10 h o (fun e => h36 e.1) (fun e => hne e.1))
          rw [g15, ci_fr (oh13 4)] at g16
          rw [ci_fr (oh13 12)] at g20
          have y4 := H.hy.2.1 _ t0 t1
          have W13 : WCx h F A13 := W.cg (fun _ => rfl) (fun o _ => oh13 o) rfl ((U13.2.2 36 2 (by decide)).trans (o10 36 2 (by simp) (fun e => q36 e.1.symm)))
          rw [e7]
          have btw := v_between (n := n) (P := P) (J := J) W13 (WD.cg (fun _ => rfl) (fun o _ => oh13 o)) hsh (x3 := v20) (x4 := v16) (by omega) (by omega) (by omega) h36
          refine p2_bbl (fun a ha => ?_)
          have bt := btw a ha
          obtain ⟨v21, P22, F23, A24, J25⟩ := a
          obtain ⟨g21, ⟨eP, fF, oA24⟩, W24⟩ := bt
          dsimp only at g21 eP fF oA24 W24 ⊢
          rw [eP]
          refine p2_bbl (fun A26 h26 => p2_bbl (fun v27 h27 => ?_))
          have U26 := (gg_cst h26).2.2
          have g27 := (gl h27).2.2
          rw [U26.1] at g27
          obtain ⟨ar1, ar2, ar3⟩ := AR x1.toInt x0 c t0
          rw [g20, g16] at g21
          rw [← g21] at ar1 ar3
          rcases G with ⟨g, _⟩ | ⟨_, e, ee, g51, G⟩
          · omega
          rw [← hm12, ← H.rm t0 t1] at ee
          rw [← ee] at ar2 ar3
          have o26 : ∀ r o, ¬ (r = 36 ∧ (o = 2 ∨ o = 3 ∨ o = 5)) → A26 r o = A10 r o := fun r o z => by rw [U26.2.2 r o (fun e => z ⟨e.1, .inr (.inl e.2)⟩), oA24 r o (fun e => z ⟨e.1, .inl e.2⟩), U13.2.2 r o (fun e => z ⟨e.1, .inr (.inr e.2)⟩)]
          have k3 : ci A26 36 3 x1.toInt = v21.toInt := U26.1
          have k5 : ci A26 36 5 x1.toInt = ai Am 48 (48 + x1.toInt) := by rw [ci_fr (U26.2.2 36 5 (by decide)), ci_fr (oA24 36 5 (by decide)), U13.1, g12]
          have m26 : ∀ m, 0 ≤ m → m ≠ x1.toInt → ∀ o, 3 ≤ o → o ≤ 7 → ci A26 36 o m = ci A 36 o m := fun m m0 hm o o0 o1 => by
            rw [← m10 m m0 hm o o0 o1]
            by_cases f3 : o = 3
            · subst f3
              rw [U26.2.1 m m0 hm, ci_fr (oA24 36 3 (by decide)), ci_fr (U13.2.2 36 3 (by decide))]
            by_cases f5 : o = 5
            · subst f5
              rw [ci_fr (U26.2.2 36 5 (by decide)), ci_fr (oA24 36 5 (by decide)), U13.2.1 m m0 hm]
            rw [ci_fr (o26 36 o (by omega))]
          have W26 : WCx h F23 A26 := W24.cg (fun _ => rfl) (fun o _ => U26.2.2 h o (fun e => h36 e.1)) rfl (U26.2.2 36 2 (by decide))
          -- how the man stands now, whatever becomes of his lying down
          have man : ∀ {A' : Nat → Nat → Nat → Int32}, (∀ o, A' 36 o = A26 36 o) → A' h 5 = A26 h 5 → MNx N h A' B 0 0 x1.toInt := fun {A'} z36 zh => by
            unfold MNx
            rw [ci_fr (z36 6), ci_fr (z36 7), ci_fr (z36 5), ci_fr (z36 4), ci_fr (z36 3), ci_fr zh, ci_fr (o26 36 6 (by simp)), ci_fr (o26 36 7 (by simp)), ci_fr (o26 36 4 (by simp)), k3, k5, c4, c6, c7, b54, b55, b56, g51, b48 _ (by omega) (by omega), ci_fr (o26 h 5 (fun e => h36 e.1)), ci_fr (o10 h 5 (fun e => h36 e.1) (fun e => hne e.1))]
            refine ⟨rfl, ⟨rfl, .inl rfl⟩, .inr ⟨t0, rfl, u0, u1, ?_⟩⟩
            rcases G with ⟨ge, g50, -⟩ | ⟨ge, g50, -⟩
            · rcases ar3 with ar3 | ⟨-, a1, a2⟩
              · exact .inl ⟨g50, rfl, rfl, .inr ⟨by omega, by omega⟩⟩
              · exact .inr (.inr ⟨.inr ⟨g50, a2⟩, rfl, a1⟩)
            · refine .inr (.inr ⟨.inl g50, rfl, ?_⟩)
              rcases ar3 with ar3 | ⟨-, a1, -⟩
              · omega
              · exact a1
          have oA26 : ∀ r o, ¬ (r = 36 ∧ (o = 2 ∨ o = 3 ∨ o = 4 ∨ o = 5 ∨ o = 6 ∨ o = 7)) → ¬ (r = q ∧ o = 7) → A26 r o = A r o := fun r o z z' => (o26 r o (fun e => z ⟨e.1, by omega⟩)).trans (o10 r o (fun e => z ⟨e.1, by omega⟩) z')
          have d26 : ci A26 36 4 x1.toInt = -1 := by rw [ci_fr (o26 36 4 (by simp))]; exact c4
          refine p2_bcl (fun c27 => ?_) (fun c27 => ?_)
          · rw [i_lt, lF] at c27
            unfold e_Sleep_getUp_145
            refine go fF W26 oA26 (fun m m0 hm => ⟨m26 m m0 hm, by rw [ci_fr (o26 q 7 (fun e => q36 e.1))]; exact mq7 m m0 hm⟩) (fun hx => ?_) (man (fun _ => rfl) rfl) d26
            rw [ci_fr (o26 q 7 (fun e => q36 e.1)), cq7]
            rcases ar3 with ar3 | ⟨a0, -, -⟩
            · rcases G with ⟨_, _, g66⟩ | ⟨ge, _, _⟩
              · exact g66.symm
              · omega
            · exact absurd hx a0
          · rw [i_nlt, lF] at c27
            refine p2_bbl (fun _ hk => ?_)
            obtain rfl := (gg_chk hk).2.symm
            try rw [e9]
            refine p2_bbl (fun A30 h30 => ?_)
            have U30 := (gg_cst h30).2.2
            rw [i_0] at U30
            have z36 : ∀ o, A30 36 o = A26 36 o := fun o => U30.2.2 36 o (fun e => q36 e.1.symm)
            have zh : ∀ o, A30 h o = A26 h o := fun o => U30.2.2 h o (fun e => hne e.1)
            refine go fF (W26.cg (fun _ => rfl) (fun o _ => zh o) rfl (z36 2)) (fun r o z z' => (U30.2.2 r o z').trans (oA26 r o z z')) (fun m m0 hm => ⟨fun o o0 o1 => by rw [ci_fr (z36 o)]; exact m26 m m0 hm o o0 o1, by rw [U30.2.1 m m0 hm, ci_fr (o26 q 7 (fun e => q36 e.1))]; exact mq7 m m0 hm⟩) (fun hx => ?_) (man z36 (zh 5)) (by rw [ci_fr (z36 4)]; exact d26)
            rw [U30.1]
            rcases ar3 with ar3 | ⟨a0, -, -⟩
            · rcases G with ⟨ge, _, _⟩ | ⟨_, _, g66⟩
              · omega
              · exact g66.symm
            · exact absurd hx a0
/-- a night till minute E, on both sides; the ways of the reference have been filled -/
theorem p2_goTill {n m : Nat} (H : NHx h F A Fm Am) (hq : c_kind q = 2) (S : SBx ex h q F A Am 48 0) (W : WCx h F A) (SH : SHx ex q F Am) (WD : WDx h F A (F q 7) D) (hsh : F q 7 ≠ -1) (AR : ARx ex h N F A Am D) (EN : E ≤ N) (hN : N ≤ 600) (eN : N = (F h 18).toInt) (ex1 : x1.toInt = E) (ey1 : y1.toInt = E) : P2 (e_Sleep_goTill n P F A J x1 h q) (d_goesTill_6 m Fm Am Jm y1 0) (fun a b => ∃ P' F', (∀ r k, ¬ (r = 36 ∧ k = 101) → F' r k = F r k) ∧ QTx ex h q N E P' F' a b) := by
  have h36 : h ≠ 36 := k6ne H.kd
  have q36 : q ≠ 36 := k2ne hq
  have hne : h ≠ q := k62 H.kd hq
  unfold e_Sleep_goTill
  refine p2_bl (fun P1 h1 => p2_bl (fun P2' h2 => p2_bl (fun A3 h3 => ?_)))
  have u1 := gg_cpp h1
  have u2 := gg_cpp h2
  have u3 := gg_cfw h3
  have e8 : P2' 36 8 = h := by rw [u2.2 36 8 (by decide)]; exact u1.1
  have e9 : P2' 36 9 = q := u2.1
  unfold e_Sleep_getUp
  refine p2_up (F0 := F) (sh := F q 7) (D := D) (N := N) hq e8 e9 hN (fun {m F' A J Fm Am Jm} oF B => ?_) (fun _ _ _ => rfl) ⟨H.fr (fun _ => rfl) (fun o _ => u3.2 h o (fun e => h36 e.1)) rfl (fun _ _ _ => rfl), S.cg rfl rfl (u3.2 h 5 (fun e => h36 e.1)) (fun o _ _ => u3.2 q o (fun e => q36 e.1)) rfl, ⟨W.cg (fun _ => rfl) (fun o _ => u3.2 h o (fun e => h36 e.1)) rfl (u3.2 36 2 (by decide)), SH⟩, ⟨WD.cg (fun _ => rfl) (fun o _ => u3.2 h o (fun e => h36 e.1)), rfl, hsh⟩, ?_, fun u u0 u6 => by rw [u3.1 u u0 (by omega)]; decide, fun m m0 m1 => by rw [i_0] at m1; omega⟩ rfl (by decide)
  · dsimp only
    refine p2_l (v_next e8) ?_
    rintro ⟨v9, P10, F11, A12, J13⟩ ⟨⟨w1, w2, w3⟩, n1, n2, n3⟩
    dsimp only at w1 w2 w3 n1 n2 n3 ⊢
    subst w1 w2 w3
    have hF : N = (F11 h 18).toInt := by rw [oF h 18 (fun e => h36 e.1)]; exact eN
    have v0 : 0 ≤ v9.toInt := by
      rcases n3 with n3 | ⟨m', m0, m1, n3⟩
      · omega
      · have y18 := B.1.hy.2.2.2.2
        have M := (B.2.2.2.2 m' m0 m1).2 m0
        obtain ⟨-, -, M⟩ := M
        rcases M with ⟨c1, c2, c3, c4, c5, c6⟩ | ⟨c1, c2, c3, c4, M⟩
        · omega
        · rcases M with ⟨d1, d2, d3, d4⟩ | ⟨d1, d2, d3, d4, d5, d6, d7, d8⟩ | ⟨d1, d2, d3⟩
          · omega
          · omega
          · omega
    refine p2_mono (p2_31 (y2 := 0) hq e8 e9 EN hN hF ex1 ey1 B (by decide) (by rw [i_0]; exact v0) (by decide) (by decide) (fun _ => n2)) (fun a b h => ⟨_, _, oF, h⟩)
  · intro m m0 m1 ht
    rw [ci_fr (u3.2 h 12 (fun e => h36 e.1)), ci_fr (u3.2 h 4 (fun e => h36 e.1))]
    exact AR m m0 m1 ht
end H9ez8
end Qz143
section Qz144
/-! worth, and what a night wins, on both sides -/
section H9ez9
variable {h q : Nat} {t k x N E : Int} {ex : Prop} {P : Nat → Nat → Nat} {F F' : Nat → Nat → Int32} {A A' A1 : Nat → Nat → Nat → Int32} {J : Nat → Nat → Nat → Int64} {Fm Fm' : Nat → Int32} {Am Am' Am1 : Nat → Nat → Int32} {Jm : Nat → Nat → Int64} {x1 x2 x3 x4 x5 y1 y2 y3 : Int32} {D : Int → Int → Int} {β γ δ : Type}
theorem i_self (x : Int32) : x - x = 0 := i_ext (by
  have r := i_rng x
  rw [i_sub (by omega) (by omega), i_0]
  omega)
/-- what a step has won -/
theorem w_step (d n g s : Int32) : (if n < d then n else d) * g - (d - (if n < d then n else d)) * s = (if n.toInt ≤ d.toInt then n else d) * g - (if d.toInt ≤ n.toInt then 0 else d - n) * s := by
  by_cases c : n < d
  · rw [if_pos c]
    rw [Int32.lt_iff_toInt_lt] at c
    rw [if_pos (by omega), if_neg (by omega)]
  · rw [if_neg c, i_self]
    rw [Int32.lt_iff_toInt_lt] at c
    rw [if_pos (show d.toInt ≤ n.toInt by omega)]
    by_cases e : n.toInt ≤ d.toInt
    · rw [if_pos e, i_ext (show n.toInt = d.toInt by omega)]
    · rw [if_neg e]
/-- the done of an evening on both sides -/
def DNx (q : Nat) (A : Nat → Nat → Nat → Int32) (Am : Nat → Nat → Int32) : Prop := ∀ k : Int, 0 ≤ k → k < 36 → ci A q 1 k = ai Am 48 (6 + k)
theorem p2_worth21 (H : NHx h F A Fm Am) (S : DNx q A Am) (t0 : 0 ≤ t) (t1 : t < (F h 16).toInt) (e1 : y1.toInt = t) (e4 : x4.toInt = t * 6 + ci A h 5 t) : ∀ {n m : Nat} {x3 x5 y3 : Int32}, x5.toInt = t * 6 + y3.toInt → 0 ≤ y3.toInt → y3.toInt ≤ ci A h 5 t → P2 (e_House_worth_21 n P F A J h q x3 x4 x5) (d_worthOf_4 m Fm Am Jm y1 x3 y3) (fun a b => a = b) := by
  have ct := H.ct
  have hs := H.sd
  have s6 := H.s6 t0
  intro n
  induction n with
  | zero => intro m x3 x5 y3 _ _ _ a b ha; cases ha
  | succ n ih =>
    intro m x3 x5 y3 e5 u0 u1
    cases m with
    | zero => intro a b _ hb; cases hb
    | succ m =>
      unfold e_House_worth_21 d_worthOf_4
      refine p2_r (v_steps hs (by omega)) ?_
      intro v1 q1
      rw [e1, ← H.stp t0 t1] at q1
      refine p2_cl (fun c => ?_) (fun c => ?_)
      · rw [i_ge] at c
        refine p2_cr (fun _ => p2_some rfl) (fun c2 => ?_)
        rw [i_nge] at c2
        omega
      · rw [i_nge] at c
        refine p2_cr (fun c2 => ?_) (fun _ => ?_)
        · rw [i_ge] at c2
          omega
        refine p2_r (v_stepAt hs (by omega) (by omega)) ?_
        intro w3 q3
        refine p2_bl (fun v3 h3 => p2_bl (fun v4 h4 => p2_bl (fun v5 h5 => p2_bl (fun v6 h6 => p2_bl (fun v7 h7 => ?_)))))
        refine p2_br (fun w4 k4 => p2_br (fun w5 k5 => ?_))
        obtain ⟨-, r7, r8, r9, -⟩ := H.row t0 t1 u0 (by omega)
        have g3 := (gl h3).2.2
        have g4 := (gl h4).2.2
        have g5 := (gl h5).2.2
        have g6 := (gl h6).2.2
        have g7 := (gl h7).2.2
        have a4 := (gm k4).2.2
        have a5 := (gm k5).2.2
        rw [e5] at g3 g4 g5 g6 g7
        rw [rx6 (by omega) (by omega), e1] at a4
        rw [q3, e1] at a5
        have z6 : v6 = v3 := i_ext (by omega)
        have d0 := S (t * 6 + y3.toInt) (by omega) (by omega)
        have z3 : v3 = w4 := i_ext (by
          rw [g3, a4, d0]
          congr 1
          omega)
        have z4 : v4 = w5 := i_ext (by omega)
        subst z6
        subst z3
        subst z4
        have e51 := i_p1 (x := x5) (by omega)
        have e31 := i_p1 (x := y3) (by omega)
        rw [w_step]
        have fin : ∀ {s2 g : Int32}, g = (if v4.toInt ≤ v6.toInt then v4 else v6) → s2 = (if v6.toInt ≤ v4.toInt then 0 else v6 - v4) → P2 ((e_House_worth_21 n) P F A J h q (x3 + ((if v4.toInt ≤ v6.toInt then v4 else v6) * v5 - (if v6.toInt ≤ v4.toInt then 0 else v6 - v4) * v7)) x4 (x5 + 1)) (d_worthOf_85 (d_worthOf_4 m) m Fm Am Jm y1 y3 w3 x3 (g * v5) s2) (fun a b => a = b) := fun {s2 g} hg hs2 => by
          unfold d_worthOf_85
          refine p2_br (fun w9 k9 => ?_)
          have a9 := (gm k9).2.2
          rw [q3, e1] at a9
          have z9 : v7 = w9 := i_ext (by omega)
          subst z9
          rw [hg, hs2]
          exact ih (by omega) (by omega) (by omega)
        have mid : ∀ {g : Int32}, g = (if v4.toInt ≤ v6.toInt then v4 else v6) → P2 ((e_House_worth_21 n) P F A J h q (x3 + ((if v4.toInt ≤ v6.toInt then v4 else v6) * v5 - (if v6.toInt ≤ v4.toInt then 0 else v6 - v4) * v7)) x4 (x5 + 1)) (d_worthOf_61 (d_worthOf_4 m) m Fm Am Jm y1 y3 w3 v6 v4 x3 g) (fun a b => a = b) := fun {g} hg => by
          unfold d_worthOf_61
          refine p2_br (fun w7 k7 => ?_)
          have a7 := (gm k7).2.2
          rw [q3, e1] at a7
          have z7 : v5 = w7 := i_ext (by omega)
          subst z7
          refine p2_cr (fun c5 => ?_) (fun c5 => ?_)
          · rw [i_le] at c5
            exact fin hg (by rw [if_pos c5])
          · rw [i_nle] at c5
            exact fin hg (by rw [if_neg (by omega)])
        refine p2_cr (fun c5 => ?_) (fun c5 => ?_)
        · rw [i_ge] at c5
          exact mid (by rw [if_pos c5])
        · rw [i_nge] at c5
          exact mid (by rw [if_neg (by omega)])
theorem p2_worth {n m : Nat} (H : NHx h F A Fm Am) (S : DNx q A Am) (t0 : 0 ≤ t) (t1 : t < (F h 16).toInt) (e2 : x2.toInt = t) (e1 : y1.toInt = t) : P2 (e_House_worth n P F A J h q x2) (d_worthOf m Fm Am Jm y1) (fun a b => a = b) := by
  have ct := H.ct
  have s6 := H.s6 t0
  unfold e_House_worth d_worthOf
  refine p2_bl (fun v1 h1 => ?_)
  have g1 := (gl h1).2.2
  rw [e2] at g1
  have m6 := i_mulR (c := 6) (k := 6) (x := x2) (by decide) (by omega) (by omega)
  exact p2_worth21 H S t0 t1 e1 (by rw [i_add (by rw [m6]; omega) (by rw [m6]; omega), m6]; omega) (by rw [m6, i_0]; omega) (by rw [i_0]; omega) (by rw [i_0]; omega)
theorem p2_worthAll4 (H : NHx h F A Fm Am) (S : DNx q A Am) : ∀ {n m : Nat} {x2 x3 y3 : Int32}, x3.toInt = y3.toInt → 0 ≤ x3.toInt → P2 (e_House_worthOfAll_4 n P F A J h q x2 x3) (d_worthNow_4 m Fm Am Jm x2 y3) (fun a b => a = b) := by
  have ct := H.ct
  have hk := H.tks
  intro n
  induction n with
  | zero => intro m x2 x3 y3 _ _ a b ha; cases ha
  | succ n ih =>
    intro m x2 x3 y3 exy x0
    cases m with
    | zero => intro a b _ hb; cases hb
    | succ m =>
      unfold e_House_worthOfAll_4 d_worthNow_4
      refine p2_r v_tasksNow ?_
      intro v1 q1
      refine p2_cl (fun c => ?_) (fun c => ?_)
      · rw [i_ge] at c
        refine p2_cr (fun _ => p2_some rfl) (fun c2 => ?_)
        rw [i_nge] at c2
        omega
      · rw [i_nge] at c
        refine p2_cr (fun c2 => ?_) (fun _ => ?_)
        · rw [i_ge] at c2
          omega
        refine p2_call (p2_worth H S x0 c rfl exy.symm) ?_
        rintro v _ rfl
        have e31 := i_p1 (x := x3) (by omega)
        have e21 := i_p1 (x := y3) (by omega)
        exact ih (by omega) (by omega)
/-- the worth of all tasks -/
theorem p2_worthAll {n m : Nat} (H : NHx h F A Fm Am) (S : DNx q A Am) : P2 (e_House_worthOfAll n P F A J h q) (d_worthNow m Fm Am Jm) (fun a b => a = b) := by
  unfold e_House_worthOfAll d_worthNow
  exact p2_worthAll4 H S rfl (by decide)
/-- the reference puts the night down too -/
def NWx (ex : Prop) (h q : Nat) (F : Nat → Nat → Int32) (A : Nat → Nat → Nat → Int32) (Am : Nat → Nat → Int32) (y : Int) : Prop := (∀ k : Int, 0 ≤ k → k < 36 → ci A q 1 k = ai Am 48 (6 + k)) ∧ (∀ k : Int, 0 ≤ k → k < 6 → ci A q 2 k = ai Am 48 k ∧ 0 ≤ ci A q 2 k) ∧ (∀ k : Int, 0 ≤ k → k < 6 → ci A q 4 k = ai Am 48 (72 + k)) ∧ ∀ m : Int, 0 ≤ m → m < (F h 17).toInt → (m < y → LQx h F A (ci A q 3 m) (ai Am 48 (42 + m)) (ai Am 48 (48 + m)) ∧ ci A q 5 m = ai Am 48 (54 + m) ∧ ci A q 6 m = ai Am 48 (60 + m) ∧ (ex → ci A q 7 m = ai Am 48 (66 + m))) ∧ (y ≤ m → ci A q 5 m = ai Am 55 m ∧ A q 6 m.toNat = Am 48 (60 + m).toNat + Am 55 m.toNat ∧ (ex → ci A q 7 m = ai Am 48 (66 + m)) ∧ ((ai Am 56 m = 1 ∧ ci A q 3 m = -1) ∨ (ai Am 56 m = 0 ∧ LQx h F A (ci A q 3 m) (ai Am 48 (42 + m)) (ai Am 54 m))))
theorem p2_wn20 {z : Option γ} {Q : γ → mR Int32 → Prop} {s78 s79 : Int}
    (kk : ∀ {m : Nat} {Am' : Nat → Nat → Int32}, NHx h F A Fm Am' → SBx ex h q F A Am' 48 0 → (∀ j, j ≠ 48 → Am' j = Am j) → ai Am' 48 78 = s78 → (∃ z : Int32, z.toInt = s79 ∧ ai Am' 48 79 = (z + 1).toInt) → P2 z ((d_worthNow m Fm Am' Jm).bind fun v11 => some (v11 - x1, Fm, Am', Jm)) Q) : ∀ {m : Nat} {Am1 : Nat → Nat → Int32} {y2 : Int32}, NHx h F A Fm Am1 → NWx ex h q F A Am1 y2.toInt → (∀ j, j ≠ 48 → Am1 j = Am j) → ai Am1 48 78 = s78 → ai Am1 48 79 = s79 → 0 ≤ y2.toInt → P2 z (d_wholeNight_20 m Fm Am1 Jm x1 y2) Q := by
  intro m
  induction m with
  | zero => intro Am1 y2 _ _ _ _ _ _ a b _ hb; cases hb
  | succ m ih =>
    intro Am1 y2 H W o e78 e79 y0
    have ct := H.ct
    have hm := H.men
    obtain ⟨W1, W2, W3, W4⟩ := W
    unfold d_wholeNight_20
    refine p2_r v_menNow ?_
    intro v7 q7
    refine p2_cr (fun c => ?_) (fun c => ?_)
    · rw [i_ge] at c
      refine p2_br (fun v9 h9 => p2_br (fun A10 h10 => ?_))
      have g9 := (gm h9).2.2
      have M := gg_st h10
      have l79 : (79 : Int32).toInt = 79 := by decide
      rw [l79] at g9 M
      refine kk (H.fr (fun _ => rfl) (fun _ _ => rfl) rfl (fun j _ _ => M.2.2.1 j (by omega))) (SBx.mk0 (fun k k0 k1 => ?_) (fun k k0 k1 => ?_) (fun k k0 k1 => ?_) (fun k k0 k1 => ?_)) (fun j hj => (M.2.2.1 j hj).trans (o j hj)) (by rw [M.2.2.2.2 78 (by decide) (by decide)]; exact e78) ⟨v9, by rw [g9]; exact e79, M.2.2.2.1⟩
      · rw [M.2.2.2.2 _ (by omega) (by omega)]; exact W1 k k0 k1
      · rw [M.2.2.2.2 _ (by omega) (by omega)]; exact W2 k k0 k1
      · rw [M.2.2.2.2 _ (by omega) (by omega)]; exact W3 k k0 k1
      · rw [M.2.2.2.2 _ (by omega) (by omega), M.2.2.2.2 _ (by omega) (by omega), M.2.2.2.2 _ (by omega) (by omega), M.2.2.2.2 _ (by omega) (by omega), M.2.2.2.2 _ (by omega) (by omega)]
        exact (W4 k k0 k1).1 (by omega)
    · rw [i_nge] at c
      have i54 := kx1 (c := 54) (x := y2) (k := 54) (by decide) (by decide) (by omega)
      have i60 := kx1 (c := 60) (x := y2) (k := 60) (by decide) (by decide) (by omega)
      have i48 := kx1 (c := 48) (x := y2) (k := 48) (by decide) (by decide) (by omega)
      have i42 := kx1 (c := 42) (x := y2) (k := 42) (by decide) (by decide) (by omega)
      have e21 := i_p1 (x := y2) (by omega)
      have lm : (-1 : Int32).toInt = -1 := by decide
      refine p2_br (fun v12 h12 => p2_br (fun A13 h13 => p2_br (fun v14 h14 => p2_br (fun v15 h15 => p2_br (fun A16 h16 => p2_br (fun v17 h17 => p2_br (fun A18 h18 => p2_br (fun v19 h19 => ?_))))))))
      have g12 := (gm h12).2.2
      have M13 := gg_st h13
      have g14 := gg_ld h14
      have g15 := gg_ld h15
      have M16 := gg_st h16
      have g17 := (gm h17).2.2
      have M18 := gg_st h18
      have g19 := (gm h19).2.2
      rw [i54] at M13
      rw [i60] at M16 g14
      rw [i48] at M18
      rw [ai_fr (M16.2.2.1 54 (by decide)), ai_fr (M13.2.2.1 54 (by decide))] at g17
      rw [ai_fr (M18.2.2.1 56 (by decide)), ai_fr (M16.2.2.1 56 (by decide)), ai_fr (M13.2.2.1 56 (by decide))] at g19
      have o18 : ∀ j, j ≠ 48 → A18 j = Am1 j := fun j hj => by rw [M18.2.2.1 j hj, M16.2.2.1 j hj, M13.2.2.1 j hj]
      have b18 : ∀ i, 0 ≤ i → i ≠ 48 + y2.toInt → i ≠ 54 + y2.toInt → i ≠ 60 + y2.toInt → ai A18 48 i = ai Am1 48 i := fun i i0 h1 h2 h3 => by rw [M18.2.2.2.2 i i0 h1, M16.2.2.2.2 i i0 h3, M13.2.2.2.2 i i0 h2]
      have b54 : ai A18 48 (54 + y2.toInt) = ai Am1 55 y2.toInt := by rw [M18.2.2.2.2 _ (by omega) (by omega), M16.2.2.2.2 _ (by omega) (by omega), M13.2.2.2.1]; exact g12
      have b60 : ai A18 48 (60 + y2.toInt) = (Am1 48 (60 + y2.toInt).toNat + Am1 55 y2.toInt.toNat).toInt := by
        rw [M18.2.2.2.2 _ (by omega) (by omega), M16.2.2.2.1, g14.2.2, g15.2.2, M13.2.2.1 55 (by decide)]
        have e : A13 48 (60 + y2.toInt).toNat = Am1 48 (60 + y2.toInt).toNat := i_ext (M13.2.2.2.2 (60 + y2.toInt) (by omega) (by omega))
        rw [e]
      have b48 : ai A18 48 (48 + y2.toInt) = ai Am1 54 y2.toInt := by rw [M18.2.2.2.1]; exact g17
      obtain ⟨w5, w6, w7, w8⟩ := (W4 y2.toInt y0 (by omega)).2 (Int.le_refl _)
      have H18 : NHx h F A Fm A18 := H.fr (fun _ => rfl) (fun _ _ => rfl) rfl (fun j _ _ => o18 j (by omega))
      -- going on, with what he left as it may be
      have go : ∀ {B : Nat → Nat → Int32}, (∀ j, j ≠ 48 → B j = A18 j) → (∀ i, 0 ≤ i → i ≠ 42 + y2.toInt → i ≠ 48 + y2.toInt → ai B 48 i = ai A18 48 i) → LQx h F A (ci A q 3 y2.toInt) (ai B 48 (42 + y2.toInt)) (ai B 48 (48 + y2.toInt)) → P2 z (d_wholeNight_20 m Fm B Jm x1 (y2 + 1)) Q := fun {B} oB bB lB => by
        have bb : ∀ i, 0 ≤ i → i ≠ 42 + y2.toInt → i ≠ 48 + y2.toInt → i ≠ 54 + y2.toInt → i ≠ 60 + y2.toInt → ai B 48 i = ai Am1 48 i := fun i i0 h1 h2 h3 h4 => (bB i i0 h1 h2).trans (b18 i i0 h2 h3 h4)
        refine ih (H18.fr (fun _ => rfl) (fun _ _ => rfl) rfl (fun j _ _ => oB j (by omega))) ⟨fun k k0 k1 => ?_, fun k k0 k1 => ?_, fun k k0 k1 => ?_, fun k k0 k1 => ⟨fun k2 => ?_, fun k2 => ?_⟩⟩ (fun j hj => (oB j hj).trans ((o18 j hj).trans (o j hj))) (by rw [bb 78 (by decide) (by omega) (by omega) (by omega) (by omega)]; exact e78) (by rw [bb 79 (by decide) (by omega) (by omega) (by omega) (by omega)]; exact e79) (by omega)
        · rw [bb _ (by omega) (by omega) (by omega) (by omega) (by omega)]; exact W1 k k0 k1
        · rw [bb _ (by omega) (by omega) (by omega) (by omega) (by omega)]; exact W2 k k0 k1
        · rw [bb _ (by omega) (by omega) (by omega) (by omega) (by omega)]; exact W3 k k0 k1
        · by_cases e : k = y2.toInt
          · subst e
            refine ⟨lB, ?_, ?_, fun hx => ?_⟩
            · rw [bB _ (by omega) (by omega) (by omega), b54]; exact w5
            · rw [bB _ (by omega) (by omega) (by omega), b60, ← w6]; rfl
            · rw [bb _ (by omega) (by omega) (by omega) (by omega) (by omega)]; exact w7 hx
          · rw [bb _ (by omega) (by omega) (by omega) (by omega) (by omega), bb _ (by omega) (by omega) (by omega) (by omega) (by omega), bb _ (by omega) (by omega) (by omega) (by omega) (by omega), bb _ (by omega) (by omega) (by omega) (by omega) (by omega), bb _ (by omega) (by omega) (by omega) (by omega) (by omega)]
            exact (W4 k k0 k1).1 (by omega)
        · have e60 : B 48 (60 + k).toNat = Am1 48 (60 + k).toNat := i_ext (bb (60 + k) (by omega) (by omega) (by omega) (by omega) (by omega))
          rw [e60, oB 55 (by decide), o18 55 (by decide), ai_fr (oB 55 (by decide)), ai_fr (o18 55 (by decide)), ai_fr (oB 56 (by decide)), ai_fr (o18 56 (by decide)), ai_fr (oB 54 (by decide)), ai_fr (o18 54 (by decide)), bb (66 + k) (by omega) (by omega) (by omega) (by omega) (by omega), bb (42 + k) (by omega) (by omega) (by omega) (by omega) (by omega)]
          exact (W4 k k0 k1).2 (by omega)
      refine p2_cr (fun c2 => ?_) (fun c2 => ?_)
      · rw [i_ne, i_0] at c2
        refine p2_br (fun A21 h21 => p2_br (fun A22 h22 => ?_))
        have M21 := gg_st h21
        have M22 := gg_st h22
        rw [i42, lm] at M21
        rw [i48, lm] at M22
        refine go (fun j hj => (M22.2.2.1 j hj).trans (M21.2.2.1 j hj)) (fun i i0 h1 h2 => by rw [M22.2.2.2.2 i i0 h2, M21.2.2.2.2 i i0 h1]) ?_
        rw [M22.2.2.2.1, M22.2.2.2.2 _ (by omega) (by omega), M21.2.2.2.1]
        rcases w8 with ⟨-, w8⟩ | ⟨w8, -⟩
        · exact .inl ⟨w8, rfl, rfl⟩
        · omega
      · rw [i_nne, i_0] at c2
        unfold d_wholeNight_108
        refine go (fun _ _ => rfl) (fun _ _ _ _ => rfl) ?_
        rcases w8 with ⟨w8, -⟩ | ⟨-, w8⟩
        · omega
        · rw [b48, b18 _ (by omega) (by omega) (by omega) (by omega)]
          exact w8
end H9ez9
end Qz144
section Qz145
/-! bars: arrivals; the row of what was seen -/
section A9f
variable {J : Nat → Nat → Nat → Int64}
theorem s_arrivals_5 {x1 : Int32} : ∀ {n : Nat} {P : Nat → Nat → Nat} {F : Nat → Nat → Int32} {A : Nat → Nat → Nat → Int32} {J : Nat → Nat → Nat → Int64} {x2 : Int64} {x4 : Int32}, Gc P F A → 0 ≤ x4.toInt ∧ x4.toInt ≤ 6 → 100 - x4.toInt < (n : Int) → ok (e_Evening_arrivals_5 n P F A J x1 x2 x4) (fun r => QKc P r.2.1 F r.2.2.1 A r.2.2.2.1) := by
  intro n
  induction n with
  | zero => intro P F A J x2 x4 G hx hn; exact absurd hn (by omega)
  | succ n ih =>
    intro P F A J x2 x4 G hx hn
    have l0 : (0 : Int32).toInt = 0 := by decide
    have l1 : (1 : Int32).toInt = 1 := by decide
    have e4 : (x4 + 1).toInt = x4.toInt + 1 := by rw [i_add (by omega) (by omega), l1]
    have a2 : 0 ≤ (F (P 32 4) 17).toInt ∧ (F (P 32 4) 17).toInt ≤ 6 := by have := G.1.1 (P 32 4) 17; rw [G.k324] at this; exact this
    have f82 : x4.toInt < 6 → ∀ {P2 F2 A2 J2} {x6 : Int32}, QKc P P2 F F2 A A2 → ok (e_Evening_arrivals_82 (e_Evening_arrivals_5 n) n P2 F2 A2 J2 x1 x2 x4 x6) (fun r => QKc P r.2.1 F r.2.2.1 A r.2.2.2.1) := by
      intro hlt P2 F2 A2 J2 x6 q
      have G2 := q.g G
      unfold e_Evening_arrivals_82
      refine ok_chk G2.k324 ?_
      refine ok_cond (fun _ => ?_) (fun _ => ?_)
      · unfold e_Evening_arrivals_110
        exact ok_mono (ih G2 (by omega) (by omega)) (fun r hr => q.tr hr)
      · unfold e_Evening_arrivals_110
        exact ok_mono (ih G2 (by omega) (by omega)) (fun r hr => q.tr hr)
    unfold e_Evening_arrivals_5
    refine ok_chk G.k324 ?_
    refine ok_cond (fun _ => ok_some (QKc.rfl' G.1)) (fun c => ?_)
    rw [i_nge] at c
    have hlt6 : x4.toInt < 6 := by omega
    refine ok_ldc (K := 2) G.1 (by decide) (by omega) (by omega) ?_
    intro v3 v3e _
    refine ok_cond (fun _ => f82 hlt6 (QKc.rfl' G.1)) (fun c3 => ?_)
    rw [i_nlt] at c3
    have lv := G.2.2.2.2.1 x4.toInt (by omega) (by omega)
    have l2 : v3.toInt < 36 ∧ v3.toInt % 6 < ci A (P 0 8) 5 (v3.toInt / 6) := by
      rw [v3e]
      rcases lv with z | z
      · omega
      · exact ⟨z.2.1, z.2.2⟩
    refine ok_chk G.k324 ?_
    refine ok_div1 (by decide) ?_
    intro v6 e6
    have d6 : v6.toInt = v3.toInt / 6 := by rw [e6]; exact i_div6 (by omega)
    rw [G.2.2.1]
    refine ok_ldc G.1 G.k08 (by omega) (by omega) ?_
    intro v7 v7e v7r
    change -1 ≤ v7.toInt ∧ v7.toInt ≤ 7 at v7r
    have h7 := G.2.2.2.1.2.2.1 v6.toInt (by omega) (by omega) (by rw [d6]; omega)
    refine ok_chk G.k08 ?_
    refine ok_chk G.k08 ?_
    refine ok_ldc G.1 G.k08 (by omega) (by omega) ?_
    intro v10 v10e v10r
    change -1 ≤ v10.toInt ∧ v10.toInt ≤ 7 at v10r
    rw [G.2.2.1] at c
    have h10 := G.2.2.2.1.2.1 x4.toInt (by omega) c
    refine ok_call (s_between G.k08 G.1 G.2.2.2.1 ⟨by omega, by omega⟩ ⟨by omega, by omega⟩ (by omega)) ?_
    rintro ⟨v, P2, F2, A2, J2⟩ ⟨g1, g2, g3, g4⟩
    dsimp only at g1 g2 g3 g4 ⊢
    subst g1
    exact f82 hlt6 ⟨fun _ _ _ => rfl, g4, ⟨fun q hq => ⟨fun k => g2 q k (by omega), fun o _ => g3 q o (by omega)⟩, fun r a _ _ => g3 r 3 (by simp), fun k => g2 4 k (by simp), g2 0 10 (by simp), fun k => g2 1 k (by simp)⟩⟩
theorem s_arrivals {n : Nat} {P : Nat → Nat → Nat} {F : Nat → Nat → Int32} {A : Nat → Nat → Nat → Int32} {x1 : Int32} (G : Gc P F A) (hn : 200 ≤ n) : ok (e_Evening_arrivals n P F A J x1) (fun r => QKc P r.2.1 F r.2.2.1 A r.2.2.2.1) := by
  have l0 : (0 : Int32).toInt = 0 := by decide
  unfold e_Evening_arrivals
  exact s_arrivals_5 G (by decide) (by omega)
end A9f
theorem i_and {x m : Int32} (h : 0 ≤ m.toInt) : 0 ≤ (x &&& m).toInt ∧ (x &&& m).toInt ≤ m.toInt := by
  have hm : m.toBitVec.msb = false := by
    have e : m.toInt = m.toBitVec.toInt := rfl
    rw [e, BitVec.toInt_eq_msb_cond] at h
    cases hb : m.toBitVec.msb with
    | false => rfl
    | true =>
      rw [hb] at h
      simp only [if_true] at h
      have := m.toBitVec.isLt
      omega
  have e1 : (x &&& m).toInt = (x.toBitVec &&& m.toBitVec).toInt := rfl
  have e2 : m.toInt = m.toBitVec.toInt := rfl
  rw [e1, e2, BitVec.toInt_eq_msb_cond, BitVec.toInt_eq_msb_cond, BitVec.msb_and, hm, Bool.and_false]
  simp only [Bool.false_eq_true, if_false]
  have : (x.toBitVec &&& m.toBitVec).toNat ≤ m.toBitVec.toNat := by
    rw [BitVec.toNat_and]
    exact Nat.and_le_right
  omega
theorem b_sets : ∀ d : Fin 13, (2 * ((1 : Int32) <<< (Int32.ofNat d.val &&& 31))).toInt = 2 ^ (d.val + 1) ∧ ((1 : Int32) <<< (Int32.ofNat d.val &&& 31)).toInt ≤ 4096 ∧ 1 ≤ ((1 : Int32) <<< (Int32.ofNat d.val &&& 31)).toInt := by decide
/-- the cell of a row of longs -/
abbrev jC (L : Nat) (f : Nat → Int64) : gE := .inl (3, L, .inr (.inl f))
section S9f
variable {t : gT} {d M pc : Nat} {loc : List (Nat × Value)} {st : List Value} {c : Nat × Nat} {B : Nat → List gE} {P : Nat → Nat → Nat} {F : Nat → Nat → Int32} {A : Nat → Nat → Nat → Int32} {J : Nat → Nat → Nat → Int64} {j L : Nat} {f : Nat → Int64} {Q : Option Value × gH → Prop} {R : List Nat}
/-- a run that comes to an end, and what holds of it -/
def kx (t : gT) (d M pc : Nat) (loc : List (Nat × Value)) (st : List Value) (h : gH) (Q : Option Value × gH → Prop) : Prop := ∃ z, k_run t c_lg d M pc loc st h z ∧ Q z
theorem kxI {h h' : gH} {d' M' pc' : Nat} {loc' : List (Nat × Value)} {st' : List Value} (i : ∀ z, k_run t c_lg d' M' pc' loc' st' h' z → k_run t c_lg d M pc loc st h z) (k : kx t d' M' pc' loc' st' h' Q) : kx t d M pc loc st h Q := let ⟨z, a, b⟩ := k; ⟨z, i z a, b⟩
theorem g39_get (hB : (B 39)[j]? = some (jC L f)) (hj : j < 1024) : g_get (c_h c B P F A J) (39936 + j) = some (jC L f) := (c_get (c := c) (P := P) (F := F) (A := A) (J := J) (r := 39) (o := j) (K := 99) rfl hj).trans hB
theorem g39_set {e : gE} (hj : j < 1024) : g_set (c_h c B P F A J) (39936 + j) e = c_h c (va_up B 39 ((B 39).set j e)) P F A J := by
  unfold g_set
  have h1 : (39936 + j) / 1024 = 39 := by omega
  have h2 : (39936 + j) % 1024 = j := by omega
  rw [h1, h2]
  refine Prod.ext rfl ?_
  funext q
  show va_up (c_f B P F A J) 39 ((c_f B P F A J 39).set j e) q = c_f (va_up B 39 ((B 39).set j e)) P F A J q
  by_cases hq : q = 39
  · subst hq
    rw [c_up_same]
    show (B 39).set j e = va_up B 39 ((B 39).set j e) 39
    rw [c_up_same]
  · rw [c_up_ne hq]
    unfold c_f
    rw [c_up_ne hq]
theorem k39_len (hI : (k_mt M).2 pc = some (.arraylength, R)) (hB : (B 39)[j]? = some (jC L f)) (hj : j < 1024) (k : kx t d M (pc + 1) loc (.int (Int32.ofNat L) :: st) (c_h c B P F A J) Q) : kx t d M pc loc (.ref (39936 + j) :: st) (c_h c B P F A J) Q :=
  kxI (fun z hz => k_cln 39 j (K := 99) rfl hI rfl hB hz (by decide) hj) k
theorem k39_ld {i : Int32} (hI : (k_mt M).2 pc = some (.laload, R)) (hB : (B 39)[j]? = some (jC L f)) (hj : j < 1024) (h0 : 0 ≤ i.toInt) (h1 : i.toInt < (L : Int)) (k : ∀ v, kx t d M (pc + 1) loc (.long v :: st) (c_h c B P F A J) Q) : kx t d M pc loc (.int i :: .ref (39936 + j) :: st) (c_h c B P F A J) Q :=
  kxI (fun z hz => k_lald hI (g39_get hB hj) (i_in h0 h1) hz) (k _)
theorem k39_st {i : Int32} {x : Int64} (hI : (k_mt M).2 pc = some (.lastore, R)) (hB : (B 39)[j]? = some (jC L f)) (hj : j < 1024) (h0 : 0 ≤ i.toInt) (h1 : i.toInt < (L : Int)) (k : ∀ f', kx t d M (pc + 1) loc st (c_h c (va_up B 39 ((B 39).set j (jC L f'))) P F A J) Q) : kx t d M pc loc (.long x :: .int i :: .ref (39936 + j) :: st) (c_h c B P F A J) Q :=
  kxI (fun z hz => k_last hI (g39_get hB hj) (i_in h0 h1) (g39_set hj) hz) (k _)
end S9f
end Qz145
