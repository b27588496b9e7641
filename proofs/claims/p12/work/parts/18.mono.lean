/-! no cell goes -/
set_option maxHeartbeats 4000000 in
theorem g_mem_cnt {t : gT} {I : Instr} {r : List Nat} {st st' : List Value} {h h' : gH} (hS : g_mem t I r st h = some (st', h')) : h'.1 = h.1 := by
  unfold g_mem at hS
  repeat' split at hS
  all_goals first
    | (cases hS <;> rfl)
    | (obtain ⟨v, hv, e⟩ := Option.map_eq_some_iff.mp hS; cases e; rfl)
theorem g_nat_cnt {I : Instr} {r : List Nat} {st st' : List Value} {h h' : gH} (hS : g_nat I r st h = some (st', h')) : h'.1 = h.1 := by
  unfold g_nat at hS
  repeat' split at hS
  all_goals first
    | (cases hS <;> rfl)
theorem g_step_mono {t : gT} {tb : List (List Int32)} {lg : Nat → Nat} {df : Nat → List Value} {nL : Nat} {I : Instr} {r : List Nat} {pc pc' : Nat} {loc loc' : List (Nat × Value)} {st st' : List Value} {h h' : gH} (hS : g_step t tb lg df nL I r pc loc st h = some (pc', loc', st', h')) : h.1.1 ≤ h'.1.1 ∧ h.1.2 ≤ h'.1.2 := by
  unfold g_step at hS
  split at hS
  · cases hS; exact ⟨Nat.le_refl _, Nat.le_refl _⟩
  · split at hS
    · cases hS; exact ⟨Nat.le_refl _, Nat.le_refl _⟩
    · split at hS
      · cases hS; exact ⟨Nat.le_refl _, Nat.le_refl _⟩
      · split at hS
        next hm => cases hS; rw [g_mem_cnt hm]; exact ⟨Nat.le_refl _, Nat.le_refl _⟩
        · split at hS
          next hm => cases hS; exact g_new_mono hm
          · split at hS
            · cases hS; exact ⟨Nat.le_refl _, Nat.le_refl _⟩
            · split at hS
              next hm => cases hS; rw [g_nat_cnt hm]; exact ⟨Nat.le_refl _, Nat.le_refl _⟩
              · cases hS
theorem g_exec_mono {t : gT} {tb : List (List Int32)} {lg : Nat → Nat} {df : Nat → List Value} {mt : Nat → gM} : ∀ (n d M pc : Nat) (loc : List (Nat × Value)) (st : List Value) (h : gH) (v : Option Value) (h' : gH), g_exec t tb lg df mt n d M pc loc st h = some (v, h') → h.1.1 ≤ h'.1.1 ∧ h.1.2 ≤ h'.1.2 := by
  intro n
  induction n with
  | zero => intro d M pc loc st h v h' he; cases he
  | succ n ih =>
    intro d M pc loc st h v h' he
    unfold g_exec at he
    split at he
    · cases he
    · split at he
      next hs =>
        have h1 := g_step_mono hs
        have h2 := ih _ _ _ _ _ _ _ _ he
        omega
      · split at he
        · cases he; exact ⟨Nat.le_refl _, Nat.le_refl _⟩
        · split at he
          · split at he
            next hc =>
              have h1 := ih _ _ _ _ _ _ _ _ hc
              have h2 := ih _ _ _ _ _ _ _ _ he
              omega
            · cases he
          · cases he
/-- more fuel: the same -/
theorem g_exec_more {t : gT} {tb : List (List Int32)} {lg : Nat → Nat} {df : Nat → List Value} {mt : Nat → gM} : ∀ (n k d M pc : Nat) (loc : List (Nat × Value)) (st : List Value) (h : gH) (z : Option Value × gH), n ≤ k → g_exec t tb lg df mt n d M pc loc st h = some z → g_exec t tb lg df mt k d M pc loc st h = some z := by
  intro n
  induction n with
  | zero => intro k d M pc loc st h z _ he; cases he
  | succ n ih =>
    intro k d M pc loc st h z hk he
    obtain ⟨k, rfl⟩ : ∃ k', k = k' + 1 := ⟨k - 1, by omega⟩
    have hk : n ≤ k := by omega
    unfold g_exec at he ⊢
    split at he
    · cases he
    next I r hI =>
      try rw [hI]
      try dsimp only
      split at he
      next hs =>
        try rw [hs]
        try dsimp only
        exact ih _ _ _ _ _ _ _ _ hk he
      next hs =>
        try rw [hs]
        try dsimp only
        split at he
        next hr => (try rw [hr]); exact he
        next hr =>
          try rw [hr]
          try dsimp only
          split at he
          next hi =>
            try rw [hi]
            try dsimp only
            split at he
            next hc =>
              rw [ih _ _ _ _ _ _ _ _ hk hc]
              dsimp only
              exact ih _ _ _ _ _ _ _ _ hk he
            · cases he
          · cases he
