/-! behind its end a row holds nothing -/
def q_nn : gE → Prop
  | .inl (_, n, .inl g) => ∀ i, n ≤ i → g i = 0
  | .inl (_, n, .inr (.inl g)) => ∀ i, n ≤ i → g i = 0
  | .inl (_, n, .inr (.inr (.inr (.inr g)))) => ∀ i, n ≤ i → g i = none
  | _ => True
def q_N (h : gH) : Prop := ∀ (r : Nat) (e : gE), e ∈ h.2 r → q_nn e
theorem q_get {h : gH} {k : Nat} {e : gE} (hq : q_N h) (hg : g_get h k = some e) : q_nn e := hq _ _ (List.mem_of_getElem? hg)
theorem q_set {h : gH} {k : Nat} {e : gE} (hq : q_N h) (he : q_nn e) : q_N (g_set h k e) := by
  intro r x hx
  unfold g_set at hx
  simp only [va_up] at hx
  split at hx
  · rcases List.mem_or_eq_of_mem_set hx with h1 | h1
    · exact hq _ _ h1
    · rw [h1]; exact he
  · exact hq _ _ hx
theorem q_push {lg : Nat → Nat} {h h' : gH} {n k : Nat} {e : gE} (hq : q_N h) (he : q_nn e) (hp : g_push lg h n e = some (k, h')) : q_N h' := by
  unfold g_push at hp
  split at hp
  · cases hp
    intro r x hx
    simp only [va_up] at hx
    split at hx
    · rcases List.mem_append.mp hx with h1 | h1
      · exact hq _ _ h1
      · rw [List.mem_singleton.mp h1]; exact he
    · exact hq _ _ hx
  · cases hp
theorem q_ast {h : gH} {a n b t : Nat} {f : Nat → Option Nat} {i : Int32} {P : Prop} (hq : q_N h) (hg : g_get h a = some (.inl (t, n, .inr (.inr (.inr (.inr f)))))) (hi : ¬ (i < 0 ∨ n ≤ i.toNatClampNeg ∨ P)) : q_N (g_set h a (.inl (t, n, .inr (.inr (.inr (.inr (va_up f i.toNatClampNeg (some b)))))))) := by
  refine q_set hq ?_
  intro j hj
  have h1 : ∀ i, n ≤ i → f i = none := q_get hq hg
  have h2 : ¬ j = i.toNatClampNeg := fun e => hi (.inr (.inl (e ▸ hj)))
  show (if j = i.toNatClampNeg then some b else f j) = none
  rw [if_neg h2]
  exact h1 j hj
theorem q_ist {h : gH} {a n t : Nat} {f : Nat → Int32} {i x : Int32} (hq : q_N h) (hg : g_get h a = some (.inl (t, n, .inl f))) (hi : ¬ (i < 0 ∨ n ≤ i.toNatClampNeg)) : q_N (g_set h a (.inl (t, n, .inl (upd f i.toNatClampNeg x)))) := by
  refine q_set hq ?_
  intro j hj
  have h1 : ∀ i, n ≤ i → f i = 0 := q_get hq hg
  have h2 : ¬ j = i.toNatClampNeg := fun e => hi (.inr (e ▸ hj))
  show (if j = i.toNatClampNeg then x else f j) = 0
  rw [if_neg h2]
  exact h1 j hj
theorem q_lst {h : gH} {a n t : Nat} {f : Nat → Int64} {i : Int32} {x : Int64} (hq : q_N h) (hg : g_get h a = some (.inl (t, n, .inr (.inl f)))) (hi : ¬ (i < 0 ∨ n ≤ i.toNatClampNeg)) : q_N (g_set h a (.inl (t, n, .inr (.inl (vp_updL f i.toNatClampNeg x))))) := by
  refine q_set hq ?_
  intro j hj
  have h1 : ∀ i, n ≤ i → f i = 0 := q_get hq hg
  have h2 : ¬ j = i.toNatClampNeg := fun e => hi (.inr (e ▸ hj))
  show (if j = i.toNatClampNeg then x else f j) = 0
  rw [if_neg h2]
  exact h1 j hj
theorem q_acp {h : gH} {a n1 t : Nat} {f g : Nat → Int32} {sp dp n : Nat} (hq : q_N h) (hg : g_get h a = some (.inl (t, n1, .inl g))) (hi : ¬ n1 < dp + n) : q_N (g_set h a (.inl (t, n1, .inl (va_cpy f g sp dp n)))) := by
  refine q_set hq ?_
  intro j hj
  have h1 : ∀ i, n1 ≤ i → g i = 0 := q_get hq hg
  show (if dp ≤ j ∧ j < dp + n then f (sp + (j - dp)) else g j) = 0
  rw [if_neg (by omega)]
  exact h1 j hj
set_option maxHeartbeats 4000000 in
theorem q_mem {t : gT} {I : Instr} {r : List Nat} {st st' : List Value} {h h' : gH} (hS : g_mem t I r st h = some (st', h')) (hq : q_N h) : q_N h' := by
  unfold g_mem at hS
  repeat' split at hS
  all_goals first
    | (cases hS; done)
    | (cases hS; exact hq)
    | (cases hS; exact q_ist hq (by assumption) (by assumption))
    | (cases hS; exact q_lst hq (by assumption) (by assumption))
    | (cases hS; exact q_ast hq (by assumption) (by assumption))
    | (cases hS; exact q_set hq trivial)
    | (obtain ⟨v, hv, e⟩ := Option.map_eq_some_iff.mp hS; cases e; exact hq)
theorem q_nat {I : Instr} {r : List Nat} {st st' : List Value} {h h' : gH} (hS : g_nat I r st h = some (st', h')) (hq : q_N h) : q_N h' := by
  unfold g_nat at hS
  repeat' split at hS
  all_goals first
    | (cases hS; done)
    | (cases hS; exact hq)
    | (cases hS; exact q_acp hq (by assumption) (fun h => (‹¬ (_ ∨ _ ∨ _ ∨ _ ∨ _ ∨ _)›) (.inr (.inr (.inr (.inr (.inl h)))))))
theorem q_new {lg : Nat → Nat} {df : Nat → List Value} {I : Instr} {r : List Nat} {st st' : List Value} {h h' : gH} (hS : g_new lg df I r st h = some (st', h')) (hq : q_N h) : q_N h' := by
  have key : ∀ {n : Nat} {e : gE} {q : List Value}, (g_push lg h n e).map (fun z => ((Value.ref z.1 :: q : List Value), z.2)) = some (st', h') → q_nn e → q_N h' := by
    intro n e q hq' he
    cases hp : g_push lg h n e with
    | none => rw [hp] at hq'; cases hq'
    | some z => rw [hp] at hq'; cases hq'; exact q_push hq he hp
  unfold g_new at hS
  repeat' split at hS
  all_goals first
    | (cases hS; done)
    | exact key hS trivial
    | exact key hS (fun _ _ => rfl)
theorem q_step {t : gT} {tb : List (List Int32)} {lg : Nat → Nat} {df : Nat → List Value} {nL : Nat} {I : Instr} {r : List Nat} {pc pc' : Nat} {loc loc' : List (Nat × Value)} {st st' : List Value} {h h' : gH} (hS : g_step t tb lg df nL I r pc loc st h = some (pc', loc', st', h')) (hq : q_N h) : q_N h' := by
  unfold g_step at hS
  split at hS
  · cases hS; exact hq
  · split at hS
    · cases hS; exact hq
    · split at hS
      · cases hS; exact hq
      · split at hS
        next hm => cases hS; exact q_mem hm hq
        · split at hS
          next hm => cases hS; exact q_new hm hq
          · split at hS
            · cases hS; exact hq
            · split at hS
              next hm => cases hS; exact q_nat hm hq
              · cases hS
theorem q_exec {t : gT} {tb : List (List Int32)} {lg : Nat → Nat} {df : Nat → List Value} {mt : Nat → gM} : ∀ (n d M pc : Nat) (loc : List (Nat × Value)) (st : List Value) (h : gH) (v : Option Value) (h' : gH), g_exec t tb lg df mt n d M pc loc st h = some (v, h') → q_N h → q_N h' := by
  intro n
  induction n with
  | zero => intro d M pc loc st h v h' he; cases he
  | succ n ih =>
    intro d M pc loc st h v h' he hq
    unfold g_exec at he
    split at he
    · cases he
    · split at he
      next hs => exact ih _ _ _ _ _ _ _ _ he (q_step hs hq)
      · split at he
        · cases he; exact hq
        · split at he
          · split at he
            next hc => exact ih _ _ _ _ _ _ _ _ he (ih _ _ _ _ _ _ _ _ hc hq)
            · cases he
          · cases he
theorem q_run {t : gT} {lg : Nat → Nat} {d M pc : Nat} {loc : List (Nat × Value)} {st : List Value} {h h' : gH} {v : Option Value} (hr : k_run t lg d M pc loc st h (v, h')) (hq : q_N h) : q_N h' := by
  obtain ⟨n, hn⟩ := hr
  exact q_exec _ _ _ _ _ _ _ _ _ hn hq
