/-! runs that don't look at the script: what is found at one script holds at each -/
/-- a number is brought to its digits before it goes on -/
def n_fz {α : Type} (n : Nat) (k : Nat → α) : α := Nat.rec (motive := fun _ => α) (k 0) (fun m _ => k (m + 1)) n
theorem n_fz_eq {α : Type} (n : Nat) (k : Nat → α) : n_fz n k = k n := by cases n <;> rfl
/-- an instruction that looks at the script -/
def n_trap (I : Instr) (st : List Value) : Bool := match I with
  | .iaload => (match st with | .int _ :: .float _ :: _ => true | _ => false)
  | .arraylength => (match st with | .float j :: _ => decide (j = 0) | _ => false)
  | _ => false
theorem n_mem {t t' : gT} (h1 : t.1 = t'.1) (h2 : t.2.1 = t'.2.1) {I : Instr} {r : List Nat} {st : List Value} {h : gH} (hn : n_trap I st = false) : g_mem t I r st h = g_mem t' I r st h := by
  unfold g_mem
  split <;> try rfl
  · rw [h1]
  · split
    · rfl
    · cases hn
    · rfl
  · split
    · rfl
    · cases hn
    · rfl
  · rw [h2]
theorem n_step {t t' : gT} (h1 : t.1 = t'.1) (h2 : t.2.1 = t'.2.1) {tb : List (List Int32)} {lg : Nat → Nat} {df : Nat → List Value} {nL : Nat} {I : Instr} {r : List Nat} {pc : Nat} {loc : List (Nat × Value)} {st : List Value} {h : gH} (hn : n_trap I st = false) : g_step t tb lg df nL I r pc loc st h = g_step t' tb lg df nL I r pc loc st h := by
  unfold g_step
  rw [n_mem h1 h2 hn]
def n_exec (t : gT) (tb : List (List Int32)) (lg : Nat → Nat) (df : Nat → List Value) (mt : Nat → gM) : Nat → Nat → Nat → Nat → List (Nat × Value) → List Value → gH → Option (Option Value × gH)
  | 0, _, _, _, _, _, _ => none
  | n + 1, d, M, pc, loc, st, h => n_fz pc fun pc => match (mt M).2 pc with
    | none => none
    | some (I, r) => match n_trap I st with
      | true => none
      | false => match g_step t tb lg df (mt M).1.2.2.1 I r pc loc st h with
        | some (pc', loc', st', h') => n_exec t tb lg df mt n d M pc' loc' st' h'
        | none => match g_ret (mt M).1.2.2.2 I st with
          | some v => some (v, h)
          | none => match g_inv tb.length mt I r st h, d with
            | some (M', as, rest), d' + 1 => match n_exec t tb lg df mt n d' M' 0 (lv_args 0 as) [] h with
              | some (v, h1) => n_exec t tb lg df mt n (d' + 1) M (pc + 3) loc (v.toList ++ rest) h1
              | none => none
            | _, _ => none
theorem n_exec_g {t t' : gT} (h1 : t.1 = t'.1) (h2 : t.2.1 = t'.2.1) {tb : List (List Int32)} {lg : Nat → Nat} {df : Nat → List Value} {mt : Nat → gM} : ∀ (n d M pc : Nat) (loc : List (Nat × Value)) (st : List Value) (h : gH) (z : Option Value × gH), n_exec t tb lg df mt n d M pc loc st h = some z → g_exec t' tb lg df mt n d M pc loc st h = some z := by
  intro n
  induction n with
  | zero => intro d M pc loc st h z hz; cases hz
  | succ n ih =>
    intro d M pc loc st h z hz
    unfold n_exec at hz
    rw [n_fz_eq] at hz
    unfold g_exec
    split at hz
    · cases hz
    next I r hI =>
      rw [hI]
      dsimp only
      split at hz
      · cases hz
      next hn =>
        rw [← n_step h1 h2 hn]
        split at hz
        next pc' loc' st' h' hs =>
          rw [hs]
          exact ih _ _ _ _ _ _ _ hz
        next hs =>
          rw [hs]
          dsimp only
          split at hz
          next v hv => rw [hv]; exact hz
          next hv =>
            rw [hv]
            dsimp only
            split at hz
            next M' as rest d' hi =>
              rw [hi]
              dsimp only
              split at hz
              next v h1 he =>
                rw [ih _ _ _ _ _ _ _ he]
                exact ih _ _ _ _ _ _ _ hz
              next => cases hz
            next => cases hz
