/-! running: what the logical machine comes to, with fuel enough -/
section KR
variable {t : gT} {lg : Nat → Nat}
/-- the program comes to z -/
def k_run (t : gT) (lg : Nat → Nat) (d M pc : Nat) (loc : List (Nat × Value)) (st : List Value) (h : gH) (z : Option Value × gH) : Prop := ∃ n, g_exec t k_tb lg k_df k_mt n d M pc loc st h = some z
/-- k instructions in a row, none of them a call or a return -/
def k_blk (t : gT) (lg : Nat → Nat) : Nat → Nat → Nat → List (Nat × Value) → List Value → gH → Option (Nat × List (Nat × Value) × List Value × gH)
  | 0, _, pc, loc, st, h => some (pc, loc, st, h)
  | k + 1, M, pc, loc, st, h => match (k_mt M).2 pc with
    | none => none
    | some (I, r) => match g_step t k_tb lg k_df (k_mt M).1.2.2.1 I r pc loc st h with
      | some (pc', loc', st', h') => k_blk t lg k M pc' loc' st' h'
      | none => none
theorem k_runB {d M pc pc' : Nat} {loc loc' : List (Nat × Value)} {st st' : List Value} {h h' : gH} {z : Option Value × gH} (k : Nat) (hb : k_blk t lg k M pc loc st h = some (pc', loc', st', h')) (hr : k_run t lg d M pc' loc' st' h' z) : k_run t lg d M pc loc st h z := by
  induction k generalizing pc loc st h with
  | zero => cases hb; exact hr
  | succ k ih =>
    unfold k_blk at hb
    split at hb
    · cases hb
    next I r hI =>
      split at hb
      next hs =>
        obtain ⟨n, hn⟩ := ih hb
        refine ⟨n + 1, ?_⟩
        unfold g_exec
        rw [hI]
        dsimp only
        rw [hs]
        exact hn
      next => cases hb
/-- a return -/
theorem k_runR {d M pc : Nat} {loc : List (Nat × Value)} {st : List Value} {h : gH} {I : Instr} {r : List Nat} {v : Option Value} (hI : (k_mt M).2 pc = some (I, r)) (hs : g_step t k_tb lg k_df (k_mt M).1.2.2.1 I r pc loc st h = none) (hv : g_ret (k_mt M).1.2.2.2 I st = some v) : k_run t lg d M pc loc st h (v, h) := by
  refine ⟨1, ?_⟩
  unfold g_exec
  rw [hI]
  dsimp only
  rw [hs]
  dsimp only
  rw [hv]
/-- a call -/
theorem k_runC {d M pc M' : Nat} {loc : List (Nat × Value)} {st as rest : List Value} {h h1 : gH} {I : Instr} {r : List Nat} {v : Option Value} {z : Option Value × gH} (hI : (k_mt M).2 pc = some (I, r)) (hs : g_step t k_tb lg k_df (k_mt M).1.2.2.1 I r pc loc st h = none) (hv : g_ret (k_mt M).1.2.2.2 I st = none) (hi : g_inv k_tb.length k_mt I r st h = some (M', as, rest))
    (hc : k_run t lg d M' 0 (lv_args 0 as) [] h (v, h1)) (hr : k_run t lg (d + 1) M (pc + 3) loc (v.toList ++ rest) h1 z) : k_run t lg (d + 1) M pc loc st h z := by
  obtain ⟨n, hn⟩ := hc
  obtain ⟨k, hk⟩ := hr
  refine ⟨n + k + 1, ?_⟩
  unfold g_exec
  rw [hI]
  dsimp only
  rw [hs]
  dsimp only
  rw [hv]
  dsimp only
  rw [hi]
  dsimp only
  rw [g_exec_more n (n + k) _ _ _ _ _ _ _ (by omega) hn]
  exact g_exec_more k (n + k) _ _ _ _ _ _ _ (by omega) hk
end KR
