/-! the class's heap: lengths, rows of objects, Arrays.fill -/
def c_ar (n b K : Nat) (i : Int32) : Option Nat := if i < 0 ∨ n ≤ i.toNatClampNeg then none else c_chk K (b + i.toNatClampNeg)
def c_fi (A : Nat → Nat → Nat → Int32) (r o n : Nat) (x : Int32) : Option (Nat → Nat → Nat → Int32) := some (va_up A r (va_up (A r) o (fun i => if i < n then x else A r o i)))
section KD
variable {t : gT} {lg : Nat → Nat} {d M pc : Nat} {loc : List (Nat × Value)} {st : List Value} {z : Option Value × gH} {R : List Nat}
variable {c : Nat × Nat} {B : Nat → List gE} {P : Nat → Nat → Nat} {F : Nat → Nat → Int32} {A A' : Nat → Nat → Nat → Int32} {J : Nat → Nat → Nat → Int64}
theorem k_cln (r o : Nat) {K a n j : Nat} {dd : (Nat → Int32) ⊕ (Nat → Int64) ⊕ (Nat → UInt32) ⊕ (Nat → UInt64) ⊕ (Nat → Option Nat)} (hk : c_kind r = K) (hI : (k_mt M).2 pc = some (.arraylength, R)) (ha : r * 1024 + o = a) (hg : (c_lay K r (P r) (F r) (A r) (J r) (B r))[o]? = some (.inl (j, n, dd))) (hr : k_run t lg d M (pc + 1) loc (.int (Int32.ofNat n) :: st) (c_h c B P F A J) z) (hj : j < 5 := by decide) (ho : o < 1024 := by decide) : k_run t lg d M pc loc (.ref a :: st) (c_h c B P F A J) z := by
  subst ha
  refine k_memS hI rfl rfl rfl ?_ hr
  unfold g_mem
  simp only [c_get (c := c) (B := B) (P := P) (F := F) (A := A) (J := J) hk ho, hg]
  rw [if_pos hj]
theorem k_aal (r o : Nat) {K K2 a n b q : Nat} {i : Int32} (hk : c_kind r = K) (hI : (k_mt M).2 pc = some (.aaload, R)) (ha : r * 1024 + o = a) (hg : (c_lay K r (P r) (F r) (A r) (J r) (B r))[o]? = some (.inl (4, n, .inr (.inr (.inr (.inr fun i => if i < n then some ((b + i) * 1024) else none)))))) (hq : c_ar n b K2 i = some q) (hr : c_kind q = K2 → k_run t lg d M (pc + 1) loc (.ref (q * 1024) :: st) (c_h c B P F A J) z) (ho : o < 1024 := by decide) : k_run t lg d M pc loc (.int i :: .ref a :: st) (c_h c B P F A J) z := by
  subst ha
  unfold c_ar at hq
  split at hq
  · cases hq
  next hin =>
    obtain ⟨h1, rfl⟩ := c_chk_ok hq
    refine k_memS hI rfl rfl rfl ?_ (hr h1)
    unfold g_mem
    simp only [c_get (c := c) (B := B) (P := P) (F := F) (A := A) (J := J) hk ho, hg]
    rw [if_neg hin, if_pos (Nat.not_le.mp fun h => hin (Or.inr h))]
theorem t_fillI_5 {r o K n : Nat} {x : Int32} (hk : c_kind r = K) (hg : ∀ a, (c_lay K r (P r) (F r) a (J r) (B r))[o]? = some (.inl (0, n, .inl (a o)))) (hs : ∀ a g, (c_lay K r (P r) (F r) a (J r) (B r)).set o (.inl (0, n, .inl g)) = c_lay K r (P r) (F r) (va_up a o g) (J r) (B r)) (hn : n < 2 ^ 31) (ho : o < 1024) : ∀ (m k : Nat), n - k = m → k ≤ n →
    k_run t lg d 268 5 [(0, .ref (r * 1024 + o)), (1, .int x), (2, .int (nI k)), (3, .int (nI n))] [] (c_h c B P F (va_up A r (va_up (A r) o (fun j => if j < k then x else A r o j))) J) (none, c_h c B P F (va_up A r (va_up (A r) o (fun j => if j < n then x else A r o j))) J) := by
  intro m
  induction m with
  | zero =>
    intro k h1 h2
    have hkn : k = n := by omega
    subst hkn
    refine k_runB (pc' := 7) (loc' := [(0, .ref (r * 1024 + o)), (1, .int x), (2, .int (nI k)), (3, .int (nI k))]) (st' := [.int (nI k), .int (nI k)]) 2 rfl ?_
    refine k_ic rfl (fun _ => ?_) (fun hc => ?_)
    · exact k_vret rfl rfl
    · exact absurd (nI_le (Nat.le_refl k) hn) (of_decide_eq_false hc)
  | succ m ih =>
    intro k h1 h2
    refine k_runB (pc' := 7) (loc' := [(0, .ref (r * 1024 + o)), (1, .int x), (2, .int (nI k)), (3, .int (nI n))]) (st' := [.int (nI n), .int (nI k)]) 2 rfl ?_
    refine k_ic rfl (fun hc => ?_) (fun _ => ?_)
    · exact absurd (of_decide_eq_true hc) (nI_ge (by omega) hn)
    · refine k_runB (pc' := 13) (loc' := [(0, .ref (r * 1024 + o)), (1, .int x), (2, .int (nI k)), (3, .int (nI n))]) (st' := [.int x, .int (nI k), .ref (r * 1024 + o)]) 3 rfl ?_
      refine k_cstI r o (n := n) (A' := va_up A r (va_up (A r) o (fun j => if j < k + 1 then x else A r o j))) hk rfl rfl ?_ ?_ ?_ ?_ ho
      · rw [c_up_same]
        rw [hg, c_up_same]
      · intro g
        rw [c_up_same, hs]
      · unfold c_st
        rw [if_neg (nI_in (by omega) hn), nI_clamp (by omega)]
        congr 1
        funext q
        by_cases hq : q = r
        · subst hq
          rw [c_up_same, c_up_same, c_up_same]
          funext p
          by_cases hp : p = o
          · subst hp
            rw [c_up_same, c_up_same, c_up_same]
            funext j
            by_cases hj : j = k
            · subst hj
              simp [upd]
            · simp only [upd, if_neg hj]
              by_cases hjk : j < k
              · rw [if_pos hjk, if_pos (by omega)]
              · rw [if_neg hjk, if_neg (by omega)]
          · rw [c_up_ne hp, c_up_ne hp, c_up_same, c_up_ne hp]
        · rw [c_up_ne hq, c_up_ne hq, c_up_ne hq]
      · refine k_runB (pc' := 5) (loc' := [(0, .ref (r * 1024 + o)), (1, .int x), (2, .int (nI k + 1)), (3, .int (nI n))]) (st' := []) 2 rfl ?_
        rw [nI_1]
        exact ih (k + 1) (by omega) (by omega)
theorem t_fillI (r o : Nat) {K n : Nat} {x : Int32} (hk : c_kind r = K) (hg : ∀ a, (c_lay K r (P r) (F r) a (J r) (B r))[o]? = some (.inl (0, n, .inl (a o)))) (hs : ∀ a g, (c_lay K r (P r) (F r) a (J r) (B r)).set o (.inl (0, n, .inl g)) = c_lay K r (P r) (F r) (va_up a o g) (J r) (B r)) (hn : n < 2 ^ 31) (hv : c_fi A r o n x = some A') (ho : o < 1024 := by decide) : k_run t lg d 268 0 [(0, .ref (r * 1024 + o)), (1, .int x)] [] (c_h c B P F A J) (none, c_h c B P F A' J) := by
  cases hv
  refine k_runB (pc' := 3) (loc' := [(0, .ref (r * 1024 + o)), (1, .int x), (2, .int 0)]) (st' := [.ref (r * 1024 + o)]) 3 rfl ?_
  refine k_cln r o hk rfl rfl (hg _) ?_ (by decide) ho
  refine k_runB (pc' := 5) (loc' := [(0, .ref (r * 1024 + o)), (1, .int x), (2, .int 0), (3, .int (nI n))]) (st' := []) 1 rfl ?_
  have h := t_fillI_5 (t := t) (lg := lg) (d := d) (c := c) (A := A) (x := x) hk hg hs hn ho n 0 (by omega) (by omega)
  have e : va_up A r (va_up (A r) o (fun j => if j < 0 then x else A r o j)) = A := by
    funext q
    by_cases hq : q = r
    · subst hq
      rw [c_up_same]
      funext p
      by_cases hp : p = o
      · subst hp
        rw [c_up_same]
        funext j
        rw [if_neg (by omega)]
      · rw [c_up_ne hp]
    · rw [c_up_ne hq]
  rw [e] at h
  exact h
end KD
