/-! what the methods' functions are made of, and their rows -/
def m_ld (f : Nat → Int32) (n : Nat) (i : Int32) : Option Int32 := if i < 0 ∨ n ≤ i.toNatClampNeg then none else some (f i.toNatClampNeg)
def m_ldJ (f : Nat → Int64) (n : Nat) (i : Int32) : Option Int64 := if i < 0 ∨ n ≤ i.toNatClampNeg then none else some (f i.toNatClampNeg)
def m_st (A : Nat → Nat → Int32) (j n : Nat) (i x : Int32) : Option (Nat → Nat → Int32) := if i < 0 ∨ n ≤ i.toNatClampNeg then none else some (va_up A j (upd (A j) i.toNatClampNeg x))
def m_stJ (J : Nat → Nat → Int64) (j n : Nat) (i : Int32) (x : Int64) : Option (Nat → Nat → Int64) := if i < 0 ∨ n ≤ i.toNatClampNeg then none else some (va_up J j (vp_updL (J j) i.toNatClampNeg x))
def m_pf (F : Nat → Int32) (k : Nat) (x : Int32) : Option (Nat → Int32) := some (upd F k x)
def m_pfz (F : Nat → Int32) (k : Nat) (x : Int32) : Option (Nat → Int32) := if x = 0 ∨ x = 1 then some (upd F k x) else none
def m_div (x y : Int32) : Option Int32 := if y = 0 then none else some (x / y)
def m_rem (x y : Int32) : Option Int32 := if y = 0 then none else some (x - x / y * y)
def m_zr (x : Int32) : Option Int32 := if x = 0 ∨ x = 1 then some x else none
theorem m_ld_ok {f : Nat → Int32} {n : Nat} {i v : Int32} (h : m_ld f n i = some v) : ¬ (i < 0 ∨ n ≤ i.toNatClampNeg) ∧ f i.toNatClampNeg = v := by
  unfold m_ld at h
  split at h
  · cases h
  next hc => exact ⟨hc, Option.some.inj h⟩
theorem m_ldJ_ok {f : Nat → Int64} {n : Nat} {i : Int32} {v : Int64} (h : m_ldJ f n i = some v) : ¬ (i < 0 ∨ n ≤ i.toNatClampNeg) ∧ f i.toNatClampNeg = v := by
  unfold m_ldJ at h
  split at h
  · cases h
  next hc => exact ⟨hc, Option.some.inj h⟩
theorem m_st_ok {A A' : Nat → Nat → Int32} {j n : Nat} {i x : Int32} (h : m_st A j n i x = some A') : ¬ (i < 0 ∨ n ≤ i.toNatClampNeg) ∧ va_up A j (upd (A j) i.toNatClampNeg x) = A' := by
  unfold m_st at h
  split at h
  · cases h
  next hc => exact ⟨hc, Option.some.inj h⟩
theorem m_stJ_ok {J J' : Nat → Nat → Int64} {j n : Nat} {i : Int32} {x : Int64} (h : m_stJ J j n i x = some J') : ¬ (i < 0 ∨ n ≤ i.toNatClampNeg) ∧ va_up J j (vp_updL (J j) i.toNatClampNeg x) = J' := by
  unfold m_stJ at h
  split at h
  · cases h
  next hc => exact ⟨hc, Option.some.inj h⟩
theorem m_zr_ok {x v : Int32} (h : m_zr x = some v) : (v = 0 ∨ v = 1) ∧ x = v := by
  unfold m_zr at h
  split at h
  next hc => cases h; exact ⟨hc, rfl⟩
  · cases h
/-! fewer locals -/
theorem g_ld_filter (ks : List Nat) (loc : List (Nat × Value)) (i : Nat) {v : Value} (h : g_ld (loc.filter fun q => ks.contains q.1) i = some v) : g_ld loc i = some v := by
  unfold g_ld at h ⊢
  induction loc with
  | nil => cases h
  | cons q l ih =>
    by_cases hk : ks.contains q.1 = true
    · rw [List.filter_cons_of_pos (p := fun q : Nat × Value => ks.contains q.1) hk] at h
      by_cases hq : (q.1 == i) = true
      · rw [List.find?_cons_of_pos (p := fun q : Nat × Value => q.1 == i) hq] at h ⊢; exact h
      · rw [List.find?_cons_of_neg (p := fun q : Nat × Value => q.1 == i) hq] at h ⊢; exact ih h
    · rw [List.filter_cons_of_neg (p := fun q : Nat × Value => ks.contains q.1) hk] at h
      have hne : ¬ (q.1 == i) = true := by
        intro hq
        have e : q.1 = i := by simpa using hq
        cases hf : (l.filter fun q => ks.contains q.1).find? (fun q => q.1 == i) with
        | none => rw [hf] at h; cases h
        | some w =>
          have h1 := List.find?_some hf
          have h2 := (List.mem_filter.mp (List.mem_of_find?_eq_some hf)).2
          have e2 : w.1 = i := by simpa using h1
          exact hk (by rw [e, ← e2]; exact h2)
      rw [List.find?_cons_of_neg (p := fun q : Nat × Value => q.1 == i) hne]
      exact ih h
/-- the same but for more locals: keys apart -/
def g_le (l l' : List (Nat × Value)) : Prop := (∀ i v, g_ld l i = some v → g_ld l' i = some v) ∧ (l.map (·.1)).Nodup ∧ (l'.map (·.1)).Nodup
theorem g_ld_ins {i j : Nat} {v : Value} : ∀ {l : List (Nat × Value)}, (∀ q ∈ l, q.1 ≠ i) → g_ld (g_ins i v l) j = if j = i then some v else g_ld l j
  | [], _ => by
    unfold g_ins g_ld
    by_cases hj : j = i
    · subst hj; simp
    · rw [if_neg hj]
      rw [List.find?_cons_of_neg (p := fun q : Nat × Value => q.1 == j) (by simpa using fun h : i = j => hj h.symm)]
  | a :: l, hl => by
    have ih := g_ld_ins (i := i) (j := j) (v := v) (l := l) (fun q hq => hl q (List.mem_cons_of_mem _ hq))
    unfold g_ins
    split
    · unfold g_ld
      by_cases hj : j = i
      · subst hj; simp
      · rw [if_neg hj, List.find?_cons_of_neg (p := fun q : Nat × Value => q.1 == j) (by simpa using fun h : i = j => hj h.symm)]
    · unfold g_ld at ih ⊢
      by_cases hq : (a.1 == j) = true
      · have e : a.1 = j := by simpa using hq
        rw [List.find?_cons_of_pos (p := fun q : Nat × Value => q.1 == j) hq, if_neg (fun h => hl a List.mem_cons_self (e.trans h)), List.find?_cons_of_pos (p := fun q : Nat × Value => q.1 == j) hq]
      · rw [List.find?_cons_of_neg (p := fun q : Nat × Value => q.1 == j) hq, List.find?_cons_of_neg (p := fun q : Nat × Value => q.1 == j) hq]
        exact ih
theorem g_ins_keys {i : Nat} {v : Value} : ∀ {l : List (Nat × Value)}, (∀ q ∈ l, q.1 ≠ i) → (l.map (·.1)).Nodup → ((g_ins i v l).map (·.1)).Nodup
  | [], _, _ => by simp [g_ins]
  | a :: l, hl, hn => by
    unfold g_ins
    split
    · rw [List.map_cons, List.nodup_cons]
      refine ⟨fun h => ?_, hn⟩
      obtain ⟨q, hq, he⟩ := List.mem_map.mp h
      exact hl q hq he
    · rw [List.map_cons, List.nodup_cons] at hn ⊢
      refine ⟨fun h => ?_, g_ins_keys (fun q hq => hl q (List.mem_cons_of_mem _ hq)) hn.2⟩
      obtain ⟨q, hq, he⟩ := List.mem_map.mp h
      rcases g_ins_mem hq with rfl | hq
      · exact hl a List.mem_cons_self he.symm
      · exact hn.1 (List.mem_map.mpr ⟨q, hq, he⟩)
/-- what is looked up behind a filter, keys apart -/
theorem g_ld_mem_iff {l : List (Nat × Value)} (hn : (l.map (·.1)).Nodup) {i : Nat} {v : Value} : g_ld l i = some v ↔ (i, v) ∈ l := by
  refine ⟨g_ld_mem, fun h => ?_⟩
  unfold g_ld
  induction l with
  | nil => cases h
  | cons a l ih =>
    rw [List.map_cons, List.nodup_cons] at hn
    rcases List.mem_cons.mp h with rfl | h
    · simp
    · have hne : ¬ (a.1 == i) = true := by
        intro hq
        have e : a.1 = i := by simpa using hq
        exact hn.1 (List.mem_map.mpr ⟨(i, v), h, e.symm⟩)
      rw [List.find?_cons_of_neg (p := fun q : Nat × Value => q.1 == i) hne]
      exact ih hn.2 h
theorem g_le_ins {l l' : List (Nat × Value)} {i : Nat} {v : Value} {p : Nat × Value → Bool} (h : g_le l l') (hp : ∀ q, p q = true → q.1 ≠ i) : g_le (g_ins i v (l.filter p)) (g_ins i v (l'.filter p)) := by
  obtain ⟨h1, h2, h3⟩ := h
  have f1 : ∀ q ∈ l.filter p, q.1 ≠ i := fun q hq => hp q (List.mem_filter.mp hq).2
  have f2 : ∀ q ∈ l'.filter p, q.1 ≠ i := fun q hq => hp q (List.mem_filter.mp hq).2
  have n1 : ((l.filter p).map (·.1)).Nodup := (List.Sublist.map (fun q : Nat × Value => q.1) List.filter_sublist).nodup h2
  have n2 : ((l'.filter p).map (·.1)).Nodup := (List.Sublist.map (fun q : Nat × Value => q.1) List.filter_sublist).nodup h3
  refine ⟨fun j w hj => ?_, g_ins_keys f1 n1, g_ins_keys f2 n2⟩
  rw [g_ld_ins f1] at hj
  rw [g_ld_ins f2]
  by_cases hji : j = i
  · rw [if_pos hji] at hj ⊢; exact hj
  · rw [if_neg hji] at hj ⊢
    obtain ⟨a1, a2⟩ := List.mem_filter.mp ((g_ld_mem_iff n1).mp hj)
    exact (g_ld_mem_iff n2).mpr (List.mem_filter.mpr ⟨(g_ld_mem_iff h3).mp (h1 _ _ ((g_ld_mem_iff h2).mpr a1)), a2⟩)
theorem g_loads_le {l l' : List (Nat × Value)} (h : g_le l l') {i a : Nat} {st : List Value} {loc1 : List (Nat × Value)} {st1 : List Value} (hs : g_loads l i st a = some (loc1, st1)) : loc1 = l ∧ g_loads l' i st a = some (l', st1) := by
  unfold g_loads at hs ⊢
  split at hs
  next x hg => cases hs; rw [h.1 _ _ hg]; exact ⟨rfl, rfl⟩
  next x hg => cases hs; rw [h.1 _ _ hg]; exact ⟨rfl, rfl⟩
  next x hg => cases hs; rw [h.1 _ _ hg]; exact ⟨rfl, rfl⟩
  next x hg => cases hs; rw [h.1 _ _ hg]; exact ⟨rfl, rfl⟩
  · cases hs
theorem g_st1_le {l l' : List (Nat × Value)} (h : g_le l l') (i : Nat) (v : Value) : g_le (g_st1 l i v) (g_st1 l' i v) := g_le_ins h (fun q hq e => by simp [e] at hq)
theorem g_st2_le {l l' : List (Nat × Value)} (h : g_le l l') (i : Nat) (v : Value) : g_le (g_st2 l i v) (g_st2 l' i v) := g_le_ins h (fun q hq e => by simp [e] at hq)
theorem g_stores_le {l l' : List (Nat × Value)} (h : g_le l l') {nL i a : Nat} {st : List Value} {loc1 : List (Nat × Value)} {st1 : List Value} (hs : g_stores nL l i st a = some (loc1, st1)) : ∃ l1', g_stores nL l' i st a = some (l1', st1) ∧ g_le loc1 l1' := by
  unfold g_stores at hs ⊢
  split at hs
  · split at hs
    next hi => cases hs; rw [if_pos hi]; exact ⟨_, rfl, g_st1_le h _ _⟩
    · cases hs
  · split at hs
    next hi => cases hs; rw [if_pos hi]; exact ⟨_, rfl, g_st2_le h _ _⟩
    · cases hs
  · split at hs
    next hi => cases hs; rw [if_pos hi]; exact ⟨_, rfl, g_st1_le h _ _⟩
    · cases hs
  · split at hs
    next hi => cases hs; rw [if_pos hi]; exact ⟨_, rfl, g_st1_le h _ _⟩
    · cases hs
  · cases hs
theorem g_loc_le {l l' : List (Nat × Value)} (h : g_le l l') {nL : Nat} {I : Instr} {st : List Value} {loc1 : List (Nat × Value)} {st1 : List Value} (hs : g_loc nL I l st = some (loc1, st1)) : ∃ l1', g_loc nL I l' st = some (l1', st1) ∧ g_le loc1 l1' := by
  unfold g_loc at hs ⊢
  split at hs
  · obtain ⟨rfl, h2⟩ := g_loads_le h hs; exact ⟨_, h2, h⟩
  · obtain ⟨rfl, h2⟩ := g_loads_le h hs; exact ⟨_, h2, h⟩
  · obtain ⟨rfl, h2⟩ := g_loads_le h hs; exact ⟨_, h2, h⟩
  · obtain ⟨rfl, h2⟩ := g_loads_le h hs; exact ⟨_, h2, h⟩
  · obtain ⟨rfl, h2⟩ := g_loads_le h hs; exact ⟨_, h2, h⟩
  · obtain ⟨rfl, h2⟩ := g_loads_le h hs; exact ⟨_, h2, h⟩
  · exact g_stores_le h hs
  · exact g_stores_le h hs
  · exact g_stores_le h hs
  · exact g_stores_le h hs
  · exact g_stores_le h hs
  · exact g_stores_le h hs
  · split at hs
    next x hg =>
      rw [h.1 _ _ hg]
      split at hs
      next hi => cases hs; dsimp only; rw [if_pos hi]; exact ⟨_, rfl, g_st1_le h _ _⟩
      · cases hs
    · cases hs
  · cases hs
theorem g_loc_dom {nL : Nat} {I : Instr} {st : List Value} {l : List (Nat × Value)} {t : gT} {tb : List (List Int32)} {lg : Nat → Nat} {df : Nat → List Value} {r : List Nat} {pc : Nat} {h : gH} (hl : g_loc nL I l st ≠ none) : g_br I r pc st = none ∧ g_mem t I r st h = none ∧ g_new lg df I r st h = none ∧ g_txt tb I r st = none ∧ g_nat I r st h = none ∧ g_pure I st = none := by
  unfold g_loc at hl
  split at hl <;> first | exact ⟨rfl, rfl, rfl, rfl, rfl, rfl⟩ | exact absurd rfl hl
theorem g_ret_dom {nL : Nat} {I : Instr} {st : List Value} {l : List (Nat × Value)} {ret : Option FieldType} {v : Option Value} (h : g_ret ret I st = some v) : g_loc nL I l st = none := by
  unfold g_ret at h
  split at h <;> first | rfl | cases h
theorem g_inv_dom {nL nt : Nat} {mt : Nat → gM} {I : Instr} {r : List Nat} {st : List Value} {l : List (Nat × Value)} {h : gH} {q : Nat × List Value × List Value} (hi : g_inv nt mt I r st h = some q) : g_loc nL I l st = none := by
  unfold g_inv at hi
  split at hi <;> first | rfl | cases hi
section GW
variable {t : gT} {tb : List (List Int32)} {lg : Nat → Nat} {df : Nat → List Value} {mt : Nat → gM}
theorem g_step_le {l l' : List (Nat × Value)} (hle : g_le l l') {nL : Nat} {I : Instr} {r : List Nat} {pc pc1 : Nat} {st st1 : List Value} {h h1 : gH} {loc1 : List (Nat × Value)} (hs : g_step t tb lg df nL I r pc l st h = some (pc1, loc1, st1, h1)) : ∃ l1', g_step t tb lg df nL I r pc l' st h = some (pc1, l1', st1, h1) ∧ g_le loc1 l1' := by
  cases hp : g_pure I st with
  | some x => unfold g_step at hs ⊢; rw [hp] at hs ⊢; cases hs; exact ⟨_, rfl, hle⟩
  | none =>
    cases hl : g_loc nL I l st with
    | some x =>
      obtain ⟨l1, s1⟩ := x
      obtain ⟨l2, h2, h3⟩ := g_loc_le hle hl
      unfold g_step at hs ⊢
      rw [hp] at hs ⊢
      dsimp only at hs ⊢
      rw [hl] at hs
      rw [h2]
      cases hs
      exact ⟨_, rfl, h3⟩
    | none =>
      have hl' : g_loc nL I l' st = none := by
        cases hc : g_loc nL I l' st with
        | none => rfl
        | some y =>
          obtain ⟨b1, b2, b3, b4, b5, -⟩ := g_loc_dom (t := t) (tb := tb) (lg := lg) (df := df) (r := r) (pc := pc) (h := h) (nL := nL) (l := l') (I := I) (st := st) (by rw [hc]; exact fun z => by cases z)
          unfold g_step at hs
          rw [hp] at hs
          dsimp only at hs
          rw [hl] at hs
          dsimp only at hs
          rw [b1] at hs
          dsimp only at hs
          rw [b2] at hs
          dsimp only at hs
          rw [b3] at hs
          dsimp only at hs
          rw [b4] at hs
          dsimp only at hs
          rw [b5] at hs
          cases hs
      unfold g_step at hs ⊢
      rw [hp] at hs ⊢
      dsimp only at hs ⊢
      rw [hl] at hs
      rw [hl']
      dsimp only at hs ⊢
      split at hs
      next hb => cases hs; exact ⟨_, rfl, hle⟩
      next hb =>
        split at hs
        next hm => cases hs; exact ⟨_, rfl, hle⟩
        next hm =>
          split at hs
          next hn => cases hs; exact ⟨_, rfl, hle⟩
          next hn =>
            split at hs
            next hx => cases hs; exact ⟨_, rfl, hle⟩
            next hx =>
              split at hs
              next ha => cases hs; exact ⟨_, rfl, hle⟩
              next ha => cases hs
theorem g_step_none {l l' : List (Nat × Value)} {nL : Nat} {I : Instr} {r : List Nat} {pc : Nat} {st : List Value} {h : gH} (hl : g_loc nL I l st = none) (hl' : g_loc nL I l' st = none) (hs : g_step t tb lg df nL I r pc l st h = none) : g_step t tb lg df nL I r pc l' st h = none := by
  unfold g_step at hs ⊢
  cases hp : g_pure I st with
  | some x => rw [hp] at hs; cases hs
  | none =>
    rw [hp] at hs
    dsimp only at hs ⊢
    rw [hl] at hs
    rw [hl']
    dsimp only at hs ⊢
    split at hs
    · cases hs
    · split at hs
      · cases hs
      · split at hs
        · cases hs
        · split at hs
          · cases hs
          · split at hs
            · cases hs
            · rfl
theorem g_exec_le : ∀ (n d M pc : Nat) (l l' : List (Nat × Value)) (st : List Value) (h : gH) (z : Option Value × gH), g_le l l' → g_exec t tb lg df mt n d M pc l st h = some z → g_exec t tb lg df mt n d M pc l' st h = some z := by
  intro n
  induction n with
  | zero => intro d M pc l l' st h z _ he; cases he
  | succ n ih =>
    intro d M pc l l' st h z hle he
    unfold g_exec at he ⊢
    cases hI : (mt M).2 pc with
    | none => rw [hI] at he; cases he
    | some q =>
      obtain ⟨I, r⟩ := q
      rw [hI] at he
      dsimp only at he ⊢
      cases hs : g_step t tb lg df (mt M).1.2.2.1 I r pc l st h with
      | some w =>
        obtain ⟨pc1, l1, s1, h1⟩ := w
        obtain ⟨l2, h2, h3⟩ := g_step_le hle hs
        rw [hs] at he
        rw [h2]
        exact ih _ _ _ _ _ _ _ _ h3 he
      | none =>
        rw [hs] at he
        dsimp only at he
        cases hr : g_ret (mt M).1.2.2.2 I st with
        | some v =>
          rw [g_step_none (g_ret_dom hr) (g_ret_dom hr) hs]
          dsimp only
          rw [hr] at he
          try rw [hr]
          exact he
        | none =>
          rw [hr] at he
          dsimp only at he
          cases hi : g_inv tb.length mt I r st h with
          | none => rw [hi] at he; cases d <;> cases he
          | some q =>
            obtain ⟨M', as, rest⟩ := q
            rw [g_step_none (g_inv_dom hi) (g_inv_dom hi) hs]
            dsimp only
            try rw [hr]
            try dsimp only
            rw [hi] at he
            try rw [hi]
            cases d with
            | zero => cases he
            | succ d =>
              dsimp only at he ⊢
              split at he
              next hc => exact ih _ _ _ _ _ _ _ _ hle he
              · cases he
end GW
theorem va_nd_nodup : ∀ {l : List Nat}, va_nd l = true → l.Nodup
  | [], _ => List.nodup_nil
  | a :: l, h => by
    simp only [va_nd, Bool.and_eq_true, decide_eq_true_eq] at h
    exact List.nodup_cons.mpr ⟨h.1, va_nd_nodup h.2⟩
section KX
variable {t : gT} {lg : Nat → Nat} {d M pc : Nat} {loc : List (Nat × Value)} {st : List Value} {h : gH} {z : Option Value × gH} {r : List Nat}
theorem k_wk (ks : List Nat) {loc' : List (Nat × Value)} (hs : (loc.filter fun q => ks.contains q.1) = loc') (hn : va_nd (loc.map (·.1)) = true) (hr : k_run t lg d M pc loc' st h z) : k_run t lg d M pc loc st h z := by
  subst hs
  obtain ⟨n, hn2⟩ := hr
  exact ⟨n, g_exec_le n d M pc _ loc st h z ⟨fun i v hv => g_ld_filter ks loc i hv, (List.Sublist.map (fun q : Nat × Value => q.1) List.filter_sublist).nodup (va_nd_nodup hn), va_nd_nodup hn⟩ hn2⟩
theorem k_ldI {a n : Nat} {f : Nat → Int32} {i v : Int32} (hI : (k_mt M).2 pc = some (.iaload, r)) (hg : g_get h a = some (.inl (0, n, .inl f))) (hv : m_ld f n i = some v) (hr : k_run t lg d M (pc + 1) loc (.int v :: st) h z) : k_run t lg d M pc loc (.int i :: .ref a :: st) h z := by
  obtain ⟨h1, rfl⟩ := m_ld_ok hv
  exact k_iald hI hg h1 hr
theorem k_ldB {a n : Nat} {f : Nat → Int32} {i v : Int32} (hI : (k_mt M).2 pc = some (.baload, r)) (hg : g_get h a = some (.inl (1, n, .inl f))) (hv : m_ld f n i = some v) (hr : k_run t lg d M (pc + 1) loc (.int v :: st) h z) : k_run t lg d M pc loc (.int i :: .ref a :: st) h z := by
  obtain ⟨h1, rfl⟩ := m_ld_ok hv
  exact k_bald hI hg h1 hr
theorem k_ldZ {a n : Nat} {f : Nat → Int32} {i v : Int32} (hI : (k_mt M).2 pc = some (.baload, r)) (hg : g_get h a = some (.inl (2, n, .inl f))) (hv : m_ld f n i = some v) (hr : k_run t lg d M (pc + 1) loc (.int v :: st) h z) : k_run t lg d M pc loc (.int i :: .ref a :: st) h z := by
  obtain ⟨h1, rfl⟩ := m_ld_ok hv
  exact k_zald hI hg h1 hr
theorem k_ldL {a n : Nat} {f : Nat → Int64} {i : Int32} {v : Int64} (hI : (k_mt M).2 pc = some (.laload, r)) (hg : g_get h a = some (.inl (3, n, .inr (.inl f)))) (hv : m_ldJ f n i = some v) (hr : k_run t lg d M (pc + 1) loc (.long v :: st) h z) : k_run t lg d M pc loc (.int i :: .ref a :: st) h z := by
  obtain ⟨h1, rfl⟩ := m_ldJ_ok hv
  exact k_lald hI hg h1 hr
theorem k_dvI {x y v : Int32} (hI : (k_mt M).2 pc = some (.idiv, r)) (hv : m_div x y = some v) (hr : k_run t lg d M (pc + 1) loc (.int v :: st) h z) : k_run t lg d M pc loc (.int y :: .int x :: st) h z := by
  unfold m_div at hv
  split at hv
  · cases hv
  next hy => cases hv; exact k_idiv hI hy hr
theorem k_rmI {x y v : Int32} (hI : (k_mt M).2 pc = some (.irem, r)) (hv : m_rem x y = some v) (hr : k_run t lg d M (pc + 1) loc (.int v :: st) h z) : k_run t lg d M pc loc (.int y :: .int x :: st) h z := by
  unfold m_rem at hv
  split at hv
  · cases hv
  next hy => cases hv; exact k_irem hI hy hr
variable {c : Nat × Nat} {B : Nat → List gE} {F F' : Nat → Int32} {A A' : Nat → Nat → Int32} {J J' : Nat → Nat → Int64}
theorem k_stI (j : Nat) {n : Nat} {i x : Int32} {a : Nat} (hI : (k_mt M).2 pc = some (.iastore, r)) (ha : (a, g_get (m_h c B F A J) a) = (40960 + j, some (.inl (0, n, .inl (A j))))) (hs : ∀ g, (m_cells F A J).set j (.inl (0, n, .inl g)) = m_cells F (va_up A j g) J) (hv : m_st A j n i x = some A') (hr : k_run t lg d M (pc + 1) loc st (m_h c B F A' J) z) (hj : j < 1024 := by decide) : k_run t lg d M pc loc (.int x :: .int i :: .ref a :: st) (m_h c B F A J) z := by
  obtain ⟨h1, rfl⟩ := m_st_ok hv
  obtain ⟨rfl, hg⟩ := Prod.mk.inj ha
  exact k_iast hI hg h1 (m_hset j hj (hs _)) hr
theorem k_stB (j : Nat) {n : Nat} {i x : Int32} {a : Nat} (hI : (k_mt M).2 pc = some (.bastore, r)) (ha : (a, g_get (m_h c B F A J) a) = (40960 + j, some (.inl (1, n, .inl (A j))))) (hs : ∀ g, (m_cells F A J).set j (.inl (1, n, .inl g)) = m_cells F (va_up A j g) J) (hv : m_st A j n i (vp_nar .byte x) = some A') (hr : k_run t lg d M (pc + 1) loc st (m_h c B F A' J) z) (hj : j < 1024 := by decide) : k_run t lg d M pc loc (.int x :: .int i :: .ref a :: st) (m_h c B F A J) z := by
  obtain ⟨h1, rfl⟩ := m_st_ok hv
  obtain ⟨rfl, hg⟩ := Prod.mk.inj ha
  exact k_bast hI hg h1 (m_hset j hj (hs _)) hr
theorem k_stZ (j : Nat) {n : Nat} {i x : Int32} {a : Nat} (hI : (k_mt M).2 pc = some (.bastore, r)) (ha : (a, g_get (m_h c B F A J) a) = (40960 + j, some (.inl (2, n, .inl (A j))))) (hs : ∀ g, (m_cells F A J).set j (.inl (2, n, .inl g)) = m_cells F (va_up A j g) J) (hv : m_st A j n i (vp_nar .boolean x) = some A') (hr : k_run t lg d M (pc + 1) loc st (m_h c B F A' J) z) (hj : j < 1024 := by decide) : k_run t lg d M pc loc (.int x :: .int i :: .ref a :: st) (m_h c B F A J) z := by
  obtain ⟨h1, rfl⟩ := m_st_ok hv
  obtain ⟨rfl, hg⟩ := Prod.mk.inj ha
  exact k_zast hI hg h1 (m_hset j hj (hs _)) hr
theorem k_stL (j : Nat) {n : Nat} {i : Int32} {x : Int64} {a : Nat} (hI : (k_mt M).2 pc = some (.lastore, r)) (ha : (a, g_get (m_h c B F A J) a) = (40960 + j, some (.inl (3, n, .inr (.inl (J j)))))) (hs : ∀ g, (m_cells F A J).set j (.inl (3, n, .inr (.inl g))) = m_cells F A (va_up J j g)) (hv : m_stJ J j n i x = some J') (hr : k_run t lg d M (pc + 1) loc st (m_h c B F A J') z) (hj : j < 1024 := by decide) : k_run t lg d M pc loc (.long x :: .int i :: .ref a :: st) (m_h c B F A J) z := by
  obtain ⟨h1, rfl⟩ := m_stJ_ok hv
  obtain ⟨rfl, hg⟩ := Prod.mk.inj ha
  exact k_last hI hg h1 (m_hset j hj (hs _)) hr
theorem k_ptI {ix k : Nat} {x : Int32} {fs : List Value} (hI : (k_mt M).2 pc = some (.putfield ix, [12, k])) (ht : t.1 12 k = k_ty 12 k) (hg : (g_get (m_h c B F A J) 40960, (m_cells F A J).set 0 (.inr (12, fs.set k (.int x)))) = (some (.inr (12, fs)), m_cells (upd F k x) A J)) (hk : (k_ty 12 k, decide (k < fs.length)) = (.int, true)) (hv : m_pf F k x = some F') (hr : k_run t lg d M (pc + 3) loc st (m_h c B F' A J) z) : k_run t lg d M pc loc (.int x :: .ref 40960 :: st) (m_h c B F A J) z := by
  cases hv
  obtain ⟨h1, h2⟩ := Prod.mk.inj hg
  obtain ⟨h3, h4⟩ := Prod.mk.inj hk
  exact k_put hI h1 (of_decide_eq_true h4) (by rw [ht, h3]; rfl) (m_hset 0 (by decide) h2) hr
theorem k_ptZ {ix k : Nat} {x : Int32} {fs : List Value} (hI : (k_mt M).2 pc = some (.putfield ix, [12, k])) (ht : t.1 12 k = k_ty 12 k) (hg : (g_get (m_h c B F A J) 40960, (m_cells F A J).set 0 (.inr (12, fs.set k (.int x)))) = (some (.inr (12, fs)), m_cells (upd F k x) A J)) (hk : (k_ty 12 k, decide (k < fs.length)) = (.boolean, true)) (hv : m_pfz F k x = some F') (hr : k_run t lg d M (pc + 3) loc st (m_h c B F' A J) z) : k_run t lg d M pc loc (.int x :: .ref 40960 :: st) (m_h c B F A J) z := by
  unfold m_pfz at hv
  split at hv
  next hx =>
    cases hv
    obtain ⟨h1, h2⟩ := Prod.mk.inj hg
    obtain ⟨h3, h4⟩ := Prod.mk.inj hk
    exact k_put hI h1 (of_decide_eq_true h4) (by rw [ht, h3]; exact decide_eq_true hx) (m_hset 0 (by decide) h2) hr
  next => cases hv
end KX
theorem m_out {x : Int32} {lo hi : Int} (ks : List Int32) (h1 : ∀ j, j < ks.length → (ks.getD j 0).toInt = lo + (j : Int)) (h2 : hi < lo + (ks.length : Int)) (h : ∀ k ∈ ks, ¬ x = k) : x.toInt < lo ∨ hi < x.toInt := by
  by_cases ha : x.toInt < lo
  · exact Or.inl ha
  · by_cases hb : hi < x.toInt
    · exact Or.inr hb
    · exfalso
      have hj : (x.toInt - lo).toNat < ks.length := by omega
      have h3 := h1 _ hj
      have h4 : ks.getD (x.toInt - lo).toNat 0 = x := by
        apply Int32.toInt_inj.mp
        rw [h3]
        omega
      rw [List.getD_eq_getElem?_getD, List.getElem?_eq_getElem hj] at h4
      exact h _ (List.getElem_mem hj) h4.symm
