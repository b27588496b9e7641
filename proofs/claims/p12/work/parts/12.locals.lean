/-! instructions of the locals; branches -/
def g_ld (loc : List (Nat × Value)) (i : Nat) : Option Value := (loc.find? fun q => q.1 == i).map fun q => q.2
/-- the locals stand in the order of their numbers -/
def g_ins (i : Nat) (v : Value) : List (Nat × Value) → List (Nat × Value)
  | [] => [(i, v)]
  | q :: l => if i < q.1 then (i, v) :: q :: l else q :: g_ins i v l
def g_st1 (loc : List (Nat × Value)) (i : Nat) (v : Value) : List (Nat × Value) := g_ins i v (loc.filter fun q => !(q.1 == i) && !(q.1 + 1 == i && q.2.category == 2))
def g_st2 (loc : List (Nat × Value)) (i : Nat) (v : Value) : List (Nat × Value) := g_ins i v (loc.filter fun q => !(q.1 == i) && (!(q.1 == i + 1) && !(q.1 + 1 == i && q.2.category == 2)))
def g_loads (loc : List (Nat × Value)) (i : Nat) (st : List Value) (a : Nat) : Option (List (Nat × Value) × List Value) := match g_ld loc i, a with
  | some (.int x), 0 => some (loc, .int x :: st)
  | some (.long x), 1 => some (loc, .long x :: st)
  | some (.ref x), 2 => some (loc, .ref x :: st)
  | some (.float x), 2 => some (loc, .float x :: st)
  | _, _ => none
def g_stores (nL : Nat) (loc : List (Nat × Value)) (i : Nat) (st : List Value) (a : Nat) : Option (List (Nat × Value) × List Value) := match st, a with
  | .int x :: r, 0 => if i < nL then some (g_st1 loc i (.int x), r) else none
  | .long x :: r, 1 => if i + 1 < nL then some (g_st2 loc i (.long x), r) else none
  | .ref x :: r, 2 => if i < nL then some (g_st1 loc i (.ref x), r) else none
  | .float x :: r, 2 => if i < nL then some (g_st1 loc i (.float x), r) else none
  | _, _ => none
def g_loc (nL : Nat) (I : Instr) (loc : List (Nat × Value)) (st : List Value) : Option (List (Nat × Value) × List Value) := match I with
  | .iload i => g_loads loc i st 0
  | .iload_n i => g_loads loc i st 0
  | .lload i => g_loads loc i st 1
  | .lload_n i => g_loads loc i st 1
  | .aload i => g_loads loc i st 2
  | .aload_n i => g_loads loc i st 2
  | .istore i => g_stores nL loc i st 0
  | .istore_n i => g_stores nL loc i st 0
  | .lstore i => g_stores nL loc i st 1
  | .lstore_n i => g_stores nL loc i st 1
  | .astore i => g_stores nL loc i st 2
  | .astore_n i => g_stores nL loc i st 2
  | .iinc i n => match g_ld loc i with
    | some (.int x) => if i < nL then some (g_st1 loc i (.int (x + Int32.ofInt n)), st) else none
    | _ => none
  | _ => none
theorem g_ld_mem {loc : List (Nat × Value)} {i : Nat} {v : Value} (h : g_ld loc i = some v) : (i, v) ∈ loc := by
  unfold g_ld at h
  cases hf : loc.find? (fun q => q.1 == i) with
  | none => rw [hf] at h; cases h
  | some q =>
    rw [hf] at h
    cases h
    have h1 := List.find?_some hf
    have h2 := List.mem_of_find?_eq_some hf
    have h3 : q.1 = i := by simpa using h1
    rw [← h3]
    exact h2
theorem g_shl_mem {ad cst : Nat → Nat} {loc : List (Nat × Value)} {i : Nat} {v : Value} (h : (i, v) ∈ loc) : (i, g_sh ad cst v) ∈ g_shl ad cst loc := List.mem_map.mpr ⟨(i, v), h, rfl⟩
theorem g_ins_mem {i : Nat} {v : Value} : ∀ {l : List (Nat × Value)} {q : Nat × Value}, q ∈ g_ins i v l → q = (i, v) ∨ q ∈ l
  | [], q, h => Or.inl (List.mem_singleton.mp h)
  | a :: l, q, h => by
    unfold g_ins at h
    split at h
    · rcases List.mem_cons.mp h with h | h
      · exact Or.inl h
      · exact Or.inr h
    · rcases List.mem_cons.mp h with h | h
      · exact Or.inr (List.mem_cons.mpr (Or.inl h))
      · rcases g_ins_mem h with h | h
        · exact Or.inl h
        · exact Or.inr (List.mem_cons.mpr (Or.inr h))
theorem g_has_st1 {ad cst : Nat → Nat} {ls : Array Slot} {nL : Nat} {loc : List (Nat × Value)} {i : Nat} {v : Value} (h : lv_has ls nL ((i, g_sh ad cst v) :: (g_shl ad cst loc).filter (fun q => !(q.1 == i) && !(q.1 + 1 == i && q.2.category == 2)))) : lv_has ls nL (g_shl ad cst (g_st1 loc i v)) := by
  refine ⟨h.1, h.2.1, fun q hq => h.2.2 q ?_⟩
  obtain ⟨q0, h0, rfl⟩ := List.mem_map.mp hq
  rcases g_ins_mem h0 with rfl | h1
  · exact List.mem_cons_self
  · obtain ⟨h2, h3⟩ := List.mem_filter.mp h1
    refine List.mem_cons_of_mem _ (List.mem_filter.mpr ⟨List.mem_map.mpr ⟨q0, h2, rfl⟩, ?_⟩)
    simpa only [g_sh_cat] using h3
theorem g_has_st2 {ad cst : Nat → Nat} {ls : Array Slot} {nL : Nat} {loc : List (Nat × Value)} {i : Nat} {v : Value} (h : lv_has ls nL ((i, g_sh ad cst v) :: (g_shl ad cst loc).filter (fun q => !(q.1 == i) && (!(q.1 == i + 1) && !(q.1 + 1 == i && q.2.category == 2))))) : lv_has ls nL (g_shl ad cst (g_st2 loc i v)) := by
  refine ⟨h.1, h.2.1, fun q hq => h.2.2 q ?_⟩
  obtain ⟨q0, h0, rfl⟩ := List.mem_map.mp hq
  rcases g_ins_mem h0 with rfl | h1
  · exact List.mem_cons_self
  · obtain ⟨h2, h3⟩ := List.mem_filter.mp h1
    refine List.mem_cons_of_mem _ (List.mem_filter.mpr ⟨List.mem_map.mpr ⟨q0, h2, rfl⟩, ?_⟩)
    simpa only [g_sh_cat] using h3
section GL
variable {p : Program} {l : Launch} {e : Env} {R : Room} {s : State} {m : MethodId} {args : Array Value} {below : List Frame} {meth : Method} {c : Code} {H : Heap} {locs : List Loc} {cells slots : Nat} {Q : State → Prop}
variable {cc : ByteArray} {pc : Nat} {ls : Array Slot} {ad cst : Nat → Nat}
theorem g_loads_at {nL : Nat} {loc loc' : List (Nat × Value)} {st st' : List Value} {i a : Nat} (hl : lv_has ls nL (g_shl ad cst loc)) (h : g_loads loc i st a = some (loc', st')) :
    loc' = loc ∧ ((a = 0 ∧ ∃ x, ls[i]? = some (.val (.int x)) ∧ st'.map (g_sh ad cst) = .int x :: st.map (g_sh ad cst)) ∨ (a = 1 ∧ ∃ x, ls[i]? = some (.val (.long x)) ∧ st'.map (g_sh ad cst) = .long x :: st.map (g_sh ad cst)) ∨ (a = 2 ∧ ∃ x, ls[i]? = some (.val (.ref x)) ∧ st'.map (g_sh ad cst) = .ref x :: st.map (g_sh ad cst))) := by
  unfold g_loads at h
  split at h
  next x hg => cases h; exact ⟨rfl, Or.inl ⟨rfl, x, hl.2.2 _ (g_shl_mem (g_ld_mem hg)), rfl⟩⟩
  next x hg => cases h; exact ⟨rfl, Or.inr (Or.inl ⟨rfl, x, hl.2.2 _ (g_shl_mem (g_ld_mem hg)), rfl⟩)⟩
  next x hg => cases h; exact ⟨rfl, Or.inr (Or.inr ⟨rfl, ad x, hl.2.2 _ (g_shl_mem (g_ld_mem hg)), rfl⟩)⟩
  next x hg => cases h; exact ⟨rfl, Or.inr (Or.inr ⟨rfl, cst x.toNat, hl.2.2 _ (g_shl_mem (g_ld_mem hg)), rfl⟩)⟩
  next => cases h
set_option maxHeartbeats 4000000 in
theorem g_loc_ok (hx : p.tables.exec = Jvm.exec) (hb : c.code = cc) {I : Instr} {nL len : Nat} {loc loc' : List (Nat × Value)} {st st' : List Value} (h : g_loc nL I loc st = some (loc', st')) (hd : decode cc pc = .ok (I, len)) (hn : len = g_len I) (hl : lv_has ls nL (g_shl ad cst loc))
    (k : ∀ ls' : Array Slot, lv_has ls' nL (g_shl ad cst loc') → W p l e R s m args below meth c H locs cells slots Q (F0 m (pc + g_len I) ls' (st'.map (g_sh ad cst)))) : W p l e R s m args below meth c H locs cells slots Q (F0 m pc ls (st.map (g_sh ad cst))) := by
  subst hn
  unfold g_loc at h
  split at h
  · obtain ⟨rfl, ⟨-, x, h1, h2⟩ | ⟨h0, -⟩ | ⟨h0, -⟩⟩ := g_loads_at hl h
    · exact lv_iload hx hb hd h1 (by rw [← h2]; exact k ls hl)
    · cases h0
    · cases h0
  · obtain ⟨rfl, ⟨-, x, h1, h2⟩ | ⟨h0, -⟩ | ⟨h0, -⟩⟩ := g_loads_at hl h
    · exact lv_iload_n hx hb hd rfl h1 (by rw [← h2]; exact k ls hl)
    · cases h0
    · cases h0
  · obtain ⟨rfl, ⟨h0, -⟩ | ⟨-, x, h1, h2⟩ | ⟨h0, -⟩⟩ := g_loads_at hl h
    · cases h0
    · exact lv_lload hx hb hd h1 (by rw [← h2]; exact k ls hl)
    · cases h0
  · obtain ⟨rfl, ⟨h0, -⟩ | ⟨-, x, h1, h2⟩ | ⟨h0, -⟩⟩ := g_loads_at hl h
    · cases h0
    · exact lv_lload_n hx hb hd rfl h1 (by rw [← h2]; exact k ls hl)
    · cases h0
  · obtain ⟨rfl, ⟨h0, -⟩ | ⟨h0, -⟩ | ⟨-, x, h1, h2⟩⟩ := g_loads_at hl h
    · cases h0
    · cases h0
    · exact lv_aload hx hb hd h1 (by rw [← h2]; exact k ls hl)
  · obtain ⟨rfl, ⟨h0, -⟩ | ⟨h0, -⟩ | ⟨-, x, h1, h2⟩⟩ := g_loads_at hl h
    · cases h0
    · cases h0
    · exact lv_aload_n hx hb hd rfl h1 (by rw [← h2]; exact k ls hl)
  · unfold g_stores at h
    split at h
    · split at h
      next hi => cases h; exact lv_istore hx hb hd hl hi rfl (fun ls' h' => k ls' (g_has_st1 (v := .int _) h'))
      · cases h
    next e0 => cases e0
    next e0 => cases e0
    next e0 => cases e0
    · cases h
  · unfold g_stores at h
    split at h
    · split at h
      next hi => cases h; exact lv_istore_n hx hb hd rfl hl hi rfl (fun ls' h' => k ls' (g_has_st1 (v := .int _) h'))
      · cases h
    next e0 => cases e0
    next e0 => cases e0
    next e0 => cases e0
    · cases h
  · unfold g_stores at h
    split at h
    next e0 => cases e0
    · split at h
      next hi => cases h; exact lv_lstore hx hb hd hl hi rfl (fun ls' h' => k ls' (g_has_st2 (v := .long _) h'))
      · cases h
    next e0 => cases e0
    next e0 => cases e0
    · cases h
  · unfold g_stores at h
    split at h
    next e0 => cases e0
    · split at h
      next hi => cases h; exact lv_lstore_n hx hb hd rfl hl hi rfl (fun ls' h' => k ls' (g_has_st2 (v := .long _) h'))
      · cases h
    next e0 => cases e0
    next e0 => cases e0
    · cases h
  · unfold g_stores at h
    split at h
    next e0 => cases e0
    next e0 => cases e0
    · split at h
      next hi => cases h; exact lv_astore hx hb hd hl hi rfl (fun ls' h' => k ls' (g_has_st1 (v := .ref _) h'))
      · cases h
    · split at h
      next hi => cases h; exact lv_astore hx hb hd hl hi rfl (fun ls' h' => k ls' (g_has_st1 (v := .float _) h'))
      · cases h
    · cases h
  · unfold g_stores at h
    split at h
    next e0 => cases e0
    next e0 => cases e0
    · split at h
      next hi => cases h; exact lv_astore_n hx hb hd rfl hl hi rfl (fun ls' h' => k ls' (g_has_st1 (v := .ref _) h'))
      · cases h
    · split at h
      next hi => cases h; exact lv_astore_n hx hb hd rfl hl hi rfl (fun ls' h' => k ls' (g_has_st1 (v := .float _) h'))
      · cases h
    · cases h
  · split at h
    next x hg =>
      split at h
      next hi =>
        cases h
        obtain ⟨j, hj⟩ := List.getElem?_of_mem (g_shl_mem (ad := ad) (cst := cst) (g_ld_mem hg))
        exact lv_iinc hx hb hd hl (k := j) hj rfl hi rfl (fun ls' h' => k ls' (g_has_st1 (v := .int _) h'))
      · cases h
    · cases h
  · cases h
end GL
