section
/-! THE LOGICAL MACHINE: an interpreter over a heap whose cells have numbers of their own (region * 1024 + place), with no JVM in it. What it answers, the machine does: g_sim below. -/
/-- a logical cell: an array (the number of its type in tys, its length and contents), or an object (the number of its class, its fields) -/
abbrev gE : Type := (Nat × vp_A) ⊕ (Nat × List Value)
/-- a logical heap: how many cells and how many slots were made, the regions' cells -/
abbrev gH : Type := (Nat × Nat) × (Nat → List gE)
def g_get (h : gH) (k : Nat) : Option gE := (h.2 (k / 1024))[k % 1024]?
def g_set (h : gH) (k : Nat) (e : gE) : gH := (h.1, va_up h.2 (k / 1024) ((h.2 (k / 1024)).set (k % 1024) e))
/-- a new cell comes at the number that lg gives to the next one, if that is the next place of its region -/
def g_push (lg : Nat → Nat) (h : gH) (n : Nat) (e : gE) : Option (Nat × gH) :=
  if (h.2 (lg h.1.1 / 1024)).length = lg h.1.1 % 1024 then some (lg h.1.1, ((h.1.1 + 1, h.1.2 + n), va_up h.2 (lg h.1.1 / 1024) (h.2 (lg h.1.1 / 1024) ++ [e]))) else none
/-- the machine's value of a logical one: a float stands for a cell that was there before (the script, a text) -/
def g_sh (ad : Nat → Nat) (cst : Nat → Nat) : Value → Value
  | .ref k => .ref (ad k)
  | .float j => .ref (cst j.toNat)
  | v => v
def g_shl (ad cst : Nat → Nat) (loc : List (Nat × Value)) : List (Nat × Value) := loc.map fun q => (q.1, g_sh ad cst q.2)
def g_shd (ad : Nat → Nat) (a : vp_A) : vp_A := match a with
  | (n, .inr (.inr (.inr (.inr f)))) => (n, .inr (.inr (.inr (.inr fun i => (f i).map ad))))
  | a => a
def g_pe (ad cst : Nat → Nat) (tys : List (ClassId × FieldType)) : gE → va_E
  | .inl (t, a) => .inl ((tys.getD t (0, .int)).1, g_shd ad a)
  | .inr (ci, fs) => .inr (ci, fs.map (g_sh ad cst))
/-- the machine's heap holds the logical one: all that came since h0, and nothing else has changed -/
def g_HH (D : va_G) (cl : List vw_C) (tys : List (ClassId × FieldType)) (fl lg cst : Nat → Nat) (H0 : Heap) (h : gH) (H : Heap) : Prop :=
  H.size = H0.size + h.1.1 ∧ (∀ q, q < H0.size → H[q]? = H0[q]?) ∧ ∀ (k : Nat) (e : gE), g_get h k = some e → fl k < h.1.1 ∧ lg (fl k) = k ∧ va_at D cl (H0.size + fl k, g_pe (fun j => H0.size + fl j) cst tys e) H
theorem g_sh_cat (ad cst : Nat → Nat) (v : Value) : (g_sh ad cst v).category = v.category := by cases v <;> rfl
theorem g_get_set_same {h : gH} {k : Nat} {e0 e : gE} (hk : g_get h k = some e0) : g_get (g_set h k e) k = some e := by
  unfold g_get g_set at *
  simp only [va_up, if_true]
  exact List.getElem?_set_self (List.getElem?_eq_some_iff.mp hk).1
theorem g_get_set_ne {h : gH} {k j : Nat} {e : gE} (hj : j ≠ k) : g_get (g_set h k e) j = g_get h j := by
  unfold g_get g_set
  simp only [va_up]
  by_cases h1 : j / 1024 = k / 1024
  · rw [if_pos h1, h1]
    exact List.getElem?_set_ne (fun h2 => hj (by omega))
  · rw [if_neg h1]
section GH
variable {D : va_G} {cl : List vw_C} {tys : List (ClassId × FieldType)} {fl lg cst : Nat → Nat} {H0 : Heap}
theorem g_HH.at {h : gH} {H : Heap} {k : Nat} {e : gE} (hh : g_HH D cl tys fl lg cst H0 h H) (hk : g_get h k = some e) : va_P D cl [(H0.size + fl k, g_pe (fun j => H0.size + fl j) cst tys e)] H := by
  intro i q hq
  have hz : i < 1 := (List.getElem?_eq_some_iff.mp hq).1
  have h0 : i = 0 := by omega
  subst h0
  cases hq
  exact (hh.2.2 k e hk).2.2
theorem g_HH.put {h : gH} {H H1 : Heap} {k : Nat} {e0 e : gE} (hh : g_HH D cl tys fl lg cst H0 h H) (hk : g_get h k = some e0) (z : H1.size = H.size) (oq : ∀ q, q ≠ H0.size + fl k → H1[q]? = H[q]?)
    (he : va_at D cl (H0.size + fl k, g_pe (fun j => H0.size + fl j) cst tys e) H1) : g_HH D cl tys fl lg cst H0 (g_set h k e) H1 := by
  obtain ⟨a1, a2, a3⟩ := hh
  obtain ⟨b1, b2, -⟩ := a3 k e0 hk
  refine ⟨by rw [z]; exact a1, fun q hq => by rw [oq q (by omega)]; exact a2 q hq, fun j x hj => ?_⟩
  by_cases hjk : j = k
  · subst hjk
    rw [g_get_set_same hk] at hj
    cases hj
    exact ⟨b1, b2, he⟩
  · rw [g_get_set_ne hjk] at hj
    obtain ⟨c1, c2, c3⟩ := a3 j x hj
    refine ⟨c1, c2, c3.kept (oq _ (fun h => hjk ?_))⟩
    have h2 : fl j = fl k := by
      have : H0.size + fl j = H0.size + fl k := h
      omega
    rw [← c2, ← b2, h2]
theorem g_HH.push {h h' : gH} {H H1 : Heap} {k n : Nat} {e : gE} (hfl : ∀ i, fl (lg i) = i) (hh : g_HH D cl tys fl lg cst H0 h H) (hp : g_push lg h n e = some (k, h')) (z : H1.size = H.size + 1) (oq : ∀ q, q < H.size → H1[q]? = H[q]?)
    (he : va_at D cl (H.size, g_pe (fun j => H0.size + fl j) cst tys e) H1) : H0.size + fl k = H.size ∧ h'.1 = (h.1.1 + 1, h.1.2 + n) ∧ g_HH D cl tys fl lg cst H0 h' H1 := by
  obtain ⟨a1, a2, a3⟩ := hh
  unfold g_push at hp
  split at hp
  next hlen =>
    cases hp
    have hk : H0.size + fl (lg h.1.1) = H.size := by rw [hfl]; exact a1.symm
    refine ⟨hk, rfl, by show H1.size = H0.size + (h.1.1 + 1); omega, fun q hq => by rw [oq q (by omega)]; exact a2 q hq, fun j x hj => ?_⟩
    unfold g_get at hj
    simp only [va_up] at hj
    have old : ∀ {j : Nat} {x : gE}, g_get h j = some x → fl j < h.1.1 + 1 ∧ lg (fl j) = j ∧ va_at D cl (H0.size + fl j, g_pe (fun j => H0.size + fl j) cst tys x) H1 := by
      intro j x hj
      obtain ⟨c1, c2, c3⟩ := a3 j x hj
      exact ⟨by omega, c2, c3.kept (oq _ (by show H0.size + fl j < H.size; omega))⟩
    by_cases h1 : j / 1024 = lg h.1.1 / 1024
    · rw [if_pos h1] at hj
      by_cases h2 : j % 1024 < (h.2 (lg h.1.1 / 1024)).length
      · rw [List.getElem?_append_left h2] at hj
        exact old (show g_get h j = some x by unfold g_get; rw [h1]; exact hj)
      · rw [List.getElem?_append_right (by omega)] at hj
        have h3 := (List.getElem?_eq_some_iff.mp hj).1
        have h4 : j = lg h.1.1 := by
          have : j % 1024 - (h.2 (lg h.1.1 / 1024)).length < 1 := h3
          omega
        rw [show j % 1024 - (h.2 (lg h.1.1 / 1024)).length = 0 by have : j % 1024 - (h.2 (lg h.1.1 / 1024)).length < 1 := h3; omega] at hj
        cases hj
        subst h4
        rw [hfl]
        refine ⟨Nat.lt_succ_self _, rfl, ?_⟩
        rw [← a1]
        exact he
    · rw [if_neg h1] at hj
      exact old hj
  next => cases hp
end GH
end
section
/-! instructions of the stack alone -/
/-- how long an instruction is (0: a switch) -/
def g_len : Instr → Nat
  | .bipush _ => 2 | .sipush _ => 3 | .iload _ => 2 | .lload _ => 2 | .aload _ => 2 | .istore _ => 2 | .lstore _ => 2 | .astore _ => 2 | .iinc _ _ => 3
  | .ldc _ => 2 | .ldc_w _ => 3 | .ldc2_w _ => 3 | .getfield _ => 3 | .putfield _ => 3 | .new _ => 3 | .newarray _ => 2 | .anewarray _ => 3
  | .getstatic _ => 3 | .invokevirtual _ => 3 | .invokespecial _ => 3 | .invokestatic _ => 3 | .goto _ => 3 | .ifCond _ _ => 3 | .if_icmp _ _ => 3 | .tableswitch _ _ _ _ => 0
  | _ => 1
def g_pure (I : Instr) (st : List Value) : Option (List Value) := match I with
  | .iconst n => some (.int (Int32.ofInt n) :: st)
  | .bipush n => some (.int (Int8.ofInt n).toInt32 :: st)
  | .sipush n => some (.int (Int16.ofInt n).toInt32 :: st)
  | .lconst n => some (.long (Int64.ofNat n) :: st)
  | .iadd => match st with | .int y :: .int x :: r => some (.int (x + y) :: r) | _ => none
  | .isub => match st with | .int y :: .int x :: r => some (.int (x - y) :: r) | _ => none
  | .imul => match st with | .int y :: .int x :: r => some (.int (x * y) :: r) | _ => none
  | .idiv => match st with | .int y :: .int x :: r => if y = 0 then none else some (.int (x / y) :: r) | _ => none
  | .irem => match st with | .int y :: .int x :: r => if y = 0 then none else some (.int (x - x / y * y) :: r) | _ => none
  | .ineg => match st with | .int x :: r => some (.int (-x) :: r) | _ => none
  | .iand => match st with | .int y :: .int x :: r => some (.int (x &&& y) :: r) | _ => none
  | .ior => match st with | .int y :: .int x :: r => some (.int (x ||| y) :: r) | _ => none
  | .ixor => match st with | .int y :: .int x :: r => some (.int (x ^^^ y) :: r) | _ => none
  | .ishl => match st with | .int y :: .int x :: r => some (.int (x <<< (y &&& 31)) :: r) | _ => none
  | .ishr => match st with | .int y :: .int x :: r => some (.int (x >>> (y &&& 31)) :: r) | _ => none
  | .iushr => match st with | .int y :: .int x :: r => some (.int (x.toUInt32 >>> (y.toUInt32 &&& Int32.toUInt32 31)).toInt32 :: r) | _ => none
  | .ladd => match st with | .long y :: .long x :: r => some (.long (x + y) :: r) | _ => none
  | .lsub => match st with | .long y :: .long x :: r => some (.long (x - y) :: r) | _ => none
  | .lmul => match st with | .long y :: .long x :: r => some (.long (x * y) :: r) | _ => none
  | .land => match st with | .long y :: .long x :: r => some (.long (x &&& y) :: r) | _ => none
  | .lor => match st with | .long y :: .long x :: r => some (.long (x ||| y) :: r) | _ => none
  | .lxor => match st with | .long y :: .long x :: r => some (.long (x ^^^ y) :: r) | _ => none
  | .lshl => match st with | .int y :: .long x :: r => some (.long (x <<< (y.toInt64 &&& 63)) :: r) | _ => none
  | .lushr => match st with | .int y :: .long x :: r => some (.long (x.toUInt64 >>> (y.toInt64.toUInt64 &&& Int64.toUInt64 63)).toInt64 :: r) | _ => none
  | .lcmp => match st with | .long y :: .long x :: r => some (.int (lg_cmp x y) :: r) | _ => none
  | .i2l => match st with | .int x :: r => some (.long x.toInt64 :: r) | _ => none
  | .l2i => match st with | .long x :: r => some (.int x.toInt32 :: r) | _ => none
  | .i2b => match st with | .int x :: r => some (.int x.toInt8.toInt32 :: r) | _ => none
  | .i2c => match st with | .int x :: r => some (.int (x.toUInt32 % 65536).toInt32 :: r) | _ => none
  | .dup => match st with | v :: r => if v.category = 1 then some (v :: v :: r) else none | _ => none
  | .dup2 => match st with | a :: b :: r => if a.category = 1 ∧ b.category = 1 then some (a :: b :: a :: b :: r) else none | _ => none
  | .pop => match st with | v :: r => if v.category = 1 then some r else none | _ => none
  | _ => none
section GP
variable {p : Program} {l : Launch} {e : Env} {R : Room} {s : State} {m : MethodId} {args : Array Value} {below : List Frame} {meth : Method} {c : Code} {H : Heap} {locs : List Loc} {cells slots : Nat} {Q : State → Prop}
variable {cc : ByteArray} {pc : Nat} {ls : Array Slot} {ad cst : Nat → Nat}
set_option maxHeartbeats 4000000 in
theorem g_pure_ok (hx : p.tables.exec = Jvm.exec) (hb : c.code = cc) {I : Instr} {st st' : List Value} {len : Nat} (h : g_pure I st = some st') (hd : decode cc pc = .ok (I, len)) (hl : len = g_len I)
    (k : W p l e R s m args below meth c H locs cells slots Q (F0 m (pc + g_len I) ls (st'.map (g_sh ad cst)))) : W p l e R s m args below meth c H locs cells slots Q (F0 m pc ls (st.map (g_sh ad cst))) := by
  subst hl
  unfold g_pure at h
  split at h
  · cases h; exact lv_iconst hx hb hd rfl k
  · cases h; exact lv_bipush hx hb hd rfl k
  · cases h; exact lv_sipush hx hb hd rfl k
  · cases h; exact lv_lconst hx hb hd rfl k
  · split at h
    · cases h; exact lv_iadd hx hb hd k
    · cases h
  · split at h
    · cases h; exact lv_isub hx hb hd k
    · cases h
  · split at h
    · cases h; exact lv_imul hx hb hd k
    · cases h
  · split at h
    · split at h
      · cases h
      next hne => cases h; exact lv_idiv hx hb hd hne k
    · cases h
  · split at h
    · split at h
      · cases h
      next hne => cases h; exact lv_irem hx hb hd hne k
    · cases h
  · split at h
    · cases h; exact lv_ineg hx hb hd k
    · cases h
  · split at h
    · cases h; exact lv_iand hx hb hd k
    · cases h
  · split at h
    · cases h; exact lv_ior hx hb hd k
    · cases h
  · split at h
    · cases h; exact lv_ixor hx hb hd k
    · cases h
  · split at h
    · cases h; exact lv_ishl hx hb hd k
    · cases h
  · split at h
    · cases h; exact lv_ishr hx hb hd k
    · cases h
  · split at h
    · cases h; exact lv_iushr hx hb hd rfl k
    · cases h
  · split at h
    · cases h; exact lv_ladd hx hb hd k
    · cases h
  · split at h
    · cases h; exact lv_lsub hx hb hd k
    · cases h
  · split at h
    · cases h; exact lv_lmul hx hb hd k
    · cases h
  · split at h
    · cases h; exact lv_land hx hb hd k
    · cases h
  · split at h
    · cases h; exact lv_lor hx hb hd k
    · cases h
  · split at h
    · cases h; exact lv_lxor hx hb hd k
    · cases h
  · split at h
    · cases h; exact lv_lshl hx hb hd rfl k
    · cases h
  · split at h
    · cases h; exact lv_lushr hx hb hd rfl k
    · cases h
  · split at h
    · cases h; exact W.lcmp hx hb hd k
    · cases h
  · split at h
    · cases h; exact lv_i2l hx hb hd rfl k
    · cases h
  · split at h
    · cases h; exact lv_l2i hx hb hd rfl k
    · cases h
  · split at h
    · cases h; exact lv_i2b hx hb hd rfl k
    · cases h
  · split at h
    · cases h; exact lv_i2c hx hb hd rfl k
    · cases h
  · split at h
    · split at h
      next hc => cases h; exact lv_dup hx hb hd ((g_sh_cat ad cst _).trans hc) k
      · cases h
    · cases h
  · split at h
    · split at h
      next hc => cases h; exact lv_dup2_11 hx hb hd ((g_sh_cat ad cst _).trans hc.1) ((g_sh_cat ad cst _).trans hc.2) k
      · cases h
    · cases h
  · split at h
    · split at h
      next hc => cases h; exact lv_pop hx hb hd ((g_sh_cat ad cst _).trans hc) k
      · cases h
    · cases h
  · cases h
end GP
end
section
/-! instructions of the locals; branches -/
def g_ld (loc : List (Nat × Value)) (i : Nat) : Option Value := (loc.find? fun q => q.1 == i).map fun q => q.2
def g_st1 (loc : List (Nat × Value)) (i : Nat) (v : Value) : List (Nat × Value) := (i, v) :: loc.filter fun q => !(q.1 == i) && !(q.1 + 1 == i && q.2.category == 2)
def g_st2 (loc : List (Nat × Value)) (i : Nat) (v : Value) : List (Nat × Value) := (i, v) :: loc.filter fun q => !(q.1 == i) && (!(q.1 == i + 1) && !(q.1 + 1 == i && q.2.category == 2))
def g_loads (loc : List (Nat × Value)) (i : Nat) (st : List Value) (a : Nat) : Option (List (Nat × Value) × List Value) := match g_ld loc i, a with
  | some (.int x), 0 => some (loc, .int x :: st)
  | some (.long x), 1 => some (loc, .long x :: st)
  | some (.ref x), 2 => some (loc, .ref x :: st)
  | some (.float x), 2 => some (loc, .float x :: st)
  | _, _ => none
def g_stores (nL : Nat) (loc : List (Nat × Value)) (i : Nat) (st : List Value) (a : Nat) : Option (List (Nat × Value) × List Value) := match st, a with
  | .int x :: r, 0 => if i < nL then some (g_st1 loc i (.int x), r) else none
  | .long x :: r, 1 => if i + 1 < nL then some (g_st2 loc i (.long x), r) else none
  | .ref x :: r, 2 => if i < nL then some (g_st1 loc i (.ref x), r) else none
  | .float x :: r, 2 => if i < nL then some (g_st1 loc i (.float x), r) else none
  | _, _ => none
def g_loc (nL : Nat) (I : Instr) (loc : List (Nat × Value)) (st : List Value) : Option (List (Nat × Value) × List Value) := match I with
  | .iload i => g_loads loc i st 0
  | .iload_n i => g_loads loc i st 0
  | .lload i => g_loads loc i st 1
  | .lload_n i => g_loads loc i st 1
  | .aload i => g_loads loc i st 2
  | .aload_n i => g_loads loc i st 2
  | .istore i => g_stores nL loc i st 0
  | .istore_n i => g_stores nL loc i st 0
  | .lstore i => g_stores nL loc i st 1
  | .lstore_n i => g_stores nL loc i st 1
  | .astore i => g_stores nL loc i st 2
  | .astore_n i => g_stores nL loc i st 2
  | .iinc i n => match g_ld loc i with
    | some (.int x) => if i < nL then some (g_st1 loc i (.int (x + Int32.ofInt n)), st) else none
    | _ => none
  | _ => none
theorem g_ld_mem {loc : List (Nat × Value)} {i : Nat} {v : Value} (h : g_ld loc i = some v) : (i, v) ∈ loc := by
  unfold g_ld at h
  cases hf : loc.find? (fun q => q.1 == i) with
  | none => rw [hf] at h; cases h
  | some q =>
    rw [hf] at h
    cases h
    have h1 := List.find?_some hf
    have h2 := List.mem_of_find?_eq_some hf
    have h3 : q.1 = i := by simpa using h1
    rw [← h3]
    exact h2
theorem g_shl_mem {ad cst : Nat → Nat} {loc : List (Nat × Value)} {i : Nat} {v : Value} (h : (i, v) ∈ loc) : (i, g_sh ad cst v) ∈ g_shl ad cst loc := List.mem_map.mpr ⟨(i, v), h, rfl⟩
theorem g_shl_st1 {ad cst : Nat → Nat} (loc : List (Nat × Value)) (i : Nat) (v : Value) : (i, g_sh ad cst v) :: (g_shl ad cst loc).filter (fun q => !(q.1 == i) && !(q.1 + 1 == i && q.2.category == 2)) = g_shl ad cst (g_st1 loc i v) := by
  unfold g_shl g_st1
  rw [List.filter_map, List.map_cons]
  congr 2
  apply List.filter_congr
  intro q _
  simp only [Function.comp, g_sh_cat]
theorem g_shl_st2 {ad cst : Nat → Nat} (loc : List (Nat × Value)) (i : Nat) (v : Value) : (i, g_sh ad cst v) :: (g_shl ad cst loc).filter (fun q => !(q.1 == i) && (!(q.1 == i + 1) && !(q.1 + 1 == i && q.2.category == 2))) = g_shl ad cst (g_st2 loc i v) := by
  unfold g_shl g_st2
  rw [List.filter_map, List.map_cons]
  congr 2
  apply List.filter_congr
  intro q _
  simp only [Function.comp, g_sh_cat]
section GL
variable {p : Program} {l : Launch} {e : Env} {R : Room} {s : State} {m : MethodId} {args : Array Value} {below : List Frame} {meth : Method} {c : Code} {H : Heap} {locs : List Loc} {cells slots : Nat} {Q : State → Prop}
variable {cc : ByteArray} {pc : Nat} {ls : Array Slot} {ad cst : Nat → Nat}
theorem g_loads_at {nL : Nat} {loc loc' : List (Nat × Value)} {st st' : List Value} {i a : Nat} (hl : lv_has ls nL (g_shl ad cst loc)) (h : g_loads loc i st a = some (loc', st')) :
    loc' = loc ∧ ((a = 0 ∧ ∃ x, ls[i]? = some (.val (.int x)) ∧ st'.map (g_sh ad cst) = .int x :: st.map (g_sh ad cst)) ∨ (a = 1 ∧ ∃ x, ls[i]? = some (.val (.long x)) ∧ st'.map (g_sh ad cst) = .long x :: st.map (g_sh ad cst)) ∨ (a = 2 ∧ ∃ x, ls[i]? = some (.val (.ref x)) ∧ st'.map (g_sh ad cst) = .ref x :: st.map (g_sh ad cst))) := by
  unfold g_loads at h
  split at h
  next x hg => cases h; exact ⟨rfl, Or.inl ⟨rfl, x, hl.2.2 _ (g_shl_mem (g_ld_mem hg)), rfl⟩⟩
  next x hg => cases h; exact ⟨rfl, Or.inr (Or.inl ⟨rfl, x, hl.2.2 _ (g_shl_mem (g_ld_mem hg)), rfl⟩)⟩
  next x hg => cases h; exact ⟨rfl, Or.inr (Or.inr ⟨rfl, ad x, hl.2.2 _ (g_shl_mem (g_ld_mem hg)), rfl⟩)⟩
  next x hg => cases h; exact ⟨rfl, Or.inr (Or.inr ⟨rfl, cst x.toNat, hl.2.2 _ (g_shl_mem (g_ld_mem hg)), rfl⟩)⟩
  next => cases h
set_option maxHeartbeats 4000000 in
theorem g_loc_ok (hx : p.tables.exec = Jvm.exec) (hb : c.code = cc) {I : Instr} {nL len : Nat} {loc loc' : List (Nat × Value)} {st st' : List Value} (h : g_loc nL I loc st = some (loc', st')) (hd : decode cc pc = .ok (I, len)) (hn : len = g_len I) (hl : lv_has ls nL (g_shl ad cst loc))
    (k : ∀ ls' : Array Slot, lv_has ls' nL (g_shl ad cst loc') → W p l e R s m args below meth c H locs cells slots Q (F0 m (pc + g_len I) ls' (st'.map (g_sh ad cst)))) : W p l e R s m args below meth c H locs cells slots Q (F0 m pc ls (st.map (g_sh ad cst))) := by
  subst hn
  unfold g_loc at h
  split at h
  · obtain ⟨rfl, ⟨-, x, h1, h2⟩ | ⟨h0, -⟩ | ⟨h0, -⟩⟩ := g_loads_at hl h
    · exact lv_iload hx hb hd h1 (by rw [← h2]; exact k ls hl)
    · cases h0
    · cases h0
  · obtain ⟨rfl, ⟨-, x, h1, h2⟩ | ⟨h0, -⟩ | ⟨h0, -⟩⟩ := g_loads_at hl h
    · exact lv_iload_n hx hb hd rfl h1 (by rw [← h2]; exact k ls hl)
    · cases h0
    · cases h0
  · obtain ⟨rfl, ⟨h0, -⟩ | ⟨-, x, h1, h2⟩ | ⟨h0, -⟩⟩ := g_loads_at hl h
    · cases h0
    · exact lv_lload hx hb hd h1 (by rw [← h2]; exact k ls hl)
    · cases h0
  · obtain ⟨rfl, ⟨h0, -⟩ | ⟨-, x, h1, h2⟩ | ⟨h0, -⟩⟩ := g_loads_at hl h
    · cases h0
    · exact lv_lload_n hx hb hd rfl h1 (by rw [← h2]; exact k ls hl)
    · cases h0
  · obtain ⟨rfl, ⟨h0, -⟩ | ⟨h0, -⟩ | ⟨-, x, h1, h2⟩⟩ := g_loads_at hl h
    · cases h0
    · cases h0
    · exact lv_aload hx hb hd h1 (by rw [← h2]; exact k ls hl)
  · obtain ⟨rfl, ⟨h0, -⟩ | ⟨h0, -⟩ | ⟨-, x, h1, h2⟩⟩ := g_loads_at hl h
    · cases h0
    · cases h0
    · exact lv_aload_n hx hb hd rfl h1 (by rw [← h2]; exact k ls hl)
  · unfold g_stores at h
    split at h
    · split at h
      next hi => cases h; exact lv_istore hx hb hd hl hi (g_shl_st1 loc _ (.int _)) (fun ls' h' => k ls' h')
      · cases h
    next e0 => cases e0
    next e0 => cases e0
    next e0 => cases e0
    · cases h
  · unfold g_stores at h
    split at h
    · split at h
      next hi => cases h; exact lv_istore_n hx hb hd rfl hl hi (g_shl_st1 loc _ (.int _)) (fun ls' h' => k ls' h')
      · cases h
    next e0 => cases e0
    next e0 => cases e0
    next e0 => cases e0
    · cases h
  · unfold g_stores at h
    split at h
    next e0 => cases e0
    · split at h
      next hi => cases h; exact lv_lstore hx hb hd hl hi (g_shl_st2 loc _ (.long _)) (fun ls' h' => k ls' h')
      · cases h
    next e0 => cases e0
    next e0 => cases e0
    · cases h
  · unfold g_stores at h
    split at h
    next e0 => cases e0
    · split at h
      next hi => cases h; exact lv_lstore_n hx hb hd rfl hl hi (g_shl_st2 loc _ (.long _)) (fun ls' h' => k ls' h')
      · cases h
    next e0 => cases e0
    next e0 => cases e0
    · cases h
  · unfold g_stores at h
    split at h
    next e0 => cases e0
    next e0 => cases e0
    · split at h
      next hi => cases h; exact lv_astore hx hb hd hl hi (g_shl_st1 loc _ (.ref _)) (fun ls' h' => k ls' h')
      · cases h
    · split at h
      next hi => cases h; exact lv_astore hx hb hd hl hi (g_shl_st1 loc _ (.float _)) (fun ls' h' => k ls' h')
      · cases h
    · cases h
  · unfold g_stores at h
    split at h
    next e0 => cases e0
    next e0 => cases e0
    · split at h
      next hi => cases h; exact lv_astore_n hx hb hd rfl hl hi (g_shl_st1 loc _ (.ref _)) (fun ls' h' => k ls' h')
      · cases h
    · split at h
      next hi => cases h; exact lv_astore_n hx hb hd rfl hl hi (g_shl_st1 loc _ (.float _)) (fun ls' h' => k ls' h')
      · cases h
    · cases h
  · split at h
    next x hg =>
      split at h
      next hi =>
        cases h
        obtain ⟨j, hj⟩ := List.getElem?_of_mem (g_shl_mem (ad := ad) (cst := cst) (g_ld_mem hg))
        exact lv_iinc hx hb hd hl (k := j) hj rfl hi (g_shl_st1 loc _ (.int _)) (fun ls' h' => k ls' h')
      · cases h
    · cases h
  · cases h
end GL
end
section
/-! branches: r has the places where they go on -/
def g_cnd (cd : Jvm.ClassFile.Cond) (x y : Int32) : Bool := match cd with
  | .eq => decide (x = y) | .ne => decide (¬ x = y) | .lt => decide (x < y) | .ge => decide (y ≤ x) | .gt => decide (y < x) | .le => decide (x ≤ y)
def g_br (I : Instr) (r : List Nat) (pc : Nat) (st : List Value) : Option (Nat × List Value) := match I with
  | .goto _ => match r with | t :: _ => some (t, st) | _ => none
  | .ifCond cd _ => match r, st with | t :: _, .int x :: q => some (if g_cnd cd x 0 then t else pc + 3, q) | _, _ => none
  | .if_icmp cd _ => match r, st with | t :: _, .int y :: .int x :: q => some (if g_cnd cd x y then t else pc + 3, q) | _, _ => none
  | .tableswitch _ lo hi _ => match st with
    | .int x :: q => if x.toInt < lo ∨ hi < x.toInt then (r[0]?).map (fun t => (t, q)) else (r[(x.toInt - lo).toNat + 1]?).map (fun t => (t, q))
    | _ => none
  | _ => none
def g_brok (pc : Nat) (I : Instr) (r : List Nat) : Bool := match I with
  | .goto off => match r with | t :: _ => decide ((pc : Int) + off = (t : Int)) | _ => true
  | .ifCond _ off => match r with | t :: _ => decide ((pc : Int) + off = (t : Int)) | _ => true
  | .if_icmp _ off => match r with | t :: _ => decide ((pc : Int) + off = (t : Int)) | _ => true
  | .tableswitch d _ _ offs => decide (((pc : Int) + d) :: offs.toList.map (fun o => (pc : Int) + o) = r.map (fun t : Nat => (t : Int)))
  | _ => true
section GB
variable {p : Program} {l : Launch} {e : Env} {R : Room} {s : State} {m : MethodId} {args : Array Value} {below : List Frame} {meth : Method} {c : Code} {H : Heap} {locs : List Loc} {cells slots : Nat} {Q : State → Prop}
variable {cc : ByteArray} {pc : Nat} {ls : Array Slot} {ad cst : Nat → Nat}
set_option maxHeartbeats 4000000 in
theorem g_br_ok (hx : p.tables.exec = Jvm.exec) (hb : c.code = cc) {I : Instr} {r : List Nat} {st st' : List Value} {len pc' : Nat} (h : g_br I r pc st = some (pc', st')) (hd : decode cc pc = .ok (I, len)) (hl : g_len I = 0 ∨ len = g_len I) (hr : g_brok pc I r = true)
    (k : W p l e R s m args below meth c H locs cells slots Q (F0 m pc' ls (st'.map (g_sh ad cst)))) : W p l e R s m args below meth c H locs cells slots Q (F0 m pc ls (st.map (g_sh ad cst))) := by
  unfold g_br at h
  split at h
  · have hl : len = 3 := hl.resolve_left (fun h => by cases h)
    subst hl
    split at h
    next t q =>
      cases h
      have h1 : (pc : Int) + _ = (pc' : Int) := of_decide_eq_true hr
      exact lv_goto hx hb hd h1 k
    next => cases h
  next cd off =>
    have hl : len = 3 := hl.resolve_left (fun h => by cases h)
    subst hl
    split at h
    next t q x z =>
      cases h
      have h1 : (pc : Int) + off = (t : Int) := of_decide_eq_true hr
      have key : ∀ {P : Prop} {dP : Decidable P}, g_cnd cd x 0 = @decide P dP → (P → W p l e R s m args below meth c H locs cells slots Q (F0 m t ls (st'.map (g_sh ad cst)))) ∧ (¬ P → W p l e R s m args below meth c H locs cells slots Q (F0 m (pc + 3) ls (st'.map (g_sh ad cst)))) := by
        intro P dP hc
        rw [hc] at k
        exact ⟨fun hp => by simpa [hp] using k, fun hp => by simpa [hp] using k⟩
      cases cd with
      | eq => exact lv_if_eq hx hb hd h1 (key rfl).1 (key rfl).2
      | ne => exact lv_if_ne hx hb hd h1 (key rfl).1 (fun h => (key rfl).2 (fun q => q h))
      | lt => exact lv_if_lt hx hb hd h1 (key rfl).1 (key rfl).2
      | ge => exact lv_if_ge hx hb hd h1 (key rfl).1 (key rfl).2
      | gt => exact lv_if_gt hx hb hd h1 (key rfl).1 (key rfl).2
      | le => exact lv_if_le hx hb hd h1 (key rfl).1 (key rfl).2
    next => cases h
  next cd off =>
    have hl : len = 3 := hl.resolve_left (fun h => by cases h)
    subst hl
    split at h
    next t q y x z =>
      cases h
      have h1 : (pc : Int) + off = (t : Int) := of_decide_eq_true hr
      have key : ∀ {P : Prop} {dP : Decidable P}, g_cnd cd x y = @decide P dP → (P → W p l e R s m args below meth c H locs cells slots Q (F0 m t ls (st'.map (g_sh ad cst)))) ∧ (¬ P → W p l e R s m args below meth c H locs cells slots Q (F0 m (pc + 3) ls (st'.map (g_sh ad cst)))) := by
        intro P dP hc
        rw [hc] at k
        exact ⟨fun hp => by simpa [hp] using k, fun hp => by simpa [hp] using k⟩
      cases cd with
      | eq => exact lv_icmp_eq hx hb hd h1 (key rfl).1 (key rfl).2
      | ne => exact lv_icmp_ne hx hb hd h1 (key rfl).1 (fun h => (key rfl).2 (fun q => q h))
      | lt => exact lv_icmp_lt hx hb hd h1 (key rfl).1 (key rfl).2
      | ge => exact lv_icmp_ge hx hb hd h1 (key rfl).1 (key rfl).2
      | gt => exact lv_icmp_gt hx hb hd h1 (key rfl).1 (key rfl).2
      | le => exact lv_icmp_le hx hb hd h1 (key rfl).1 (key rfl).2
    next => cases h
  next d lo hi offs =>
    have hr : ((pc : Int) + d) :: offs.toList.map (fun o => (pc : Int) + o) = r.map (fun t : Nat => (t : Int)) := of_decide_eq_true hr
    split at h
    next x q =>
      split at h
      next hc =>
        cases r with
        | nil => cases h
        | cons t ts =>
          cases h
          have h1 : (pc : Int) + d = (pc' : Int) := (List.cons.inj hr).1
          exact lv_tableOut hx hb hd hc h1 k
      next hc =>
        have hc1 : ¬ x.toInt < lo := fun z => hc (Or.inl z)
        have hc2 : ¬ hi < x.toInt := fun z => hc (Or.inr z)
        cases r with
        | nil => cases h
        | cons t ts =>
          have h2 := (List.cons.inj hr).2
          rw [List.getElem?_cons_succ] at h
          cases hg : ts[(x.toInt - lo).toNat]? with
          | none => rw [hg] at h; cases h
          | some t2 =>
            rw [hg] at h
            cases h
            have h3 : (offs.toList.map (fun o => (pc : Int) + o))[(x.toInt - lo).toNat]? = some (pc' : Int) := by
              rw [h2, List.getElem?_map, hg]; rfl
            rw [List.getElem?_map] at h3
            cases ho : offs.toList[(x.toInt - lo).toNat]? with
            | none => rw [ho] at h3; cases h3
            | some o =>
              rw [ho] at h3
              exact lv_tableIn hx hb hd hc1 hc2 (by rw [← Array.getElem?_toList]; exact ho) (Option.some.inj h3) k
    next => cases h
  next => cases h
end GB
end
section
/-! instructions of the heap -/
/-- the array types that there are: number 0 int, 1 byte, 2 boolean, 3 long, 4 objects of one class -/
def g_tys (cA : Nat → ClassId) (C4 : String) : List (ClassId × FieldType) := [(cA 0, .int), (cA 1, .byte), (cA 2, .boolean), (cA 3, .long), (cA 4, .object C4)]
/-- a field of that type takes this value -/
def g_fit (ty : FieldType) (v : Value) : Bool := match ty, v with
  | .int, .int _ => true
  | .long, .long _ => true
  | .object _, .ref _ => true
  | .array _, .ref _ => true
  | _, _ => false
/-- the tables: classes' field types, the class of an array's objects, the script -/
abbrev gT : Type := (Nat → Nat → FieldType) × Nat × (Nat → Int32) × Nat
def g_mem (t : gT) (I : Instr) (r : List Nat) (st : List Value) (h : gH) : Option (List Value × gH) := match I with
  | .getfield _ => match r, st with
    | ci :: k :: _, .ref a :: q => match g_get h a with
      | some (.inr (ci', fs)) => if ci' = ci then (fs[k]?).map (fun v => (v :: q, h)) else none
      | _ => none
    | _, _ => none
  | .putfield _ => match r, st with
    | ci :: k :: _, v :: .ref a :: q => match g_get h a with
      | some (.inr (ci', fs)) => if ci' = ci ∧ k < fs.length ∧ g_fit (t.1 ci k) v = true then some (q, g_set h a (.inr (ci, fs.set k v))) else none
      | _ => none
    | _, _ => none
  | .iaload => match st with
    | .int i :: .ref a :: q => match g_get h a with
      | some (.inl (0, n, .inl f)) => if i < 0 ∨ n ≤ i.toNatClampNeg then none else some (.int (f i.toNatClampNeg) :: q, h)
      | _ => none
    | .int i :: .float 0 :: q => if i < 0 ∨ t.2.2.2 ≤ i.toNatClampNeg then none else some (.int (t.2.2.1 i.toNatClampNeg) :: q, h)
    | _ => none
  | .baload => match st with
    | .int i :: .ref a :: q => match g_get h a with
      | some (.inl (1, n, .inl f)) => if i < 0 ∨ n ≤ i.toNatClampNeg then none else some (.int (f i.toNatClampNeg) :: q, h)
      | some (.inl (2, n, .inl f)) => if i < 0 ∨ n ≤ i.toNatClampNeg then none else some (.int (f i.toNatClampNeg) :: q, h)
      | _ => none
    | _ => none
  | .laload => match st with
    | .int i :: .ref a :: q => match g_get h a with
      | some (.inl (3, n, .inr (.inl f))) => if i < 0 ∨ n ≤ i.toNatClampNeg then none else some (.long (f i.toNatClampNeg) :: q, h)
      | _ => none
    | _ => none
  | .aaload => match st with
    | .int i :: .ref a :: q => match g_get h a with
      | some (.inl (4, n, .inr (.inr (.inr (.inr f))))) => if i < 0 ∨ n ≤ i.toNatClampNeg then none else match f i.toNatClampNeg with
        | some b => some (.ref b :: q, h)
        | none => none
      | _ => none
    | _ => none
  | .arraylength => match st with
    | .ref a :: q => match g_get h a with
      | some (.inl (j, n, _)) => if j < 5 then some (.int (Int32.ofNat n) :: q, h) else none
      | _ => none
    | .float 0 :: q => some (.int (Int32.ofNat t.2.2.2) :: q, h)
    | _ => none
  | .iastore => match st with
    | .int x :: .int i :: .ref a :: q => match g_get h a with
      | some (.inl (0, n, .inl f)) => if i < 0 ∨ n ≤ i.toNatClampNeg then none else some (q, g_set h a (.inl (0, n, .inl (upd f i.toNatClampNeg x))))
      | _ => none
    | _ => none
  | .bastore => match st with
    | .int x :: .int i :: .ref a :: q => match g_get h a with
      | some (.inl (1, n, .inl f)) => if i < 0 ∨ n ≤ i.toNatClampNeg then none else some (q, g_set h a (.inl (1, n, .inl (upd f i.toNatClampNeg (vp_nar .byte x)))))
      | some (.inl (2, n, .inl f)) => if i < 0 ∨ n ≤ i.toNatClampNeg then none else some (q, g_set h a (.inl (2, n, .inl (upd f i.toNatClampNeg (vp_nar .boolean x)))))
      | _ => none
    | _ => none
  | .lastore => match st with
    | .long x :: .int i :: .ref a :: q => match g_get h a with
      | some (.inl (3, n, .inr (.inl f))) => if i < 0 ∨ n ≤ i.toNatClampNeg then none else some (q, g_set h a (.inl (3, n, .inr (.inl (vp_updL f i.toNatClampNeg x)))))
      | _ => none
    | _ => none
  | .aastore => match st with
    | .ref b :: .int i :: .ref a :: q => match g_get h a, g_get h b with
      | some (.inl (4, n, .inr (.inr (.inr (.inr f))))), some (.inr (ci, _)) => if i < 0 ∨ n ≤ i.toNatClampNeg ∨ ci ≠ t.2.1 then none else some (q, g_set h a (.inl (4, n, .inr (.inr (.inr (.inr (va_up f i.toNatClampNeg (some b))))))))
      | _, _ => none
    | _ => none
  | .ldc _ => match r with | 0 :: v :: _ => some (.int (Int32.ofNat v) :: st, h) | _ => none
  | .ldc_w _ => match r with | 0 :: v :: _ => some (.int (Int32.ofNat v) :: st, h) | _ => none
  | .ldc2_w _ => match r with | v :: _ => some (.long (Int64.ofNat v) :: st, h) | _ => none
  | _ => none
/-- what the tables must say for an instruction of the heap, or of constants, in a method of that class and name -/
def g_memok (cl : List vw_C) (Ts : List Cond) (own name : String) (I : Instr) (r : List Nat) : Prop := match I with
  | .getfield ix => match r with
    | ci :: k :: _ => ∃ q, cl[ci]? = some q ∧ k < q.2.2 ∧ Cond.fieldLink own ix (q.2.1 k).1 (q.2.1 k).2.1 (q.2.1 k).2.2.1 ∈ Ts
    | _ => True
  | .putfield ix => match r with
    | ci :: k :: _ => ∃ q, cl[ci]? = some q ∧ k < q.2.2 ∧ Cond.fieldLink own ix (q.2.1 k).1 (q.2.1 k).2.1 (q.2.1 k).2.2.1 ∈ Ts ∧ ((q.2.1 k).2.2.2 = false ∨ ((q.2.1 k).2.2.2 = true ∧ name = "<init>" ∧ (q.2.1 k).1 = own))
    | _ => True
  | .ldc ix => match r with | 0 :: v :: _ => Cond.constant own ix (Int32.ofNat v) ∈ Ts | _ => True
  | .ldc_w ix => match r with | 0 :: v :: _ => Cond.constant own ix (Int32.ofNat v) ∈ Ts | _ => True
  | .ldc2_w ix => match r with | v :: _ => Cond.constantLong own ix (Int64.ofNat v) ∈ Ts | _ => True
  | _ => True
/-- what the tables must say of the classes -/
def g_CL (cl : List vw_C) (t : gT) (Ts : List Cond) (C4 : String) : Prop := (∀ (ci : Nat) (q : vw_C), cl[ci]? = some q → (∀ w ∈ u_ws q.1 q.2.1 q.2.2, w ∈ Ts) ∧ (∀ k, k < q.2.2 → parseFieldDescriptor (q.2.1 k).2.2.1 = some (t.1 ci k)) ∧ (∀ a, a < q.2.2 → ∀ b, b < q.2.2 → a ≠ b → (q.2.1 a).2.1 ≠ (q.2.1 b).2.1)) ∧ ∃ q, cl[t.2.1]? = some q ∧ q.1 = C4
theorem g_fit_ok {ad cst : Nat → Nat} {ty : FieldType} {v : Value} (h : g_fit ty v = true) : narrow ty (g_sh ad cst v) = g_sh ad cst v ∧ fits ty (g_sh ad cst v) = true := by
  unfold g_fit at h
  split at h <;> first | exact ⟨rfl, rfl⟩ | cases h
section GM
variable {p : Program} {l : Launch} {e : Env} {R : Room} {s : State} {m : MethodId} {args : Array Value} {below : List Frame} {meth : Method} {c : Code} {H : Heap} {locs : List Loc} {cells slots : Nat} {Q : State → Prop}
variable {cc : ByteArray} {pc : Nat} {ls : Array Slot} {D : va_G} {cl : List vw_C} {cA : Nat → ClassId} {C4 : String} {fl lg cst : Nat → Nat} {H0 : Heap} {t : gT} {Ts : List Cond} {own : String}
theorem g_ht (hts : ∀ w ∈ Ts, w.before args s = true) {w : Cond} (h : w ∈ Ts) : w.before args s = true := hts w h
/-- a store into an array: the cell behind it -/
theorem g_arr_at {k t0 : Nat} {a : vp_A} {H1 : Heap} (h : H1[H0.size + fl k]? = some (vp_cell ((g_tys cA C4).getD t0 (0, .int)).1 (g_shd (fun j => H0.size + fl j) a))) : va_at D cl (H0.size + fl k, g_pe (fun j => H0.size + fl j) cst (g_tys cA C4) (.inl (t0, a))) H1 := h
set_option maxHeartbeats 8000000 in
theorem g_mem_ok (hx : p.tables.exec = Jvm.exec) (hb : c.code = cc) (hts : ∀ w ∈ Ts, w.before args s = true) (hown : s.vm.findClass own = some m.cls) (hK : va_K D cl (g_tys cA C4) s) (hCL : g_CL cl t Ts C4) (hX : va_X (cst 0) t.2.2.2 t.2.2.1 s H0) (hbl : cst 0 < H0.size)
    {I : Instr} {r : List Nat} {st st' : List Value} {h h' : gH} {len : Nat} (hS : g_mem t I r st h = some (st', h')) (hd : decode cc pc = .ok (I, len)) (hl : len = g_len I) (hok : g_memok cl Ts own meth.name I r)
    (hH : g_HH D cl (g_tys cA C4) fl lg cst H0 h H) (hlo : ∀ q ∈ locs, H0.size ≤ q.base)
    (kk : ∀ (H' : Heap) (locs' : List Loc), h'.1 = h.1 → g_HH D cl (g_tys cA C4) fl lg cst H0 h' H' → (∀ q ∈ locs', H0.size ≤ q.base) → W p l e R s m args below meth c H' locs' cells slots Q (F0 m (pc + g_len I) ls (st'.map (g_sh (fun j => H0.size + fl j) cst)))) :
    W p l e R s m args below meth c H locs cells slots Q (F0 m pc ls (st.map (g_sh (fun j => H0.size + fl j) cst))) := by
  subst hl
  have hlo' : ∀ (a k : Nat), ∀ q ∈ locs ++ [(⟨H0.size + a, k⟩ : Loc)], H0.size ≤ q.base := by
    intro a k q hq
    rcases List.mem_append.mp hq with h | h
    · exact hlo q h
    · rw [List.mem_singleton.mp h]; exact Nat.le_add_right _ _
  unfold g_mem at hS
  split at hS
  next ix =>
    split at hS
    next ci k r' a q =>
      split at hS
      next ci' fs hg =>
        split at hS
        next hci =>
          subst hci
          cases hv : fs[k]? with
          | none => rw [hv] at hS; cases hS
          | some v =>
            rw [hv] at hS
            cases hS
            obtain ⟨qc, hc, hk, hlk⟩ := hok
            exact va_get hx hb hts (hCL.1 _ _ hc).1 hown hK (hH.at hg) 0 rfl hc k hk (hts _ hlk) (fun _ h9 => h9) (by rw [List.getElem?_map, hv]; rfl) hd (kk H locs rfl hH hlo)
        next => cases hS
      next => cases hS
    next => cases hS
  next ix =>
    split at hS
    next ci k r' v a q =>
      split at hS
      next ci' fs hg =>
        split at hS
        next hci =>
          obtain ⟨rfl, hkf, hfv⟩ := hci
          cases hS
          obtain ⟨⟨C, T, N⟩, hc, hk, hlk, hfin⟩ := hok
          obtain ⟨hin, hty, hnm⟩ := hCL.1 _ _ hc
          have hap := va_apart (own := own) hts hin _ hty hnm hK hc
          obtain ⟨r, h1, cell, q1, q2, q3, q4⟩ := (hH.2.2 a _ hg).2.2
          have hr : r = (C, T, N) := Option.some.inj (h1.symm.trans hc)
          subst hr
          obtain ⟨hSl, hfc, kC, hkC, hkind⟩ := hK.1 _ _ hc
          obtain ⟨cf, kf, fi, f, hi, hsl⟩ := hSl k hk
          have hst := (u_facts hfc hkC (u_lays hts hin hk) hi).1
          obtain ⟨hn1, hf1⟩ := g_fit_ok (ad := fun j => H0.size + fl j) (cst := cst) hfv
          have hlay := hts _ (hin _ (u_in_lay hk))
          unfold u_lay at hlay
          have fin : ∀ H' : Heap, H'[H0.size + fl a]? = some (cell.setSlot f.slot (g_sh (fun j => H0.size + fl j) cst v)) → H'.size = H.size → (∀ q, q ≠ H0.size + fl a → H'[q]? = H[q]?) → g_HH D cl (g_tys cA C4) fl lg cst H0 (g_set h a (.inr (ci', fs.set k v))) H' := by
            intro H' e1 e2 e3
            rw [hsl] at e1
            refine hH.put hg e2 e3 ⟨_, hc, t_OB.to (V := updV (vp_V (fs.map (g_sh (fun j => H0.size + fl j) cst))) k (g_sh (fun j => H0.size + fl j) cst v)) ⟨_, e1, q2, q3, t_set q4 hap hk _⟩ (fun j _ => ?_)⟩
            rw [List.map_set]
            exact vp_updV_set (by rw [List.length_map]; exact hkf) _ j
          rcases hfin with hfin | ⟨hfin, hin2, hdecl⟩
          · rw [if_neg (by rw [hfin]; decide)] at hlay
            have h6 := u_store hfc hkC hkind hlay hi (hty k hk) hn1 hf1
            exact W.putK hx hb (f := f) ⟨hown, hts _ hlk, ⟨_, _, _, hi⟩, hst⟩ (by rw [q2]; exact h6) q1 q3 (by rw [hsl]; exact k2_hasslot (q4 k hk)) rfl rfl hd fun H' e1 e2 e3 => kk H' _ rfl (fin H' e1 e2 e3) (hlo' _ _)
          · rw [if_pos hfin] at hlay
            have hcf : m.cls = cf := by
              obtain ⟨_, _, c', _, _, _, -, -, hf', -, -, -, hown2, -⟩ := Cond.laysFinal_spec hlay
              have e1 : c' = cf := by have := hi.symm.trans hf'; simp at this; exact this.1.symm
              rw [hdecl] at hown2
              rw [← e1]; exact Option.some.inj (hown.symm.trans hown2)
            have h6 := u_fits hfc hkC hkind (Or.inr hlay) hi (hty k hk) hn1 hf1
            exact W.putFinK hx hb hown (hts _ hlk) hi hst hcf hin2 (by rw [q2]; exact h6) q1 q3 (by rw [hsl]; exact k2_hasslot (q4 k hk)) rfl rfl hd fun H' e1 e2 e3 => kk H' _ rfl (fin H' e1 e2 e3) (hlo' _ _)
        next => cases hS
      next => cases hS
    next => cases hS
  · split at hS
    next i a q =>
      split at hS
      next n f hg =>
        split at hS
        · cases hS
        next hin => cases hS; exact va_iald hx hb hK (hH.at hg) 0 0 rfl rfl hin hd (kk H locs rfl hH hlo)
      next => cases hS
    next i q =>
      split at hS
      · cases hS
      next hin =>
        cases hS
        exact va_sld (A := fun q => H0.size ≤ q) hx hb hX hbl (Nat.not_le.mpr hbl) ⟨by rw [hH.1]; exact Nat.le_add_right _ _, fun q h1 _ => hH.2.1 q h1, hlo⟩ hin hd (kk H locs rfl hH hlo)
    next => cases hS
  · split at hS
    next i a q =>
      split at hS
      next n f hg =>
        split at hS
        · cases hS
        next hin => cases hS; exact va_bald hx hb hK (hH.at hg) 0 1 rfl rfl hin hd (kk H locs rfl hH hlo)
      next n f hg =>
        split at hS
        · cases hS
        next hin => cases hS; exact va_zald hx hb hK (hH.at hg) 0 2 rfl rfl hin hd (kk H locs rfl hH hlo)
      next => cases hS
    next => cases hS
  · split at hS
    next i a q =>
      split at hS
      next n f hg =>
        split at hS
        · cases hS
        next hin => cases hS; exact va_lald hx hb hK (hH.at hg) 0 3 rfl rfl hin hd (kk H locs rfl hH hlo)
      next => cases hS
    next => cases hS
  · split at hS
    next i a q =>
      split at hS
      next n f hg =>
        split at hS
        · cases hS
        next hin =>
          split at hS
          next b hb2 =>
            cases hS
            refine va_aldq hx hb hK (hH.at hg) 0 4 rfl rfl hin hd ?_
            have h3 := kk H locs rfl hH hlo
            rw [hb2]
            exact h3
          next => cases hS
      next => cases hS
    next => cases hS
  · split at hS
    next a q =>
      split at hS
      next j n d hg =>
        split at hS
        next hj =>
          cases hS
          obtain ⟨ty, hty⟩ : ∃ ty, (g_tys cA C4)[j]? = some (((g_tys cA C4).getD j (0, .int)).1, ty) := by
            rcases (show j = 0 ∨ j = 1 ∨ j = 2 ∨ j = 3 ∨ j = 4 by omega) with rfl | rfl | rfl | rfl | rfl <;> exact ⟨_, rfl⟩
          have hn : (g_shd (fun j => H0.size + fl j) (n, d)).1 = n := by
            unfold g_shd
            split
            next e0 => cases e0; rfl
            next => rfl
          exact va_alen hx hb hK (hH.at hg) 0 j rfl hty (by rw [hn]) hd (kk H locs rfl hH hlo)
        next => cases hS
      next => cases hS
    next q =>
      cases hS
      exact va_slen (A := fun q => H0.size ≤ q) hx hb hX hbl (Nat.not_le.mpr hbl) ⟨by rw [hH.1]; exact Nat.le_add_right _ _, fun q h1 _ => hH.2.1 q h1, hlo⟩ hd (kk H locs rfl hH hlo)
    next => cases hS
  · split at hS
    next x i a q =>
      split at hS
      next n f hg =>
        split at hS
        · cases hS
        next hin =>
          cases hS
          have hat := (hH.2.2 a _ hg).2.2
          refine W.iast hx hb hat ((hK.2 0 _ rfl).1 n (fun j => .int (f j))) (fun q => by cases q) (by show ¬ (i < 0 ∨ (arrV _ _ _).slots.size ≤ _); rw [arrV_size]; exact hin) rfl rfl hd fun H1 e1 z oq => kk H1 _ rfl (hH.put hg z oq (g_arr_at ?_)) (hlo' _ _)
          rw [e1]
          show some ((vp_cell (cA 0) (n, .inl f)).setSlot _ _) = some (vp_cell (cA 0) (n, .inl (upd f i.toNatClampNeg x)))
          rw [vp_cell_i, vp_cell_i, arrV_store]
          congr 2
          funext q
          by_cases hq : q = i.toNatClampNeg
          · subst hq
            simp [updV, upd]
          · simp [updV, upd, hq]
      next => cases hS
    next => cases hS
  · split at hS
    next x i a q =>
      split at hS
      next n f hg =>
        split at hS
        · cases hS
        next hin =>
          cases hS
          have hat := (hH.2.2 a _ hg).2.2
          refine W.bast hx hb hat ((hK.2 1 _ rfl).1 n (fun j => .int (f j))) (fun q => by cases q) (by show ¬ (i < 0 ∨ (arrV _ _ _).slots.size ≤ _); rw [arrV_size]; exact hin) rfl rfl hd fun H1 e1 z oq => kk H1 _ rfl (hH.put hg z oq (g_arr_at ?_)) (hlo' _ _)
          rw [e1]
          show some ((vp_cell (cA 1) (n, .inl f)).setSlot _ _) = some (vp_cell (cA 1) (n, .inl (upd f i.toNatClampNeg (vp_nar .byte x))))
          rw [vp_cell_i, vp_cell_i, arrV_store]
          congr 2
          funext q
          by_cases hq : q = i.toNatClampNeg
          · subst hq
            simp [updV, upd, vp_nar]
            try rfl
          · simp [updV, upd, hq]
      next n f hg =>
        split at hS
        · cases hS
        next hin =>
          cases hS
          have hat := (hH.2.2 a _ hg).2.2
          refine W.zast hx hb hat ((hK.2 2 _ rfl).1 n (fun j => .int (f j))) (fun q => by cases q) (by show ¬ (i < 0 ∨ (arrV _ _ _).slots.size ≤ _); rw [arrV_size]; exact hin) rfl rfl hd fun H1 e1 z oq => kk H1 _ rfl (hH.put hg z oq (g_arr_at ?_)) (hlo' _ _)
          rw [e1]
          show some ((vp_cell (cA 2) (n, .inl f)).setSlot _ _) = some (vp_cell (cA 2) (n, .inl (upd f i.toNatClampNeg (vp_nar .boolean x))))
          rw [vp_cell_i, vp_cell_i, arrV_store]
          congr 2
          funext q
          by_cases hq : q = i.toNatClampNeg
          · subst hq
            simp [updV, upd, vp_nar]
            try rfl
          · simp [updV, upd, hq]
      next => cases hS
    next => cases hS
  · split at hS
    next x i a q =>
      split at hS
      next n f hg =>
        split at hS
        · cases hS
        next hin =>
          cases hS
          have hat := (hH.2.2 a _ hg).2.2
          refine W.last hx hb hat ((hK.2 3 _ rfl).1 n (fun j => .long (f j))) (fun q => by cases q) (by show ¬ (i < 0 ∨ (arrV _ _ _).slots.size ≤ _); rw [arrV_size]; exact hin) rfl rfl hd fun H1 e1 z oq => kk H1 _ rfl (hH.put hg z oq (g_arr_at ?_)) (hlo' _ _)
          rw [e1]
          show some ((vp_cell (cA 3) (n, .inr (.inl f))).setSlot _ _) = some (vp_cell (cA 3) (n, .inr (.inl (vp_updL f i.toNatClampNeg x))))
          rw [vp_cell_l, vp_cell_l, arrV_store]
          congr 2
          funext q
          by_cases hq : q = i.toNatClampNeg
          · subst hq
            simp [updV, vp_updL]
          · simp [updV, vp_updL, hq]
      next => cases hS
    next => cases hS
  · split at hS
    next b i a q =>
      split at hS
      next n f ci vs hg hgb =>
        split at hS
        · cases hS
        next hin =>
          cases hS
          have hin1 : ¬ i < 0 := fun z => hin (Or.inl z)
          have hin2 : i.toNatClampNeg < n := Nat.not_le.mp fun z => hin (Or.inr (Or.inl z))
          have hci : ci = t.2.1 := Classical.not_not.mp fun z => hin (Or.inr (Or.inr z))
          subst hci
          have hat := (hH.2.2 a _ hg).2.2
          obtain ⟨r', hr', cellV, g1, g2, g3, -⟩ := (hH.2.2 b _ hgb).2.2
          obtain ⟨qq, hqq, hC4⟩ := hCL.2
          have hcls := (hK.1 _ _ hqq).2
          obtain ⟨kA, comp, k1, k2, k3, -⟩ := (hK.2 4 _ rfl).2
          have hcomp : comp = D.1 t.2.1 := Option.some.inj (k3.symm.trans (by rw [← hC4]; exact hcls.1))
          subst hcomp
          obtain ⟨kC, hkC, -⟩ := hcls.2
          refine W.aast hx hb hat (fun q h => by cases h) (fun h => by cases h) k1 k2 rfl hkC ⟨hin1, by show _ < (arrV _ _ _).slots.size; rw [arrV_size]; exact hin2⟩ g1 (fun q h => by rw [g3] at h; cases h) (by rw [g2]; exact hkC) (by rw [g2]; exact va_assign hcls) rfl rfl hd fun H1 e1 z oq => kk H1 _ rfl (hH.put hg z oq (g_arr_at ?_)) (hlo' _ _)
          rw [e1]
          show some ((vp_cell (cA 4) (n, .inr (.inr (.inr (.inr fun i => (f i).map fun j => H0.size + fl j))))).setSlot _ _) = some (vp_cell (cA 4) (n, .inr (.inr (.inr (.inr fun j => (va_up f i.toNatClampNeg (some b) j).map fun j => H0.size + fl j)))))
          rw [vp_cell_q, vp_cell_q, arrV_store]
          congr 2
          funext q
          by_cases hq : q = i.toNatClampNeg
          · subst hq
            simp [updV, va_up, va_rf]
          · simp [updV, va_up, hq]
      next => cases hS
    next => cases hS
  · split at hS
    · cases hS; exact lv_ldc hx hb hown (hts _ hok) hd (kk H locs rfl hH hlo)
    · cases hS
  · split at hS
    · cases hS; exact lv_ldcw hx hb hown (hts _ hok) hd (kk H locs rfl hH hlo)
    · cases hS
  · split at hS
    · cases hS; exact lv_ldc2 hx hb hown (hts _ hok) hd (kk H locs rfl hH hlo)
    · cases hS
  · cases hS
end GM
end
section
/-! instructions that make cells -/
def g_new (lg : Nat → Nat) (df : Nat → List Value) (I : Instr) (r : List Nat) (st : List Value) (h : gH) : Option (List Value × gH) := match I with
  | .new _ => match r with
    | ci :: _ => (g_push lg h (df ci).length (.inr (ci, df ci))).map fun q => (.ref q.1 :: st, q.2)
    | _ => none
  | .newarray _ => match r, st with
    | 0 :: _, .int n :: q => if n < 0 ∨ 1000000 < n.toNatClampNeg then none else (g_push lg h n.toNatClampNeg (.inl (0, n.toNatClampNeg, .inl fun _ => 0))).map fun z => (.ref z.1 :: q, z.2)
    | 1 :: _, .int n :: q => if n < 0 ∨ 1000000 < n.toNatClampNeg then none else (g_push lg h n.toNatClampNeg (.inl (1, n.toNatClampNeg, .inl fun _ => 0))).map fun z => (.ref z.1 :: q, z.2)
    | 2 :: _, .int n :: q => if n < 0 ∨ 1000000 < n.toNatClampNeg then none else (g_push lg h n.toNatClampNeg (.inl (2, n.toNatClampNeg, .inl fun _ => 0))).map fun z => (.ref z.1 :: q, z.2)
    | 3 :: _, .int n :: q => if n < 0 ∨ 1000000 < n.toNatClampNeg then none else (g_push lg h n.toNatClampNeg (.inl (3, n.toNatClampNeg, .inr (.inl fun _ => 0)))).map fun z => (.ref z.1 :: q, z.2)
    | _, _ => none
  | .anewarray _ => match st with
    | .int n :: q => if n < 0 ∨ 1000000 < n.toNatClampNeg then none else (g_push lg h n.toNatClampNeg (.inl (4, n.toNatClampNeg, .inr (.inr (.inr (.inr fun _ => none)))))).map fun z => (.ref z.1 :: q, z.2)
    | _ => none
  | _ => none
def g_newok (cl : List vw_C) (Ts : List Cond) (C4 own : String) (I : Instr) (r : List Nat) : Prop := match I with
  | .new ix => match r with
    | ci :: _ => ∃ q, cl[ci]? = some q ∧ Cond.classLink own ix q.1 ∈ Ts ∧ Cond.instantiable q.1 q.2.2 ∈ Ts ∧ Cond.initialized q.1 ∈ Ts
    | _ => True
  | .newarray at_ => match r with
    | 0 :: _ => newarray.typeOf at_ = .int ∧ Cond.arrayClass .int ∈ Ts
    | 1 :: _ => newarray.typeOf at_ = .byte ∧ Cond.arrayClass .byte ∈ Ts
    | 2 :: _ => newarray.typeOf at_ = .boolean ∧ Cond.arrayClass .boolean ∈ Ts
    | 3 :: _ => newarray.typeOf at_ = .long ∧ Cond.arrayClass .long ∈ Ts
    | _ => True
  | .anewarray ix => Cond.classLink own ix C4 ∈ Ts ∧ Cond.arrayOver (.object C4) ∈ Ts
  | _ => True
/-- what a new object holds -/
def g_DF (cl : List vw_C) (t : gT) (df : Nat → List Value) : Prop := ∀ (ci : Nat) (q : vw_C), cl[ci]? = some q → (df ci).length = q.2.2 ∧ (∀ j, j < q.2.2 → defaultValue (t.1 ci j) = vp_V (df ci) j) ∧ ∀ (ad cst : Nat → Nat), (df ci).map (g_sh ad cst) = df ci
section GN
variable {p : Program} {l : Launch} {e : Env} {R : Room} {s : State} {m : MethodId} {args : Array Value} {below : List Frame} {meth : Method} {c : Code} {H : Heap} {locs : List Loc} {cells slots : Nat} {Q : State → Prop}
variable {cc : ByteArray} {pc : Nat} {ls : Array Slot} {D : va_G} {cl : List vw_C} {cA : Nat → ClassId} {C4 : String} {fl lg cst : Nat → Nat} {H0 : Heap} {t : gT} {Ts : List Cond} {own : String} {df : Nat → List Value}
theorem g_newarr (hx : p.tables.exec = Jvm.exec) (hb : c.code = cc) (hts : ∀ w ∈ Ts, w.before args s = true) (hK : va_K D cl (g_tys cA C4) s) (hfl : ∀ i, fl (lg i) = i) {at_ : ArrayType} {ty : FieldType} (h1 : newarray.typeOf at_ = ty) (h2 : Cond.arrayClass ty ∈ Ts) {t0 : Nat} (ht0 : (g_tys cA C4)[t0]? = some (cA t0, ty)) (hprim : ∀ C, ty ≠ .object C) (hby : componentBytes ty ≤ 8)
    {n : Int32} {st : List Value} {h : gH} {d : (Nat → Int32) ⊕ (Nat → Int64) ⊕ (Nat → UInt32) ⊕ (Nat → UInt64) ⊕ (Nat → Option Nat)} (hd0 : ∀ N, vp_cell (cA t0) (g_shd (fun j => H0.size + fl j) (N, d)) = arrV (cA t0) N (fun _ => defaultValue ty))
    {k : Nat} {h' : gH} (hin : ¬ (n < 0 ∨ 1000000 < n.toNatClampNeg)) (hp : g_push lg h n.toNatClampNeg (.inl (t0, n.toNatClampNeg, d)) = some (k, h')) (hd : decode cc pc = .ok (.newarray at_, 2))
    (hH : g_HH D cl (g_tys cA C4) fl lg cst H0 h H) (hrc : cells + (h'.1.1 - h.1.1) ≤ R.cells) (hrs : slots + (h'.1.2 - h.1.2) ≤ R.slots)
    (kk : ∀ (H' : Heap), g_HH D cl (g_tys cA C4) fl lg cst H0 h' H' → W p l e R s m args below meth c H' locs (cells + (h'.1.1 - h.1.1)) (slots + (h'.1.2 - h.1.2)) Q (F0 m (pc + 2) ls ((Value.ref k :: st).map (g_sh (fun j => H0.size + fl j) cst)))) :
    W p l e R s m args below meth c H locs cells slots Q (F0 m pc ls ((Value.int n :: st).map (g_sh (fun j => H0.size + fl j) cst))) := by
  have hn : ¬ n < 0 := fun z => hin (Or.inl z)
  have hN : n.toNatClampNeg ≤ 1000000 := Nat.not_lt.mp fun z => hin (Or.inr z)
  have hpp : h'.1 = (h.1.1 + 1, h.1.2 + n.toNatClampNeg) := by
    unfold g_push at hp
    split at hp
    · cases hp; rfl
    · cases hp
  have e1 : h'.1.1 - h.1.1 = 1 := by rw [hpp]; show h.1.1 + 1 - h.1.1 = 1; omega
  have e2 : h'.1.2 - h.1.2 = n.toNatClampNeg := by rw [hpp]; show h.1.2 + n.toNatClampNeg - h.1.2 = _; omega
  rw [e1, e2] at kk
  rw [e1] at hrc
  rw [e2] at hrs
  refine va_newaK hx hb (hts _ (by rw [h1]; exact h2)) rfl hd rfl hn rfl (by rw [h1]; exact Nat.le_trans (Nat.mul_le_mul hN hby) (by decide)) hrc hrs rfl fun H1 cA' f1 f2 f3 _ f5 => ?_
  have hc : cA' = cA t0 := by
    have h9 := (hK.2 t0 _ ht0).2
    rw [h1] at f5
    cases ty with
    | object C => exact absurd rfl (hprim C)
    | _ => exact Option.some.inj (f5.symm.trans h9)
  subst hc
  obtain ⟨g1, -, g3⟩ := hH.push hfl hp f2 f3 (show H1[H.size]? = some (vp_cell ((g_tys cA C4).getD t0 (0, .int)).1 (g_shd (fun j => H0.size + fl j) (n.toNatClampNeg, d))) by
    rw [f1, h1, show ((g_tys cA C4).getD t0 (0, .int)).1 = cA t0 by rw [List.getD_eq_getElem?_getD, ht0]; rfl, hd0])
  have h7 := kk H1 g3
  rw [List.map_cons, show g_sh (fun j => H0.size + fl j) cst (Value.ref k) = .ref H.size by show Value.ref (H0.size + fl k) = _; rw [g1]] at h7
  exact h7
set_option maxHeartbeats 4000000 in
theorem g_new_ok (hx : p.tables.exec = Jvm.exec) (hb : c.code = cc) (hts : ∀ w ∈ Ts, w.before args s = true) (hown : s.vm.findClass own = some m.cls) (hK : va_K D cl (g_tys cA C4) s) (hCL : g_CL cl t Ts C4) (hDF : g_DF cl t df) (hfl : ∀ i, fl (lg i) = i)
    {I : Instr} {r : List Nat} {st st' : List Value} {h h' : gH} {len : Nat} (hS : g_new lg df I r st h = some (st', h')) (hd : decode cc pc = .ok (I, len)) (hl : len = g_len I) (hok : g_newok cl Ts C4 own I r)
    (hH : g_HH D cl (g_tys cA C4) fl lg cst H0 h H) (hrc : cells + (h'.1.1 - h.1.1) ≤ R.cells) (hrs : slots + (h'.1.2 - h.1.2) ≤ R.slots)
    (kk : ∀ (H' : Heap), g_HH D cl (g_tys cA C4) fl lg cst H0 h' H' → W p l e R s m args below meth c H' locs (cells + (h'.1.1 - h.1.1)) (slots + (h'.1.2 - h.1.2)) Q (F0 m (pc + g_len I) ls (st'.map (g_sh (fun j => H0.size + fl j) cst)))) :
    W p l e R s m args below meth c H locs cells slots Q (F0 m pc ls (st.map (g_sh (fun j => H0.size + fl j) cst))) := by
  subst hl
  unfold g_new at hS
  split at hS
  next ix =>
    split at hS
    next ci r' =>
      cases hp : g_push lg h (df ci).length (.inr (ci, df ci)) with
      | none => rw [hp] at hS; cases hS
      | some z =>
        rw [hp] at hS
        cases hS
        obtain ⟨⟨C, T, N⟩, hc, hlk, hins, hini⟩ := hok
        obtain ⟨hin, hty, hnm⟩ := hCL.1 _ _ hc
        obtain ⟨d1, d2, d3⟩ := hDF _ _ hc
        obtain ⟨k, h'⟩ := z
        have hKn := hK.1 _ _ hc
        have hpp : h'.1 = (h.1.1 + 1, h.1.2 + N) := by
          unfold g_push at hp
          split at hp
          · cases hp; rw [d1]
          · cases hp
        have e1 : h'.1.1 - h.1.1 = 1 := by rw [hpp]; show h.1.1 + 1 - h.1.1 = 1; omega
        have e2 : h'.1.2 - h.1.2 = N := by rw [hpp]; show h.1.2 + N - h.1.2 = _; omega
        simp only [e1, e2] at kk hrc hrs
        refine W.newcK hx hb hown (hts _ hlk) (hts _ hins) (hts _ hini) rfl hd hrc hrs hKn.2.1 rfl fun H1 kC hkC f1 f2 f3 => ?_
        obtain ⟨g1, -, g3⟩ := hH.push hfl hp f2 f3 ⟨_, hc, (u_born (t.1 ci) hts hin hKn hkC f1 hty).to (fun j hj => by rw [d3]; exact d2 j hj)⟩
        have h7 := kk H1 g3
        rw [List.map_cons, show g_sh (fun j => H0.size + fl j) cst (Value.ref k) = .ref H.size by show Value.ref (H0.size + fl k) = _; rw [g1]] at h7
        exact h7
    next => cases hS
  next at_ =>
    split at hS
    next r' n q =>
      split at hS
      · cases hS
      next hin =>
        cases hp : g_push lg h n.toNatClampNeg (.inl (0, n.toNatClampNeg, .inl fun _ => 0)) with
        | none => rw [hp] at hS; cases hS
        | some z => rw [hp] at hS; cases hS; exact g_newarr hx hb hts hK hfl hok.1 hok.2 rfl (fun C h => by cases h) (by decide) (fun N => rfl) hin hp hd hH hrc hrs kk
    next r' n q =>
      split at hS
      · cases hS
      next hin =>
        cases hp : g_push lg h n.toNatClampNeg (.inl (1, n.toNatClampNeg, .inl fun _ => 0)) with
        | none => rw [hp] at hS; cases hS
        | some z => rw [hp] at hS; cases hS; exact g_newarr hx hb hts hK hfl hok.1 hok.2 rfl (fun C h => by cases h) (by decide) (fun N => rfl) hin hp hd hH hrc hrs kk
    next r' n q =>
      split at hS
      · cases hS
      next hin =>
        cases hp : g_push lg h n.toNatClampNeg (.inl (2, n.toNatClampNeg, .inl fun _ => 0)) with
        | none => rw [hp] at hS; cases hS
        | some z => rw [hp] at hS; cases hS; exact g_newarr hx hb hts hK hfl hok.1 hok.2 rfl (fun C h => by cases h) (by decide) (fun N => rfl) hin hp hd hH hrc hrs kk
    next r' n q =>
      split at hS
      · cases hS
      next hin =>
        cases hp : g_push lg h n.toNatClampNeg (.inl (3, n.toNatClampNeg, .inr (.inl fun _ => 0))) with
        | none => rw [hp] at hS; cases hS
        | some z => rw [hp] at hS; cases hS; exact g_newarr hx hb hts hK hfl hok.1 hok.2 rfl (fun C h => by cases h) (by decide) (fun N => rfl) hin hp hd hH hrc hrs kk
    next => cases hS
  next ix =>
    split at hS
    next n q =>
      split at hS
      · cases hS
      next hin =>
        cases hp : g_push lg h n.toNatClampNeg (.inl (4, n.toNatClampNeg, .inr (.inr (.inr (.inr fun _ => none))))) with
        | none => rw [hp] at hS; cases hS
        | some z =>
          rw [hp] at hS
          cases hS
          obtain ⟨k, h'⟩ := z
          have hn : ¬ n < 0 := fun z => hin (Or.inl z)
          have hN : n.toNatClampNeg ≤ 1000000 := Nat.not_lt.mp fun z => hin (Or.inr z)
          have hpp : h'.1 = (h.1.1 + 1, h.1.2 + n.toNatClampNeg) := by
            unfold g_push at hp
            split at hp
            · cases hp; rfl
            · cases hp
          have e1 : h'.1.1 - h.1.1 = 1 := by rw [hpp]; show h.1.1 + 1 - h.1.1 = 1; omega
          have e2 : h'.1.2 - h.1.2 = n.toNatClampNeg := by rw [hpp]; show h.1.2 + n.toNatClampNeg - h.1.2 = _; omega
          simp only [e1, e2] at kk hrc hrs
          refine W.anew hx hb hown (hts _ hok.1) (hts _ hok.2) rfl hd rfl hn (by omega) hrc hrs fun cA' kA comp f1 f2 f3 f4 => ?_
          obtain ⟨_, _, _, _, _, r4⟩ := (hK.2 4 _ rfl).2
          have hc : cA' = cA 4 := Option.some.inj (f1.symm.trans r4)
          subst hc
          obtain ⟨g1, -, g3⟩ := hH.push hfl hp (H1 := H.push { cls := cA 4, slots := Array.replicate n.toNatClampNeg .null, vm := .none }) (by rw [Array.size_push]) (fun q hq => by rw [Array.getElem?_push, if_neg (Nat.ne_of_lt hq)])
            (show (H.push _)[H.size]? = some (vp_cell (cA 4) (n.toNatClampNeg, .inr (.inr (.inr (.inr fun _ => none))))) by rw [Array.getElem?_push_size, vp_cell_q, ← arrV_new]; rfl)
          have h7 := kk _ g3
          rw [List.map_cons, show g_sh (fun j => H0.size + fl j) cst (Value.ref k) = .ref H.size by show Value.ref (H0.size + fl k) = _; rw [g1]] at h7
          exact h7
    next => cases hS
  next => cases hS
end GN
end
section
/-! texts (String constants): number j + 1 is the text, j + 1 + how many there are its row of bytes -/
def g_txt (tb : List (List Int32)) (I : Instr) (r : List Nat) (st : List Value) : Option (List Value) := match I with
  | .ldc _ => match r with
    | 1 :: j :: _ => if j < tb.length ∧ tb.length < 1000 then some (.float (UInt32.ofNat (j + 1)) :: st) else none
    | _ => none
  | .getfield _ => match r, st with
    | [0], .float j :: q => if 0 < j.toNat ∧ j.toNat ≤ tb.length ∧ tb.length < 1000 then some (.float (UInt32.ofNat (j.toNat + tb.length)) :: q) else none
    | [1], .float j :: q => if 0 < j.toNat ∧ j.toNat ≤ tb.length ∧ tb.length < 1000 then some (.int 0 :: q) else none
    | _, _ => none
  | .arraylength => match st with
    | .float j :: q => if tb.length < j.toNat ∧ j.toNat ≤ 2 * tb.length then some (.int (Int32.ofNat (tb.getD (j.toNat - 1 - tb.length) []).length) :: q) else none
    | _ => none
  | .baload => match st with
    | .int i :: .float j :: q => if tb.length < j.toNat ∧ j.toNat ≤ 2 * tb.length then
        (if i < 0 ∨ (tb.getD (j.toNat - 1 - tb.length) []).length ≤ i.toNatClampNeg then none else some (.int ((tb.getD (j.toNat - 1 - tb.length) []).getD i.toNatClampNeg 0) :: q)) else none
    | _ => none
  | .getstatic _ => match r with
    | [0] => some (.int 1 :: st)
    | _ => none
  | _ => none
/-- the texts' names: class, place in its pool, the text -/
def g_txtok (tn : Nat → String × Nat × String) (Ts : List Cond) (own : String) (I : Instr) (r : List Nat) : Prop := match I with
  | .ldc ix => match r with
    | 1 :: j :: _ => (tn j).1 = own ∧ (tn j).2.1 = ix
    | _ => True
  | .getfield ix => match r with
    | [0] => Cond.fieldLink own ix "java/lang/String" "value" "[B" ∈ Ts
    | [1] => Cond.fieldLink own ix "java/lang/String" "coder" "B" ∈ Ts
    | _ => True
  | .getstatic ix => match r with
    | [0] => Cond.fieldLink own ix "java/lang/String" "COMPACT_STRINGS" "Z" ∈ Ts
    | _ => True
  | _ => True
/-- what holds of the texts -/
def g_TX (tb : List (List Int32)) (tn : Nat → String × Nat × String) (cst : Nat → Nat) (H0 : Heap) (U : State) : Prop :=
  (∀ j, j < tb.length → vk_R (tn j).1 (tn j).2.1 (tn j).2.2 (cst (j + 1)) U) ∧ vk_S tb.length (tb.map List.length) tb (fun i => cst (i + 1)) (fun i => cst (i + 1 + tb.length)) (fun q => H0.size ≤ q) U H0 ∧ va_Z "java/lang/String" "COMPACT_STRINGS" "Z" (.int 1) (fun q => H0.size ≤ q) U H0
theorem g_TX.warm {tb : List (List Int32)} {tn : Nat → String × Nat × String} {cst : Nat → Nat} {H0 : Heap} {s U : State} (hW : s.WarmedH U.vm) (h : g_TX tb tn cst H0 s) : g_TX tb tn cst H0 U :=
  ⟨fun j hj => (h.1 j hj).warm hW, h.2.1.moved hW.alike, h.2.2.moved hW.alike⟩
theorem g_TX.same {tb : List (List Int32)} {tn : Nat → String × Nat × String} {cst : Nat → Nat} {H0 : Heap} {s U : State} (hv : U.vm = s.vm) (h : g_TX tb tn cst H0 s) : g_TX tb tn cst H0 U :=
  ⟨fun j hj => (h.1 j hj).same hv, h.2.1.moved (by rw [hv]; exact Vm.Alike.refl _), h.2.2.moved (by rw [hv]; exact Vm.Alike.refl _)⟩
section GX
variable {p : Program} {l : Launch} {e : Env} {R : Room} {s : State} {m : MethodId} {args : Array Value} {below : List Frame} {meth : Method} {c : Code} {H : Heap} {locs : List Loc} {cells slots : Nat} {Q : State → Prop}
variable {cc : ByteArray} {pc : Nat} {ls : Array Slot} {ad cst : Nat → Nat} {H0 : Heap} {Ts : List Cond} {own : String} {tb : List (List Int32)} {tn : Nat → String × Nat × String}
theorem g_len_at (tb : List (List Int32)) (i : Nat) : (tb.map List.length).getD i 0 = (tb.getD i []).length := by
  simp only [List.getD_eq_getElem?_getD, List.getElem?_map]
  cases tb[i]? <;> rfl
set_option maxHeartbeats 4000000 in
theorem g_txt_ok (hx : p.tables.exec = Jvm.exec) (hb : c.code = cc) (hts : ∀ w ∈ Ts, w.before args s = true) (hown : s.vm.findClass own = some m.cls) (hTX : g_TX tb tn cst H0 s) (hold : ∀ q, q < H0.size → H[q]? = H0[q]?)
    {I : Instr} {r : List Nat} {st st' : List Value} {len : Nat} (hS : g_txt tb I r st = some st') (hd : decode cc pc = .ok (I, len)) (hl : len = g_len I) (hok : g_txtok tn Ts own I r)
    (k : W p l e R s m args below meth c H locs cells slots Q (F0 m (pc + g_len I) ls (st'.map (g_sh ad cst)))) : W p l e R s m args below meth c H locs cells slots Q (F0 m pc ls (st.map (g_sh ad cst))) := by
  subst hl
  obtain ⟨hR, hV, hZ⟩ := hTX
  have u32 : ∀ n : Nat, n < 4000 → (UInt32.ofNat n).toNat = n := fun n hn => by
    rw [UInt32.toNat_ofNat']
    exact Nat.mod_eq_of_lt (by omega)
  unfold g_txt at hS
  split at hS
  next ix =>
    split at hS
    next j r' =>
      split at hS
      next hj =>
        cases hS
        obtain ⟨h1, h2⟩ := hok
        have h3 := hR j hj.1
        rw [h1, h2] at h3
        refine va_ldcS hx hb hown h3 hd ?_
        have h4 : g_sh ad cst (.float (UInt32.ofNat (j + 1))) = .ref (cst (j + 1)) := by
          show Value.ref (cst (UInt32.ofNat (j + 1)).toNat) = _
          rw [u32 _ (by omega)]
        rw [List.map_cons, h4] at k
        exact k
      next => cases hS
    next => cases hS
  next ix =>
    split at hS
    next j q =>
      split at hS
      next hj =>
        cases hS
        obtain ⟨cf, kf, fi, f, cell, g1, g2, g3, g4, g5, g6⟩ := (hV.1 (j.toNat - 1) (by omega)).2.2.1
        have ha : cst (j.toNat - 1 + 1) < H0.size := Nat.not_le.mp g6
        have e1 : g_sh ad cst (.float j) = .ref (cst (j.toNat - 1 + 1)) := by
          show Value.ref (cst j.toNat) = _
          rw [show j.toNat - 1 + 1 = j.toNat by omega]
        rw [List.map_cons, e1]
        refine W.getf hx hb hown (hts _ hok) g1 g2 (by rw [hold _ ha]; exact g3) g4 g5 (g := F0 m pc ls _) rfl rfl hd ?_
        have h4 : g_sh ad cst (.float (UInt32.ofNat (j.toNat + tb.length))) = .ref (cst (j.toNat - 1 + 1 + tb.length)) := by
          show Value.ref (cst (UInt32.ofNat (j.toNat + tb.length)).toNat) = _
          rw [u32 _ (by omega), show j.toNat - 1 + 1 = j.toNat by omega]
        rw [List.map_cons, h4] at k
        exact k
      next => cases hS
    next j q =>
      split at hS
      next hj =>
        cases hS
        obtain ⟨cf, kf, fi, f, cell, g1, g2, g3, g4, g5, g6⟩ := (hV.1 (j.toNat - 1) (by omega)).2.1
        have ha : cst (j.toNat - 1 + 1) < H0.size := Nat.not_le.mp g6
        have e1 : g_sh ad cst (.float j) = .ref (cst (j.toNat - 1 + 1)) := by
          show Value.ref (cst j.toNat) = _
          rw [show j.toNat - 1 + 1 = j.toNat by omega]
        rw [List.map_cons, e1]
        exact W.getf hx hb hown (hts _ hok) g1 g2 (by rw [hold _ ha]; exact g3) g4 g5 (g := F0 m pc ls _) rfl rfl hd k
      next => cases hS
    next => cases hS
  · split at hS
    next j q =>
      split at hS
      next hj =>
        cases hS
        obtain ⟨cell, g1, g2, g3, g4, g5, g6, g7⟩ := (hV.1 (j.toNat - 1 - tb.length) (by omega)).2.2.2
        have ha : cst (j.toNat - 1 - tb.length + 1 + tb.length) < H0.size := Nat.not_le.mp g7
        have e1 : g_sh ad cst (.float j) = .ref (cst (j.toNat - 1 - tb.length + 1 + tb.length)) := by
          show Value.ref (cst j.toNat) = _
          rw [show j.toNat - 1 - tb.length + 1 + tb.length = j.toNat by omega]
        rw [List.map_cons, e1]
        rw [g_len_at] at g5
        exact W.alen hx hb (by rw [hold _ ha]; exact g1) g2 g5 (g := F0 m pc ls _) rfl rfl hd k
      next => cases hS
    next => cases hS
  · split at hS
    next i j q =>
      split at hS
      next hj =>
        split at hS
        · cases hS
        next hin =>
          cases hS
          obtain ⟨cell, g1, g2, g3, g4, g5, g6, g7⟩ := (hV.1 (j.toNat - 1 - tb.length) (by omega)).2.2.2
          have ha : cst (j.toNat - 1 - tb.length + 1 + tb.length) < H0.size := Nat.not_le.mp g7
          have e1 : g_sh ad cst (.float j) = .ref (cst (j.toNat - 1 - tb.length + 1 + tb.length)) := by
            show Value.ref (cst j.toNat) = _
            rw [show j.toNat - 1 - tb.length + 1 + tb.length = j.toNat by omega]
          rw [List.map_cons, List.map_cons, e1]
          have hlt : i.toNatClampNeg < (tb.getD (j.toNat - 1 - tb.length) []).length := Nat.not_le.mp fun z => hin (Or.inr z)
          rw [g_len_at] at g4
          exact W.bald hx hb (by rw [hold _ ha]; exact g1) g2 g3 (fun z => z.elim (fun z => hin (Or.inl z)) (fun z => by omega)) (g6 _ (by rw [g_len_at]; exact hlt)) (g := F0 m pc ls _) rfl rfl hd k
      next => cases hS
    next => cases hS
  next ix =>
    split at hS
    next =>
      cases hS
      obtain ⟨cf, kf, fi, f, a, cell, h1, h2, h3, h4, h5, h6, h7, h8⟩ := hZ
      exact W.gets hx hb hown (hts _ hok) h1 h2 h3 h4 (by rw [hold _ (Nat.not_le.mp h8)]; exact h5) (fun e => by rw [e] at h6; cases h6) h7 (g := F0 m pc ls _) rfl hd k
    next => cases hS
  next => cases hS
end GX
end
section
/-! natives, calls, and the interpreter -/
def g_sum (st : List Value) : Nat := (st.map fun v => v.category).sum
def g_nat (I : Instr) (r : List Nat) (st : List Value) (h : gH) : Option (List Value × gH) := match I with
  | .invokespecial _ => match r, st with
    | [0], .ref _ :: q => if g_sum q ≤ 8 then some (q, h) else none
    | _, _ => none
  | .invokestatic _ => match r, st with
    | [5], .int n :: .int dp :: .ref a :: .int sp :: .ref a0 :: q => match g_get h a0, g_get h a with
      | some (.inl (0, n0, .inl f)), some (.inl (0, n1, .inl g)) =>
        if sp < 0 ∨ dp < 0 ∨ n < 0 ∨ n0 < sp.toNatClampNeg + n.toNatClampNeg ∨ n1 < dp.toNatClampNeg + n.toNatClampNeg ∨ 8 < g_sum q then none
        else some (q, g_set h a (.inl (0, n1, .inl (va_cpy f g sp.toNatClampNeg dp.toNatClampNeg n.toNatClampNeg))))
      | _, _ => none
    | _, _ => none
  | _ => none
def g_natok (Ts : List Cond) (own : String) (I : Instr) (r : List Nat) : Prop := match I with
  | .invokespecial ix => match r with
    | [0] => Cond.methodLink own ix objectInit ∈ Ts ∧ Cond.instanceMethod objectInit ∈ Ts ∧ Cond.code objectInit ⟨#[0xb1]⟩ 1 none ∈ Ts
    | _ => True
  | .invokestatic ix => match r with
    | [5] => Cond.methodLink own ix arraycopyName ∈ Ts ∧ Cond.native arraycopyName ∈ Ts ∧ Cond.static arraycopyName ∈ Ts ∧ Cond.initialized "java/lang/System" ∈ Ts
    | _ => True
  | _ => True
/-- a method: its name, bytes, locals, what it returns; its instructions, each with what it links to -/
abbrev gM : Type := (MethodName × ByteArray × Nat × Option FieldType) × (Nat → Option (Instr × List Nat))
/-- a call: the method's number, its arguments, the rest of the stack -/
def g_inv (nt : Nat) (mt : Nat → gM) (I : Instr) (r : List Nat) (st : List Value) (h : gH) : Option (Nat × List Value × List Value) := match I with
  | .invokestatic _ => match r with
    | [1, M, na] => if na ≤ st.length ∧ g_sum (st.drop na) ≤ 8 ∧ (lg_sl (st.take na).reverse).length ≤ (mt M).1.2.2.1 then some (M, (st.take na).reverse, st.drop na) else none
    | _ => none
  | .invokevirtual _ => match r with
    | [2, M, na, ci] => match st.drop na with
      | .ref b :: q => match g_get h b with
        | some (.inr (ci', _)) => if ci' = ci ∧ na ≤ st.length ∧ g_sum q ≤ 8 ∧ (lg_sl (.ref b :: (st.take na).reverse)).length ≤ (mt M).1.2.2.1 then some (M, .ref b :: (st.take na).reverse, q) else none
        | _ => none
      | _ => none
    | [6, M, na] => match st.drop na with
      | .float j :: q => if 0 < j.toNat ∧ j.toNat ≤ nt ∧ na ≤ st.length ∧ g_sum q ≤ 8 ∧ (lg_sl (.float j :: (st.take na).reverse)).length ≤ (mt M).1.2.2.1 then some (M, .float j :: (st.take na).reverse, q) else none
      | _ => none
    | _ => none
  | .invokespecial _ => match r with
    | [3, M, na] => match st.drop na with
      | .ref b :: q => if na ≤ st.length ∧ g_sum q ≤ 8 ∧ (lg_sl (.ref b :: (st.take na).reverse)).length ≤ (mt M).1.2.2.1 then some (M, .ref b :: (st.take na).reverse, q) else none
      | _ => none
    | [4, M, na] => match st.drop na with
      | .ref b :: q => if na ≤ st.length ∧ g_sum q ≤ 8 ∧ (lg_sl (.ref b :: (st.take na).reverse)).length ≤ (mt M).1.2.2.1 then some (M, .ref b :: (st.take na).reverse, q) else none
      | _ => none
    | _ => none
  | _ => none
/-- what the tables must say of a method that is called -/
def g_called (Ts : List Cond) (M : gM) (na : Nat) : Prop := plainName M.1.1.cls = true ∧ M.1.2.2.1 ≤ 45 ∧ Cond.code M.1.1 M.1.2.1 M.1.2.2.1 M.1.2.2.2 ∈ Ts ∧ Cond.initialized M.1.1.cls ∈ Ts ∧ (M.1.1.cls ≠ "java/lang/invoke/MethodHandle" ∧ M.1.1.cls ≠ "java/lang/invoke/VarHandle" ∧ (parseMethodDescriptor M.1.1.desc).map (fun d => d.parameters.length) = some na)
def g_invok (cl : List vw_C) (Ts : List Cond) (mt : Nat → gM) (host own : String) (I : Instr) (r : List Nat) : Prop := match I with
  | .invokestatic ix => match r with
    | [1, M, na] => g_called Ts (mt M) na ∧ Cond.methodLink own ix (mt M).1.1 ∈ Ts ∧ Cond.static (mt M).1.1 ∈ Ts
    | _ => True
  | .invokevirtual ix => match r with
    | [2, M, na, ci] => g_called Ts (mt M) na ∧ Cond.methodLink own ix (mt M).1.1 ∈ Ts ∧ Cond.instanceMethod (mt M).1.1 ∈ Ts ∧ Cond.selects (mt M).1.1.cls (mt M).1.1 (mt M).1.1 ∈ Ts ∧ ∃ q, cl[ci]? = some q ∧ q.1 = (mt M).1.1.cls
    | [6, M, na] => g_called Ts (mt M) na ∧ Cond.methodLink own ix (mt M).1.1 ∈ Ts ∧ Cond.instanceMethod (mt M).1.1 ∈ Ts ∧ Cond.selects (mt M).1.1.cls (mt M).1.1 (mt M).1.1 ∈ Ts ∧ (mt M).1.1.cls = "java/lang/String"
    | _ => True
  | .invokespecial ix => match r with
    | [3, M, na] => g_called Ts (mt M) na ∧ Cond.methodLink own ix (mt M).1.1 ∈ Ts ∧ Cond.instanceMethod (mt M).1.1 ∈ Ts ∧ (mt M).1.1.name = "<init>" ∧ (mt M).1.2.2.2 = none
    | [4, M, na] => g_called Ts (mt M) na ∧ Cond.methodLinkNest own ix (mt M).1.1 host ∈ Ts ∧ Cond.instanceMethod (mt M).1.1 ∈ Ts ∧ (mt M).1.1.name = "<init>" ∧ (mt M).1.2.2.2 = none
    | _ => True
  | _ => True
def g_ret (ret : Option FieldType) (I : Instr) (st : List Value) : Option (Option Value) := match I with
  | .ireturn => match ret, st with
    | some ty, [.int v] => if narrow ty (.int v) = .int v then some (some (.int v)) else none
    | _, _ => none
  | .lreturn => match ret, st with
    | some .long, [.long v] => some (some (.long v))
    | _, _ => none
  | .return_ => match ret, st with
    | none, [] => some none
    | _, _ => none
  | _ => none
/-- an instruction that is neither call nor return -/
def g_step (t : gT) (tb : List (List Int32)) (lg : Nat → Nat) (df : Nat → List Value) (nL : Nat) (I : Instr) (r : List Nat) (pc : Nat) (loc : List (Nat × Value)) (st : List Value) (h : gH) : Option (Nat × List (Nat × Value) × List Value × gH) :=
  match g_pure I st with
  | some st' => some (pc + g_len I, loc, st', h)
  | none => match g_loc nL I loc st with
    | some (loc', st') => some (pc + g_len I, loc', st', h)
    | none => match g_br I r pc st with
      | some (pc', st') => some (pc', loc, st', h)
      | none => match g_mem t I r st h with
        | some (st', h') => some (pc + g_len I, loc, st', h')
        | none => match g_new lg df I r st h with
          | some (st', h') => some (pc + g_len I, loc, st', h')
          | none => match g_txt tb I r st with
            | some st' => some (pc + g_len I, loc, st', h)
            | none => match g_nat I r st h with
              | some (st', h') => some (pc + 3, loc, st', h')
              | none => none
/-- the interpreter: fuel, calls' depth, the method, its place, its locals, its stack, the heap -/
def g_exec (t : gT) (tb : List (List Int32)) (lg : Nat → Nat) (df : Nat → List Value) (mt : Nat → gM) : Nat → Nat → Nat → Nat → List (Nat × Value) → List Value → gH → Option (Option Value × gH)
  | 0, _, _, _, _, _, _ => none
  | n + 1, d, M, pc, loc, st, h => match (mt M).2 pc with
    | none => none
    | some (I, r) => match g_step t tb lg df (mt M).1.2.2.1 I r pc loc st h with
      | some (pc', loc', st', h') => g_exec t tb lg df mt n d M pc' loc' st' h'
      | none => match g_ret (mt M).1.2.2.2 I st with
        | some v => some (v, h)
        | none => match g_inv tb.length mt I r st h, d with
          | some (M', as, rest), d' + 1 => match g_exec t tb lg df mt n d' M' 0 (lv_args 0 as) [] h with
            | some (v, h1) => g_exec t tb lg df mt n (d' + 1) M (pc + 3) loc (v.toList ++ rest) h1
            | none => none
          | _, _ => none
theorem g_push_mono {lg : Nat → Nat} {h h' : gH} {n k : Nat} {e : gE} (hp : g_push lg h n e = some (k, h')) : h.1.1 ≤ h'.1.1 ∧ h.1.2 ≤ h'.1.2 := by
  unfold g_push at hp
  split at hp
  · cases hp; exact ⟨Nat.le_succ _, Nat.le_add_right _ _⟩
  · cases hp
theorem g_new_mono {lg : Nat → Nat} {df : Nat → List Value} {I : Instr} {r : List Nat} {st st' : List Value} {h h' : gH} (hS : g_new lg df I r st h = some (st', h')) : h.1.1 ≤ h'.1.1 ∧ h.1.2 ≤ h'.1.2 := by
  have key : ∀ {n : Nat} {e : gE} {q : List Value}, (g_push lg h n e).map (fun z => ((Value.ref z.1 :: q : List Value), z.2)) = some (st', h') → h.1.1 ≤ h'.1.1 ∧ h.1.2 ≤ h'.1.2 := by
    intro n e q hq
    cases hp : g_push lg h n e with
    | none => rw [hp] at hq; cases hq
    | some z => rw [hp] at hq; cases hq; exact g_push_mono hp
  unfold g_new at hS
  split at hS
  · split at hS
    · exact key hS
    · cases hS
  · split at hS
    · split at hS
      · cases hS
      · exact key hS
    · split at hS
      · cases hS
      · exact key hS
    · split at hS
      · cases hS
      · exact key hS
    · split at hS
      · cases hS
      · exact key hS
    · cases hS
  · split at hS
    · split at hS
      · cases hS
      · exact key hS
    · cases hS
  · cases hS
end
section
/-! no cell goes -/
set_option maxHeartbeats 4000000 in
theorem g_mem_cnt {t : gT} {I : Instr} {r : List Nat} {st st' : List Value} {h h' : gH} (hS : g_mem t I r st h = some (st', h')) : h'.1 = h.1 := by
  unfold g_mem at hS
  repeat' split at hS
  all_goals first
    | (cases hS <;> rfl)
    | (obtain ⟨v, hv, e⟩ := Option.map_eq_some_iff.mp hS; cases e; rfl)
theorem g_nat_cnt {I : Instr} {r : List Nat} {st st' : List Value} {h h' : gH} (hS : g_nat I r st h = some (st', h')) : h'.1 = h.1 := by
  unfold g_nat at hS
  repeat' split at hS
  all_goals first
    | (cases hS <;> rfl)
theorem g_step_mono {t : gT} {tb : List (List Int32)} {lg : Nat → Nat} {df : Nat → List Value} {nL : Nat} {I : Instr} {r : List Nat} {pc pc' : Nat} {loc loc' : List (Nat × Value)} {st st' : List Value} {h h' : gH} (hS : g_step t tb lg df nL I r pc loc st h = some (pc', loc', st', h')) : h.1.1 ≤ h'.1.1 ∧ h.1.2 ≤ h'.1.2 := by
  unfold g_step at hS
  split at hS
  · cases hS; exact ⟨Nat.le_refl _, Nat.le_refl _⟩
  · split at hS
    · cases hS; exact ⟨Nat.le_refl _, Nat.le_refl _⟩
    · split at hS
      · cases hS; exact ⟨Nat.le_refl _, Nat.le_refl _⟩
      · split at hS
        next hm => cases hS; rw [g_mem_cnt hm]; exact ⟨Nat.le_refl _, Nat.le_refl _⟩
        · split at hS
          next hm => cases hS; exact g_new_mono hm
          · split at hS
            · cases hS; exact ⟨Nat.le_refl _, Nat.le_refl _⟩
            · split at hS
              next hm => cases hS; rw [g_nat_cnt hm]; exact ⟨Nat.le_refl _, Nat.le_refl _⟩
              · cases hS
theorem g_exec_mono {t : gT} {tb : List (List Int32)} {lg : Nat → Nat} {df : Nat → List Value} {mt : Nat → gM} : ∀ (n d M pc : Nat) (loc : List (Nat × Value)) (st : List Value) (h : gH) (v : Option Value) (h' : gH), g_exec t tb lg df mt n d M pc loc st h = some (v, h') → h.1.1 ≤ h'.1.1 ∧ h.1.2 ≤ h'.1.2 := by
  intro n
  induction n with
  | zero => intro d M pc loc st h v h' he; cases he
  | succ n ih =>
    intro d M pc loc st h v h' he
    unfold g_exec at he
    split at he
    · cases he
    · split at he
      next hs =>
        have h1 := g_step_mono hs
        have h2 := ih _ _ _ _ _ _ _ _ he
        omega
      · split at he
        · cases he; exact ⟨Nat.le_refl _, Nat.le_refl _⟩
        · split at he
          · split at he
            next hc =>
              have h1 := ih _ _ _ _ _ _ _ _ hc
              have h2 := ih _ _ _ _ _ _ _ _ he
              omega
            · cases he
          · cases he
/-- more fuel: the same -/
theorem g_exec_more {t : gT} {tb : List (List Int32)} {lg : Nat → Nat} {df : Nat → List Value} {mt : Nat → gM} : ∀ (n k d M pc : Nat) (loc : List (Nat × Value)) (st : List Value) (h : gH) (z : Option Value × gH), n ≤ k → g_exec t tb lg df mt n d M pc loc st h = some z → g_exec t tb lg df mt k d M pc loc st h = some z := by
  intro n
  induction n with
  | zero => intro k d M pc loc st h z _ he; cases he
  | succ n ih =>
    intro k d M pc loc st h z hk he
    obtain ⟨k, rfl⟩ : ∃ k', k = k' + 1 := ⟨k - 1, by omega⟩
    have hk : n ≤ k := by omega
    unfold g_exec at he ⊢
    split at he
    · cases he
    next I r hI =>
      try rw [hI]
      try dsimp only
      split at he
      next hs =>
        try rw [hs]
        try dsimp only
        exact ih _ _ _ _ _ _ _ _ hk he
      next hs =>
        try rw [hs]
        try dsimp only
        split at he
        next hr => (try rw [hr]); exact he
        next hr =>
          try rw [hr]
          try dsimp only
          split at he
          next hi =>
            try rw [hi]
            try dsimp only
            split at he
            next hc =>
              rw [ih _ _ _ _ _ _ _ _ hk hc]
              dsimp only
              exact ih _ _ _ _ _ _ _ _ hk he
            · cases he
          · cases he
end
section
/-! natives -/
section GC
variable {p : Program} {l : Launch} {e : Env} {R : Room} {s : State} {m : MethodId} {args : Array Value} {below : List Frame} {meth : Method} {c : Code} {H : Heap} {locs : List Loc} {cells slots : Nat} {Q : State → Prop}
variable {cc : ByteArray} {pc : Nat} {ls : Array Slot} {D : va_G} {cl : List vw_C} {cA : Nat → ClassId} {C4 : String} {fl lg cst : Nat → Nat} {H0 : Heap} {Ts : List Cond} {own : String} {rest : List Value}
/-- System.arraycopy between rows of ints: where it was written, how large the heap is -/
theorem g_copy (hx : p.tables.exec = Jvm.exec) (hb : c.code = cc) (hml : c.maxLocals = ls.size) {index : Nat} (hown : s.vm.findClass own = some m.cls) (hlink : (Cond.methodLink own index arraycopyName).before args s = true) (hnat : (Cond.native arraycopyName).before args s = true) (hstat : (Cond.static arraycopyName).before args s = true) (hini : (Cond.initialized "java/lang/System").before args s = true)
    {a0 a : Nat} {c0 : ClassId} {n0 n1 : Nat} {f g : Nat → Int32} (hK : ArrOfT s c0 .int) (hc0 : H[a0]? = some (vp_cell c0 (n0, .inl f))) (hc1 : H[a]? = some (vp_cell c0 (n1, .inl g)))
    {sp dp n : Int32} (h1 : ¬ sp < 0) (h2 : ¬ dp < 0) (h3 : ¬ n < 0) (h4 : sp.toNatClampNeg + n.toNatClampNeg ≤ n0) (h5 : dp.toNatClampNeg + n.toNatClampNeg ≤ n1)
    (hframes : 1 ≤ R.frames) (hlocals : (rest.map fun v => v.category).sum + (nativeFrameWords "java/lang/System" "arraycopy" 5 + 11) ≤ R.locals) (hdg : decode cc pc = .ok (.invokestatic index, 3))
    (kk : ∀ (H1 : Heap) (locs1 : List Loc), H1[a]? = some (vp_cell c0 (n1, .inl (va_cpy f g sp.toNatClampNeg dp.toNatClampNeg n.toNatClampNeg))) → H1.size = H.size → (∀ q, q ≠ a → H1[q]? = H[q]?) → (∀ q ∈ locs1, q ∈ locs ∨ q.base = a) → W p l e R s m args below meth c H1 locs1 cells slots Q (F0 m (pc + 3) ls rest)) :
    W p l e R s m args below meth c H locs cells slots Q (F0 m pc ls (.int n :: .int dp :: .ref a :: .int sp :: .ref a0 :: rest)) := by
  have nn : ∀ z : Int32, ¬ z < 0 → z.toInt = (z.toNatClampNeg : Int) := by
    intro z hz
    have hz0 : (0 : Int) ≤ z.toInt := by
      have := Int32.not_lt.mp hz
      simpa using Int32.le_iff_toInt_le.mp this
    show z.toInt = ((z.toInt.toNat : Nat) : Int)
    omega
  intro T hT X
  obtain ⟨-, k0, hk0, cm0, hkk0⟩ := hK n0 (fun j => .int (f j))
  obtain ⟨-, k1, hk1, cm1, hkk1⟩ := hK n1 (fun j => .int (g j))
  obtain ⟨vm', X', step⟩ := X.arraycopy hx hown hlink hnat hstat hini (src := a0) (dst := a) (cs := vp_cell c0 (n0, .inl f)) (cd := vp_cell c0 (n1, .inl g)) (srcPos := sp) (destPos := dp) (n := n) (by rw [hT]; exact hc0) (by rw [hT]; exact hc1)
    (fun _ h => by cases h) (fun _ h => by cases h) (fun h => by cases h) (fun h => by cases h) hk0 hk1 hkk0 hkk1 (by simp [refKind]) h1 h2 h3
    (by rw [nn sp h1, nn n h3]; show ¬ _ > ((arrV c0 n0 (fun j => .int (f j))).slots.size : Int); rw [arrV_size]; omega)
    (by rw [nn dp h2, nn n h3]; show ¬ _ > ((arrV c0 n1 (fun j => .int (g j))).slots.size : Int); rw [arrV_size]; omega)
    (fun vm₁ _ i hi => by
      have e : (vp_cell c0 (n0, .inl f)).slots.getD (sp.toNatClampNeg + i) .null = .int (f (sp.toNatClampNeg + i)) := by
        show (arrV c0 n0 (fun j => .int (f j))).slots.getD _ _ = _
        rw [Array.getD_eq_getD_getElem?, arrV_read _ _ (by omega)]
        rfl
      refine ⟨?_, ?_⟩
      · rw [e]
        rfl
      · rw [e]
        exact trivial)
    (g := F0 m pc ls (.int n :: .int dp :: .ref a :: .int sp :: .ref a0 :: rest)) rfl (by rw [hml]) (rest := rest) rfl (by rw [hb]; exact hdg) hframes (by show 2 * 0 + _ + _ ≤ _; omega)
  have e1 : copied (vp_cell c0 (n0, .inl f)) (vp_cell c0 (n1, .inl g)) sp dp n = vp_cell c0 (n1, .inl (va_cpy f g sp.toNatClampNeg dp.toNatClampNeg n.toNatClampNeg)) := va_copied (fun z => .int z) c0 c0 f g h4
  rw [e1] at X' step
  have hl : a < H.size := (Array.getElem?_eq_some_iff.mp hc1).1
  have hheap : ((T.setVm vm').setCell a (vp_cell c0 (n1, .inl (va_cpy f g sp.toNatClampNeg dp.toNatClampNeg n.toNatClampNeg)))).heap = H.setIfInBounds a (vp_cell c0 (n1, .inl (va_cpy f g sp.toNatClampNeg dp.toNatClampNeg n.toNatClampNeg))) := by rw [← hT]; rfl
  obtain ⟨t, a1, b1⟩ := kk _ _ (by simp [Array.getElem?_setIfInBounds, hl]) (by simp) (fun q hq => by simp [Array.getElem?_setIfInBounds, Ne.symm hq]) (fun q hq => by
      rcases List.mem_append.mp hq with h | h
      · exact Or.inl h
      · obtain ⟨z, -, hz⟩ := List.mem_map.mp h
        rw [← hz]
        exact Or.inr rfl) _ hheap X'
  exact ⟨t, step t a1, b1⟩
theorem g_sum_sh (ad cst : Nat → Nat) (st : List Value) : ((st.map (g_sh ad cst)).map fun v => v.category).sum = g_sum st := by
  unfold g_sum
  rw [List.map_map]
  congr 1
  apply List.map_congr_left
  intro v _
  exact g_sh_cat ad cst v
theorem g_nat_ok (hx : p.tables.exec = Jvm.exec) (hb : c.code = cc) (hml : c.maxLocals = ls.size) (hts : ∀ w ∈ Ts, w.before args s = true) (hown : s.vm.findClass own = some m.cls) (hK : va_K D cl (g_tys cA C4) s)
    {I : Instr} {r : List Nat} {st st' : List Value} {h h' : gH} {len : Nat} (hS : g_nat I r st h = some (st', h')) (hd : decode cc pc = .ok (I, len)) (hl : len = g_len I) (hok : g_natok Ts own I r)
    (hH : g_HH D cl (g_tys cA C4) fl lg cst H0 h H) (hlo : ∀ q ∈ locs, H0.size ≤ q.base) (hfr : 1 ≤ R.frames) (hro : 64 ≤ R.locals)
    (kk : ∀ (H' : Heap) (locs' : List Loc), h'.1 = h.1 → g_HH D cl (g_tys cA C4) fl lg cst H0 h' H' → (∀ q ∈ locs', H0.size ≤ q.base) → W p l e R s m args below meth c H' locs' cells slots Q (F0 m (pc + 3) ls (st'.map (g_sh (fun j => H0.size + fl j) cst)))) :
    W p l e R s m args below meth c H locs cells slots Q (F0 m pc ls (st.map (g_sh (fun j => H0.size + fl j) cst))) := by
  subst hl
  unfold g_nat at hS
  split at hS
  · split at hS
    next a q =>
      split at hS
      next hq =>
        cases hS
        exact W.objInit hx hb hown (hts _ hok.1) (hts _ hok.2.1) (hts _ hok.2.2) rfl (by rw [hml]) rfl hd hfr (by rw [g_sum_sh]; show 2 * 0 + _ + _ ≤ _; omega) (kk H locs rfl hH hlo)
      next => cases hS
    next => cases hS
  · split at hS
    next n dp a sp a0 q =>
      split at hS
      next n0 f n1 g hg0 hg1 =>
        split at hS
        · cases hS
        next hc =>
          cases hS
          have c1 : ¬ sp < 0 := fun z => hc (Or.inl z)
          have c2 : ¬ dp < 0 := fun z => hc (Or.inr (Or.inl z))
          have c3 : ¬ n < 0 := fun z => hc (Or.inr (Or.inr (Or.inl z)))
          have c4 : sp.toNatClampNeg + n.toNatClampNeg ≤ n0 := Nat.not_lt.mp fun z => hc (Or.inr (Or.inr (Or.inr (Or.inl z))))
          have c5 : dp.toNatClampNeg + n.toNatClampNeg ≤ n1 := Nat.not_lt.mp fun z => hc (Or.inr (Or.inr (Or.inr (Or.inr (Or.inl z)))))
          have c6 : g_sum st' ≤ 8 := Nat.not_lt.mp fun z => hc (Or.inr (Or.inr (Or.inr (Or.inr (Or.inr z)))))
          refine g_copy hx hb hml hown (hts _ hok.1) (hts _ hok.2.1) (hts _ hok.2.2.1) (hts _ hok.2.2.2) (hK.2 0 _ rfl).1 (hH.2.2 a0 _ hg0).2.2 (hH.2.2 a _ hg1).2.2 c1 c2 c3 c4 c5 hfr (by rw [g_sum_sh, show nativeFrameWords "java/lang/System" "arraycopy" 5 = 7 by decide]; omega) hd fun H1 locs1 e1 z oq hl1 => kk H1 locs1 rfl (hH.put hg1 z oq (g_arr_at e1)) (fun q hq => ?_)
          rcases hl1 q hq with h9 | h9
          · exact hlo q h9
          · rw [h9]; exact Nat.le_add_right _ _
      next => cases hS
    next => cases hS
  · cases hS
end GC
end
section
/-! WHAT THE LOGICAL MACHINE ANSWERS, THE MACHINE DOES -/
/-- all that an instruction of a method must keep -/
def g_IOK (cl : List vw_C) (Ts : List Cond) (C4 host : String) (tn : Nat → String × Nat × String) (mt : Nat → gM) (M pc : Nat) (I : Instr) (r : List Nat) : Prop :=
  (∃ len, decode (mt M).1.2.1 pc = .ok (I, len) ∧ (g_len I = 0 ∨ len = g_len I)) ∧ g_brok pc I r = true ∧ g_memok cl Ts (mt M).1.1.cls (mt M).1.1.name I r ∧ g_newok cl Ts C4 (mt M).1.1.cls I r ∧ g_txtok tn Ts (mt M).1.1.cls I r ∧ g_natok Ts (mt M).1.1.cls I r ∧ g_invok cl Ts mt host (mt M).1.1.cls I r
/-- the program keeps the tables -/
def g_OK (cl : List vw_C) (t : gT) (Ts : List Cond) (C4 host : String) (df : Nat → List Value) (tn : Nat → String × Nat × String) (fl lg : Nat → Nat) (mt : Nat → gM) : Prop :=
  g_CL cl t Ts C4 ∧ g_DF cl t df ∧ (∀ i, fl (lg i) = i) ∧ (∀ w ∈ Ts, goodWord w = true) ∧ ∀ (M pc : Nat) (I : Instr) (r : List Nat), (mt M).2 pc = some (I, r) → g_IOK cl Ts C4 host tn mt M pc I r
/-- what holds of the tables at a state -/
def g_KK (D : va_G) (cl : List vw_C) (cA : Nat → ClassId) (C4 : String) (t : gT) (tb : List (List Int32)) (tn : Nat → String × Nat × String) (cst : Nat → Nat) (H0 : Heap) (U : State) : Prop :=
  va_K D cl (g_tys cA C4) U ∧ va_X (cst 0) t.2.2.2 t.2.2.1 U H0 ∧ g_TX tb tn cst H0 U
theorem g_KK.warm {D : va_G} {cl : List vw_C} {cA : Nat → ClassId} {C4 : String} {t : gT} {tb : List (List Int32)} {tn : Nat → String × Nat × String} {cst : Nat → Nat} {H0 : Heap} {s U : State} (hW : s.WarmedH U.vm) (h : g_KK D cl cA C4 t tb tn cst H0 s) : g_KK D cl cA C4 t tb tn cst H0 U :=
  ⟨h.1.moved hW.alike, h.2.1.moved hW.alike, h.2.2.warm hW⟩
theorem g_KK.same {D : va_G} {cl : List vw_C} {cA : Nat → ClassId} {C4 : String} {t : gT} {tb : List (List Int32)} {tn : Nat → String × Nat × String} {cst : Nat → Nat} {H0 : Heap} {s U : State} (hv : U.vm = s.vm) (h : g_KK D cl cA C4 t tb tn cst H0 s) : g_KK D cl cA C4 t tb tn cst H0 U :=
  ⟨h.1.moved (by rw [hv]; exact Vm.Alike.refl _), h.2.1.moved (by rw [hv]; exact Vm.Alike.refl _), h.2.2.same hv⟩
theorem g_args_sh (ad cst : Nat → Nat) : ∀ (as : List Value) (i : Nat), lv_args i (as.map (g_sh ad cst)) = g_shl ad cst (lv_args i as) := by
  intro as
  induction as with
  | nil => intro i; rfl
  | cons v as ih =>
    intro i
    show (i, g_sh ad cst v) :: lv_args (if (g_sh ad cst v).category = 2 then i + 2 else i + 1) (as.map (g_sh ad cst)) = (i, g_sh ad cst v) :: g_shl ad cst (lv_args (if v.category = 2 then i + 2 else i + 1) as)
    rw [g_sh_cat, ih]
theorem g_sl_sh (ad cst : Nat → Nat) (as : List Value) : (lg_sl (as.map (g_sh ad cst))).length = (lg_sl as).length := by
  induction as with
  | nil => rfl
  | cons v as ih =>
    unfold lg_sl at ih ⊢
    rw [List.map_cons, List.flatMap_cons, List.flatMap_cons, List.length_append, List.length_append, ih, g_sh_cat]
    by_cases hv : v.category = 2 <;> simp [hv]
section GA
variable {p : Program} {l : Launch} {e : Env} {R : Room} {s : State} {m : MethodId} {args : Array Value} {below : List Frame} {meth : Method} {c : Code} {H : Heap} {locs : List Loc} {cells slots : Nat} {Q : State → Prop}
variable {pc : Nat} {ls : Array Slot}
theorem g_after {mc ms : Nat} {Qa : State → Outcome → State → Prop} {free : Addr → Prop} {st0 rest : List Value} (hr : va_Run p l e R s m args below meth c H locs cells slots mc ms (F0 m pc ls st0) rest Qa free)
    (kk : ∀ (v : Option Value) (st₀ t : State) (locs1 : List Loc), Qa st₀ (.returned v) t → (∀ q ∈ locs1, q ∈ locs ∨ free q.base) → W p l e R s m args below meth c t.heap locs1 (cells + mc) (slots + ms) Q (F0 m (pc + 3) ls (v.toList ++ rest))) : W p l e R s m args below meth c H locs cells slots Q (F0 m pc ls st0) := by
  intro T hT X
  obtain ⟨v, st₀, t, T', L, h0, X', hL, e1, e2, hq, st⟩ := hr T hT X
  obtain ⟨t2, a1, b1⟩ := kk v st₀ t (locs ++ L) hq (fun q hq => (List.mem_append.mp hq).elim Or.inl (fun h => Or.inr (hL q h))) T' e1 X'
  exact ⟨t2, st t2 a1, b1⟩
end GA
theorem g_switch_none {I : Instr} (h : g_len I = 0) (st : List Value) (nL : Nat) (loc : List (Nat × Value)) (t : gT) (r : List Nat) (hh : gH) (lg : Nat → Nat) (df : Nat → List Value) (tb : List (List Int32)) :
    g_pure I st = none ∧ g_loc nL I loc st = none ∧ g_mem t I r st hh = none ∧ g_new lg df I r st hh = none ∧ g_txt tb I r st = none ∧ g_nat I r st hh = none := by
  unfold g_len at h
  split at h <;> first | exact ⟨rfl, rfl, rfl, rfl, rfl, rfl⟩ | cases h
end
section
section GS
variable {D : va_G} {cl : List vw_C} {cA : Nat → ClassId} {C4 host : String} {fl lg cst : Nat → Nat} {H0 : Heap} {t : gT} {Ts : List Cond} {df : Nat → List Value} {tb : List (List Int32)} {tn : Nat → String × Nat × String} {mt : Nat → gM}
/-- how a method that is called ends -/
theorem g_end {p : Program} {l : Launch} {e : Env} {R : Room} {s : State} {m : MethodId} {args : Array Value} {below : List Frame} {meth : Method} {c : Code} {v : Option Value} {h' : gH} {ret : Option FieldType} {TC TS : Nat} (hx : p.tables.exec = Jvm.exec) (hr : meth.sig.returnType = ret) (hlocks : meth.locks = false)
    {pc : Nat} {I : Instr} {len : Nat} {ls : Array Slot} {st : List Value} {H2 : Heap} {locs2 : List Loc} (hd : decode c.code pc = .ok (I, len)) (hl : g_len I = 0 ∨ len = g_len I) (hret : g_ret ret I st = some v) (hH : g_HH D cl (g_tys cA C4) fl lg cst H0 h' H2) (hlo : ∀ q ∈ locs2, H0.size ≤ q.base) :
    W p l e R s m args below meth c H2 locs2 TC TS (MQ below (fun _ _ oc t => oc = .returned (v.map (g_sh (fun j => H0.size + fl j) cst)) ∧ g_HH D cl (g_tys cA C4) fl lg cst H0 h' t.heap) args s TC TS (fun q => H0.size ≤ q)) (F0 m pc ls (st.map (g_sh (fun j => H0.size + fl j) cst))) := by
  unfold g_ret at hret
  split at hret
  · have hl : len = 1 := hl.resolve_left (fun h => by cases h)
    subst hl
    split at hret
    next ty x =>
      split at hret
      next hn =>
        cases hret
        exact W.zret hx rfl hr hn (fun t ht _ => ⟨rfl, by rw [ht]; exact hH⟩) hlo hd
      next => cases hret
    next => cases hret
  · have hl : len = 1 := hl.resolve_left (fun h => by cases h)
    subst hl
    split at hret
    next x =>
      cases hret
      exact W.lret hx rfl hr (fun t ht _ => ⟨rfl, by rw [ht]; exact hH⟩) hlo hd
    next => cases hret
  · have hl : len = 1 := hl.resolve_left (fun h => by cases h)
    subst hl
    split at hret
    next =>
      cases hret
      exact W.vret hx rfl hr (fun t ht _ => ⟨rfl, by rw [ht]; exact hH⟩) hlo hd
    next => cases hret
  · cases hret
set_option maxHeartbeats 8000000 in
theorem g_sim (G : g_OK cl t Ts C4 host df tn fl lg mt) (hbl : cst 0 < H0.size) (l : Launch) : ∀ (n d M pc : Nat) (loc : List (Nat × Value)) (st : List Value) (h : gH) (v : Option Value) (h' : gH), g_exec t tb lg df mt n d M pc loc st h = some (v, h') →
    ∀ {p : Program} {e : Env} {R : Room} {s : State} {m : MethodId} {args : Array Value} {below : List Frame} {meth : Method} {c : Code} {H : Heap} {locs : List Loc} {cells slots : Nat} {Q : State → Prop} {ls : Array Slot} (TC TS : Nat),
      p.tables.exec = Jvm.exec → c.code = (mt M).1.2.1 → c.maxLocals = (mt M).1.2.2.1 → s.vm.findClass (mt M).1.1.cls = some m.cls → meth.name = (mt M).1.1.name → (∀ w ∈ Ts, w.before args s = true) → g_KK D cl cA C4 t tb tn cst H0 s →
      g_HH D cl (g_tys cA C4) fl lg cst H0 h H → lv_has ls (mt M).1.2.2.1 (g_shl (fun j => H0.size + fl j) cst loc) → (∀ q ∈ locs, H0.size ≤ q.base) →
      d + 1 ≤ R.frames → 64 * (d + 1) ≤ R.locals → cells + h'.1.1 = TC + h.1.1 → slots + h'.1.2 = TS + h.1.2 → TC ≤ R.cells → TS ≤ R.slots →
      (∀ (pc : Nat) (I : Instr) (len : Nat) (ls : Array Slot) (st : List Value) (H2 : Heap) (locs2 : List Loc), decode c.code pc = .ok (I, len) → (g_len I = 0 ∨ len = g_len I) → g_ret (mt M).1.2.2.2 I st = some v → g_HH D cl (g_tys cA C4) fl lg cst H0 h' H2 → (∀ q ∈ locs2, H0.size ≤ q.base) → W p l e R s m args below meth c H2 locs2 TC TS Q (F0 m pc ls (st.map (g_sh (fun j => H0.size + fl j) cst)))) →
      W p l e R s m args below meth c H locs cells slots Q (F0 m pc ls (st.map (g_sh (fun j => H0.size + fl j) cst))) := by
  obtain ⟨hCL, hDF, hfl, hgood, hall⟩ := id G
  intro n
  induction n with
  | zero => intro d M pc loc st h v h' he; cases he
  | succ n ih =>
    intro d M pc loc st h v h' he p e R s m args below meth c H locs cells slots Q ls TC TS hx hb hml hown hnm hts hKK hH hl hlo hfr hro hTC hTS hRC hRS hend
    have hm0 := g_exec_mono _ _ _ _ _ _ _ _ _ he
    unfold g_exec at he
    split at he
    · cases he
    next I r hI =>
      obtain ⟨⟨len, hd, hlen⟩, hbr, hme, hne, htx, hna, hiv⟩ := hall M pc I r hI
      rw [← hnm] at hme
      split at he
      next pc' loc' st' h1 hs =>
        have hm1 := g_exec_mono _ _ _ _ _ _ _ _ _ he
        unfold g_step at hs
        split at hs
        next hp =>
          cases hs
          have hle : len = g_len I := hlen.resolve_left (fun h0 => by have := (g_switch_none h0 st 0 loc t r h lg df tb).1; rw [hp] at this; cases this)
          exact g_pure_ok hx hb hp hd hle (ih _ _ _ _ _ _ _ _ he TC TS hx hb hml hown hnm hts hKK hH hl hlo hfr hro hTC hTS hRC hRS hend)
        next =>
          split at hs
          next hp =>
            cases hs
            have hle : len = g_len I := hlen.resolve_left (fun h0 => by have := (g_switch_none h0 st (mt M).1.2.2.1 loc t r h lg df tb).2.1; rw [hp] at this; cases this)
            exact g_loc_ok hx hb hp hd hle hl (fun ls' hl' => ih _ _ _ _ _ _ _ _ he TC TS hx hb hml hown hnm hts hKK hH hl' hlo hfr hro hTC hTS hRC hRS hend)
          next =>
            split at hs
            next hp =>
              cases hs
              exact g_br_ok hx hb hp hd hlen hbr (ih _ _ _ _ _ _ _ _ he TC TS hx hb hml hown hnm hts hKK hH hl hlo hfr hro hTC hTS hRC hRS hend)
            next =>
              split at hs
              next hp =>
                cases hs
                have hle : len = g_len I := hlen.resolve_left (fun h0 => by have := (g_switch_none h0 st 0 loc t r h lg df tb).2.2.1; rw [hp] at this; cases this)
                exact g_mem_ok hx hb hts hown hKK.1 hCL hKK.2.1 hbl hp hd hle hme hH hlo (fun H' locs' hc hH' hlo' => ih _ _ _ _ _ _ _ _ he TC TS hx hb hml hown hnm hts hKK hH' hl hlo' hfr hro (by rw [hc]; exact hTC) (by rw [hc]; exact hTS) hRC hRS hend)
              next =>
                split at hs
                next hp =>
                  cases hs
                  have hle : len = g_len I := hlen.resolve_left (fun h0 => by have := (g_switch_none h0 st 0 loc t r h lg df tb).2.2.2.1; rw [hp] at this; cases this)
                  have hmn := g_new_mono hp
                  exact g_new_ok hx hb hts hown hKK.1 hCL hDF hfl hp hd hle hne hH (by omega) (by omega) (fun H' hH' => ih _ _ _ _ _ _ _ _ he TC TS hx hb hml hown hnm hts hKK hH' hl hlo hfr hro (by omega) (by omega) hRC hRS hend)
                next =>
                  split at hs
                  next hp =>
                    cases hs
                    have hle : len = g_len I := hlen.resolve_left (fun h0 => by have := (g_switch_none h0 st 0 loc t r h lg df tb).2.2.2.2.1; rw [hp] at this; cases this)
                    exact g_txt_ok hx hb hts hown hKK.2.2 hH.2.1 hp hd hle htx (ih _ _ _ _ _ _ _ _ he TC TS hx hb hml hown hnm hts hKK hH hl hlo hfr hro hTC hTS hRC hRS hend)
                  next =>
                    split at hs
                    next hp =>
                      cases hs
                      have hle : len = g_len I := hlen.resolve_left (fun h0 => by have := (g_switch_none h0 st 0 loc t r h lg df tb).2.2.2.2.2; rw [hp] at this; cases this)
                      exact g_nat_ok hx hb (by rw [hml, hl.1]) hts hown hKK.1 hp hd hle hna hH hlo (by omega) (by omega) (fun H' locs' hc hH' hlo' => ih _ _ _ _ _ _ _ _ he TC TS hx hb hml hown hnm hts hKK hH' hl hlo' hfr hro (by rw [hc]; exact hTC) (by rw [hc]; exact hTS) hRC hRS hend)
                    next => cases hs
      next hsn =>
        clear hsn
        split at he
        next v1 hret =>
          cases he
          have e1 : TC = cells := by omega
          have e2 : TS = slots := by omega
          subst e1; subst e2
          exact hend pc I len ls st H locs (by rw [hb]; exact hd) hlen hret hH hlo
        next hrn =>
          clear hrn
          split at he
          next M' as rest d' hi =>
            split at he
            next v1 h1 hc =>
              have hm1 := g_exec_mono _ _ _ _ _ _ _ _ _ hc
              have hm2 := g_exec_mono _ _ _ _ _ _ _ _ _ he
              have met : ∀ (na : Nat), g_called Ts (mt M') na → (lg_sl as).length ≤ (mt M').1.2.2.1 → Met l (mt M').1.1 (Cond.code (mt M').1.1 (mt M').1.2.1 (mt M').1.2.2.1 (mt M').1.2.2.2 :: Ts) { frames := d' + 1, cells := h1.1.1 - h.1.1, slots := h1.1.2 - h.1.2, locals := 64 * (d' + 1) }
                  (va_Pc (as.map (g_sh (fun j => H0.size + fl j) cst)) (fun U => g_KK D cl cA C4 t tb tn cst H0 U ∧ g_HH D cl (g_tys cA C4) fl lg cst H0 h U.heap)) (fun _ _ oc t => oc = .returned (v1.map (g_sh (fun j => H0.size + fl j) cst)) ∧ g_HH D cl (g_tys cA C4) fl lg cst H0 h1 t.heap) (h1.1.1 - h.1.1) (h1.1.2 - h.1.2) (fun q => H0.size ≤ q) := by
                intro na hcal hsl
                refine Met.ofW (cc := (mt M').1.2.1) (maxL := (mt M').1.2.2.1) (ret := (mt M').1.2.2.2) hcal.1 rfl ?_
                intro p e s m args below meth c s₁ B hml hv
                obtain ⟨rfl, hKK, hHH⟩ := hv
                have hts := atoms_spec (ws := Cond.code (mt M').1.1 (mt M').1.2.1 (mt M').1.2.2.1 (mt M').1.2.2.2 :: Ts) B.pre
                have hl := lv_entry (as.map (g_sh (fun j => H0.size + fl j) cst)) (n := (mt M').1.2.2.1) (by rw [g_sl_sh]; exact hsl)
                rw [lg_entry_eq]
                generalize (lg_sl (as.map (g_sh (fun j => H0.size + fl j) cst)) ++ List.replicate ((mt M').1.2.2.1 - (lg_sl (as.map (g_sh (fun j => H0.size + fl j) cst))).length) Slot.unset).toArray = ls at hl ⊢
                rw [g_args_sh] at hl
                exact ih d' M' 0 (lv_args 0 as) [] h v1 h1 hc (h1.1.1 - h.1.1) (h1.1.2 - h.1.2) B.exec B.bytes hml (findClass_of_methodNamed B.named) (name_of_methodNamed B.named B.method).1 (fun w hw => hts w (List.mem_cons_of_mem _ hw)) hKK hHH hl (fun q hq => by cases hq) (Nat.le_refl _) (Nat.le_refl _) (by omega) (by omega) (Nat.le_refl _) (Nat.le_refl _)
                  (fun pc I len ls st H2 locs2 q1 q2 q3 q4 q5 => g_end B.exec B.returns B.notSynchronized q1 q2 q3 q4 q5)
              have good : ∀ (na : Nat), g_called Ts (mt M') na → GoodIn Ts (Cond.code (mt M').1.1 (mt M').1.2.1 (mt M').1.2.2.1 (mt M').1.2.2.2 :: Ts) := by
                intro na hcal w hw
                have hw2 : w ∈ Ts := (List.mem_cons.mp hw).elim (fun e => by rw [e]; exact hcal.2.2.1) id
                exact ⟨hw2, good_of_word (hgood w hw2)⟩
              have cb : ∀ (na ix : Nat), g_called Ts (mt M') na → (Cond.methodLink (mt M).1.1.cls ix (mt M').1.1).before args s = true → CallB R s args (mt M).1.1.cls ix (mt M').1.1 (mt M').1.2.1 (mt M').1.2.2.1 (mt M').1.2.2.2 (Cond.code (mt M').1.1 (mt M').1.2.1 (mt M').1.2.2.1 (mt M').1.2.2.2 :: Ts) { frames := d' + 1, cells := h1.1.1 - h.1.1, slots := h1.1.2 - h.1.2, locals := 64 * (d' + 1) } (h1.1.1 - h.1.1) (h1.1.2 - h.1.2) na := by
                intro na ix hcal hlk
                have h45 := hcal.2.1
                exact callB_of na hts (good na hcal) rfl rfl rfl (hts _ hcal.2.2.2.1) hlk hcal.2.2.2.2 ⟨hfr, by show 8 + ((mt M').1.2.2.1 + 11) + 64 * (d' + 1) ≤ R.locals; omega⟩
              have pre : ∀ U : State, U.heap = H → s.WarmedH U.vm → va_Pc (as.map (g_sh (fun j => H0.size + fl j) cst)) (fun U => g_KK D cl cA C4 t tb tn cst H0 U ∧ g_HH D cl (g_tys cA C4) fl lg cst H0 h U.heap) (as.map (g_sh (fun j => H0.size + fl j) cst)).toArray U :=
                fun U hU hW => ⟨rfl, hKK.warm hW, by rw [hU]; exact hH⟩
              have blind : FrameBlind (va_Pc (as.map (g_sh (fun j => H0.size + fl j) cst)) (fun U => g_KK D cl cA C4 t tb tn cst H0 U ∧ g_HH D cl (g_tys cA C4) fl lg cst H0 h U.heap)) :=
                fun a U g mk q => ⟨q.1, q.2.1.same rfl, q.2.2⟩
              have fin : ∀ {st0 : List Value}, va_Run p l e R s m args below meth c H locs cells slots (h1.1.1 - h.1.1) (h1.1.2 - h.1.2) (F0 m pc ls st0) (rest.map (g_sh (fun j => H0.size + fl j) cst)) (fun (_ : State) (oc : Outcome) (t : State) => oc = .returned (v1.map (g_sh (fun j => H0.size + fl j) cst)) ∧ g_HH D cl (g_tys cA C4) fl lg cst H0 h1 t.heap) (fun q => H0.size ≤ q) →
                  W p l e R s m args below meth c H locs cells slots Q (F0 m pc ls st0) := by
                intro st0 hrun
                refine g_after hrun fun v0 st₀ tt locs1 hq hlo1 => ?_
                obtain ⟨hv0, hH1⟩ := hq
                cases hv0
                have h9 := ih _ _ _ _ _ _ _ _ he (p := p) (e := e) (R := R) (s := s) (m := m) (args := args) (below := below) (meth := meth) (c := c) (H := tt.heap) (locs := locs1) (cells := cells + (h1.1.1 - h.1.1)) (slots := slots + (h1.1.2 - h.1.2)) (Q := Q) (ls := ls) TC TS hx hb hml hown hnm hts hKK hH1 hl (fun q hq => (hlo1 q hq).elim (hlo q) id) hfr hro (by omega) (by omega) hRC hRS hend
                rw [List.map_append] at h9
                cases v1 <;> exact h9
              have sumr : g_sum rest ≤ 8 → 2 * (F0 m pc ls (st.map (g_sh (fun j => H0.size + fl j) cst))).monitorRoom + ((rest.map (g_sh (fun j => H0.size + fl j) cst)).map fun v => v.category).sum ≤ 8 := by
                intro hs8
                rw [g_sum_sh]
                show 2 * 0 + _ ≤ _
                omega
              have room : cells + (h1.1.1 - h.1.1) ≤ R.cells ∧ slots + (h1.1.2 - h.1.2) ≤ R.slots := ⟨by omega, by omega⟩
              have stk : ∀ (na : Nat) (ws : List Value), st.drop na = ws → st.map (g_sh (fun j => H0.size + fl j) cst) = (((st.take na).reverse).map (g_sh (fun j => H0.size + fl j) cst)).reverse ++ ws.map (g_sh (fun j => H0.size + fl j) cst) := by
                intro na ws hws
                rw [← List.map_reverse, List.reverse_reverse, ← hws, ← List.map_append, List.take_append_drop]
              have lenA : ∀ (na : Nat), na ≤ st.length → (((st.take na).reverse).map (g_sh (fun j => H0.size + fl j) cst)).length = na := by
                intro na hna
                rw [List.length_map, List.length_reverse, List.length_take]
                omega
              unfold g_inv at hi
              split at hi
              next ix =>
                have hle : len = 3 := hlen.resolve_left (fun h => by cases h)
                subst hle
                split at hi
                next M2 na =>
                  split at hi
                  next hc2 =>
                    cases hi
                    exact fin (va_runS (As := ((st.take na).reverse).map (g_sh (fun j => H0.size + fl j) cst)) ⟨hx, hb, hml, hown, hts⟩ (met na hiv.1 hc2.2.2) ⟨cb na ix hiv.1 (hts _ hiv.2.1), hts _ hiv.2.2⟩ ⟨blind, pre⟩ rfl (lenA na hc2.1) hl.1 (stk na _ rfl) (sumr hc2.2.1) hd room)
                  next => cases hi
                next => cases hi
              next ix =>
                have hle : len = 3 := hlen.resolve_left (fun h => by cases h)
                subst hle
                split at hi
                next M2 na ci =>
                  split at hi
                  next b q hdr =>
                    split at hi
                    next ci' fs hg =>
                      split at hi
                      next hc2 =>
                        cases hi
                        obtain ⟨rfl, hc3, hc4, hc5⟩ := hc2
                        obtain ⟨i1, i2, i3, i4, qq, i5, i6⟩ := hiv
                        have hrec := va_recv hKK.1 (hH.at hg) i5 (ci := ci') (q0 := 0) rfl
                        rw [i6] at hrec
                        exact fin (va_runV (C := (mt M').1.1.cls) (b := H0.size + fl b) (As := ((st.take na).reverse).map (g_sh (fun j => H0.size + fl j) cst)) ⟨hx, hb, hml, hown, hts⟩ (met na i1 hc5) ⟨cb na ix i1 (hts _ i2), hts _ i3, hts _ i4⟩ ⟨blind, hrec, pre⟩ rfl (lenA na hc3) hl.1 (stk na _ hdr) (sumr hc4) hd room)
                      next => cases hi
                    next => cases hi
                  next => cases hi
                next M2 na =>
                  split at hi
                  next j q hdr =>
                    split at hi
                    next hc2 =>
                      cases hi
                      obtain ⟨j1, j2, hc3, hc4, hc5⟩ := hc2
                      obtain ⟨i1, i2, i3, i4, i5⟩ := hiv
                      obtain ⟨cell, k1, k2, k3, k4⟩ := (hKK.2.2.2.1.1 (j.toNat - 1) (by omega)).1
                      have e0 : j.toNat - 1 + 1 = j.toNat := by omega
                      simp only [e0] at k1 k4
                      have hrec : ∃ cellB : Cell, H[cst j.toNat]? = some cellB ∧ cellB.vm.isStatics = false ∧ s.vm.findClass (mt M').1.1.cls = some cellB.cls := ⟨cell, by rw [hH.2.1 _ (Nat.not_le.mp k4)]; exact k1, k2, by rw [i5]; exact k3⟩
                      exact fin (va_runV (C := (mt M').1.1.cls) (b := cst j.toNat) (As := ((st.take na).reverse).map (g_sh (fun j => H0.size + fl j) cst)) ⟨hx, hb, hml, hown, hts⟩ (met na i1 hc5) ⟨cb na ix i1 (hts _ i2), hts _ i3, hts _ i4⟩ ⟨blind, hrec, pre⟩ rfl (lenA na hc3) hl.1 (stk na _ hdr) (sumr hc4) hd room)
                    next => cases hi
                  next => cases hi
                next => cases hi
              next ix =>
                have hle : len = 3 := hlen.resolve_left (fun h => by cases h)
                subst hle
                split at hi
                next M2 na =>
                  split at hi
                  next b q hdr =>
                    split at hi
                    next hc2 =>
                      cases hi
                      obtain ⟨hc3, hc4, hc5⟩ := hc2
                      obtain ⟨i1, i2, i3, i4, i5⟩ := hiv
                      have hcb := cb na ix i1 (hts _ i2)
                      have hmet := met na i1 hc5
                      rw [i5] at hcb hmet
                      exact fin (va_runI (b := H0.size + fl b) (As := ((st.take na).reverse).map (g_sh (fun j => H0.size + fl j) cst)) ⟨hx, hb, hml, hown, hts⟩ hmet ⟨hcb, i4, hts _ i3⟩ ⟨blind, pre⟩ rfl (lenA na hc3) hl.1 (stk na _ hdr) (sumr hc4) hd room)
                    next => cases hi
                  next => cases hi
                next M2 na =>
                  split at hi
                  next b q hdr =>
                    split at hi
                    next hc2 =>
                      cases hi
                      obtain ⟨hc3, hc4, hc5⟩ := hc2
                      obtain ⟨i1, i2, i3, i4, i5⟩ := hiv
                      have hmet := met na i1 hc5
                      have hgd := good na i1
                      have hcode := hts _ i1.2.2.1
                      rw [i5] at hmet hgd hcode
                      have h45 := i1.2.1
                      exact fin (va_runIN (b := H0.size + fl b) (host := host) (As := ((st.take na).reverse).map (g_sh (fun j => H0.size + fl j) cst)) ⟨hx, hb, hml, hown, hts⟩ hmet
                        ⟨⟨⟨rfl, rfl, hfr, by show 8 + ((mt M').1.2.2.1 + 11) + 64 * (d' + 1) ≤ R.locals; omega, pay_in hts hgd, List.mem_cons_self⟩, hcode, hts _ i1.2.2.2.1, ⟨i1.2.2.2.2.1, i1.2.2.2.2.2.1⟩, fun sig hsig => by have h2 := i1.2.2.2.2.2.2; rw [hsig] at h2; exact (Option.some.inj h2).symm, hts _ i2⟩, i4, hts _ i3⟩ ⟨blind, pre⟩ rfl (lenA na hc3) hl.1 (stk na _ hdr) (sumr hc4) hd room)
                    next => cases hi
                  next => cases hi
                next => cases hi
              next => cases hi
            next => cases he
          next => cases he
end GS
end
