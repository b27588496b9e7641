/-! from the law's entry (the rows up to lw_At are the skeleton's, with the method's name beside them) -/
def R_law : String := "SleepWorkLaw"
def lw_P (b : Addr) (xs : List Int32) (args : Array Value) (s : State) : Prop := args = #[.ref b] ∧ s.IntsAt b xs ∧ xs.length ≤ 3072 ∧ (Jvm.Cond.and given_1 narrow_1).before args s = true
def lw_Q (_ : Array Value) (s : State) (o : Outcome) (t : State) : Prop := o = .returned (some (.int 1)) ∧ Framed s o t [] 600000 7302250
def lw_Z (below : List Frame) (a : Array Value) (s : State) : State → Prop := fun t => ∃ o, t.status = .running ∧ Ended t below o ∧ lw_Q a s o t
/-- the law's own end, with 1 on the stack, nothing written that was there before, its room as the claim has it -/
theorem lw_ret {p : Program} {l : Launch} {e : Env} {s : State} {m : MethodId} {below : List Frame} {meth : Method} {c : Code} {b : Nat} (hx : p.tables.exec = Jvm.exec) (hb : c.code = code) (hr : meth.sig.returnType = ret) (hlocks : meth.locks = false) {pc : Nat} {H : Heap} {ls : Array Slot} (hdg : decode code pc = .ok (.ireturn, 1)) : W p l e room_1 s m #[Value.ref b] below meth c H [] 600000 7302250 (lw_Z below #[Value.ref b] s) (F0 m pc ls [.int 1]) := by
  intro T hT X
  obtain ⟨fs, hret, hrun, hended, hW, hframe⟩ := X.leave (v := some (.int 1)) (hlocks := hlocks) (fun h => by rw [hr] at h; cases h)
  have hmeth' : T.vm.method? m = some meth := X.method'
  refine ⟨T.setFrames fs, ?_, .returned (some (.int 1)), hrun, hended, rfl, ⟨_, rfl⟩, hW, hframe⟩
  jvm_step X.here [X.here.top, hx, hb, hdg, hmeth', hr, ret, narrow_b1]
  (try refine ⟨rfl, ?_⟩); (try refine ⟨rfl, ?_⟩)
  first | (intro acts; rw [hret _ acts rfl rfl rfl]) | rw [hret _ _ rfl rfl rfl]
  exact Steps.refl _
/-- what holds at the law's entry: the machine, the code, the tables' words (any of lw_tbl by 'hts w (by decide +kernel)'), the script of L ints xs at the cell b, what the Statement gives of the start (any of its parts by flat_of_before) -/
def lw_At (p : Program) (s : State) (m : MethodId) (meth : Method) (c : Code) (b L : Nat) (xs : Nat → Int32) : Prop :=
  p.tables.exec = Jvm.exec ∧ c.code = code ∧ meth.sig.returnType = ret ∧ c.maxLocals = 4 ∧ s.vm.findClass R_law = some m.cls ∧ (∀ w ∈ lw_tbl, w.before #[Value.ref b] s = true) ∧ va_X b L xs s s.heap ∧ b < s.heap.size ∧ meth.locks = false ∧ meth.name = "law" ∧ (Jvm.Cond.and given_1 narrow_1).before #[Value.ref b] s = true
def k_LAW : Nat := 271
theorem k_inst : ∀ w ∈ k_cl.map (fun q => Cond.instantiable q.1 q.2.2), w ∈ lw_gd := k_bulk [306, 156, 162, 119, 421, 427, 314, 49, 32, 139, 320, 24, 1167] (by decide +kernel)
theorem k_tblOf {w : Cond} (h : w ∈ lw_gd) : w ∈ lw_tbl := (List.mem_filter.mp h).1
theorem k_in_tab {i : Nat} {w : Cond} (h : tables_1[i]? = some w) : w ∈ lw_tbl := List.mem_append_right _ (List.mem_of_getElem? h)
theorem k_known {s : State} {args : Array Value} (hts : ∀ w ∈ lw_tbl, w.before args s = true) : ∃ D : va_G, ∀ (ci : Nat) (q : vw_C), k_cl[ci]? = some q → u_Kn s q.1 q.2.1 q.2.2 (D.1 ci) (D.2 ci) := by
  have h : ∀ ci : Nat, ∃ z : ClassId × (Nat → Nat), ∀ q : vw_C, k_cl[ci]? = some q → u_Kn s q.1 q.2.1 q.2.2 z.1 z.2 := by
    intro ci
    cases hq : k_cl[ci]? with
    | none => exact ⟨(0, fun _ => 0), fun q h => by cases h⟩
    | some q =>
      obtain ⟨cC, iS, hK⟩ := u_known (C := q.1) (T := q.2.1) (N := q.2.2) (n := q.2.2) hts (fun w hw => k_tblOf (((k_CL (fun _ => 0) 0).1 ci q hq).1 w hw)) (hts _ (k_tblOf (k_inst _ (List.mem_map.mpr ⟨q, List.mem_of_getElem? hq, rfl⟩))))
      exact ⟨(cC, iS), fun q' h => by cases h; exact hK⟩
  obtain ⟨z, hz⟩ := Classical.axiomOfChoice h
  exact ⟨(fun ci => (z ci).1, fun ci => (z ci).2), fun ci q hq => hz ci q hq⟩
theorem k_over : Cond.arrayOver (.object "SleepWork$State") ∈ lw_tbl := k_in_tab (i := 125) (by decide +kernel)
theorem k_laysS : Cond.laysStatic "java/lang/String" "COMPACT_STRINGS" "Z" ∈ lw_tbl := k_in_tab (i := 442) (by decide +kernel)
theorem k_iniS : Cond.initialized "java/lang/String" ∈ lw_tbl := k_in_tab (i := 14) (by decide +kernel)
theorem k_laysF : Cond.laysStatic "jdk/internal/util/Preconditions" "SIOOBE_FORMATTER" "Ljava/util/function/BiFunction;" ∈ lw_tbl := k_in_tab (i := 458) (by decide +kernel)
theorem k_iniF : Cond.initialized "jdk/internal/util/Preconditions" ∈ lw_tbl := k_in_tab (i := 16) (by decide +kernel)
theorem k_nests : ∀ q ∈ k_Ns, Cond.methodLinkNest q.1 q.2.1 q.2.2.1 q.2.2.2 ∈ lw_tbl := List.forall_mem_cons.mpr ⟨k_in_tab (i := 33) (by decide +kernel), List.forall_mem_cons.mpr ⟨k_in_tab (i := 140) (by decide +kernel), List.forall_mem_cons.mpr ⟨k_in_tab (i := 163) (by decide +kernel), List.forall_mem_cons.mpr ⟨k_in_tab (i := 321) (by decide +kernel), fun _ h => absurd h List.not_mem_nil⟩⟩⟩⟩
theorem k_strs : ∀ j, j < 2 → Cond.stringRef (k_tn j).1 (k_tn j).2.1 (k_tn j).2.2 ∈ lw_tbl := by
  intro j hj
  rcases (show j = 0 ∨ j = 1 by omega) with rfl | rfl
  · exact k_in_tab (i := 432) (by decide +kernel)
  · exact k_in_tab (i := 639) (by decide +kernel)
abbrev k_tm (i : Nat) : Term := Term.string (k_tn i).1 (k_tn i).2.1
abbrev k_fl : List Cond := flatC (Jvm.Cond.and given_1 narrow_1)
theorem k_s1 : ∀ i, i < 2 → Cond.exactly (k_tm i) "java/lang/String" ∈ k_fl := by decide +kernel
theorem k_s2 : ∀ i, i < 2 → Cond.eq (.field (k_tm i) "java/lang/String" "coder" "B") (.int 0) ∈ k_fl := by decide +kernel
theorem k_s3 : ∀ i, i < 2 → Cond.arrayOf (.field (k_tm i) "java/lang/String" "value" "[B") .byte ∈ k_fl := by decide +kernel
theorem k_s4 : ∀ i, i < 2 → Cond.eq (.length (.field (k_tm i) "java/lang/String" "value" "[B")) (.int (Int32.ofNat ((k_tb.map List.length).getD i 0))) ∈ k_fl := by decide +kernel
theorem k_s5 : ∀ i, i < 2 → ∀ j, j < (k_tb.map List.length).getD i 0 → Cond.eq (.elem (.field (k_tm i) "java/lang/String" "value" "[B") (.int (Int32.ofNat j))) (.int ((k_tb.getD i []).getD j 0)) ∈ k_fl := by decide +kernel
theorem k_s6 : Cond.not (Cond.eq (k_tm 0) (k_tm 1)) ∈ k_fl := by decide +kernel
theorem k_s8 : Cond.isRef (.static "jdk/internal/util/Preconditions" "SIOOBE_FORMATTER" "Ljava/util/function/BiFunction;") ∈ k_fl := by decide +kernel
theorem k_s7 : Cond.eq (.static "java/lang/String" "COMPACT_STRINGS" "Z") (.int 1) ∈ k_fl := by decide +kernel
