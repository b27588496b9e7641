/-! WHAT THE LOGICAL MACHINE ANSWERS, THE MACHINE DOES -/
/-- all that an instruction of a method must keep -/
def g_IOK (cl : List vw_C) (Ts : List Cond) (Ns : List (String × Nat × MethodName × String)) (C4 host : String) (tn : Nat → String × Nat × String) (mt : Nat → gM) (M pc : Nat) (I : Instr) (r : List Nat) : Prop :=
  (∃ len, decode (mt M).1.2.1 pc = .ok (I, len) ∧ (g_len I = 0 ∨ len = g_len I)) ∧ g_brok pc I r = true ∧ g_memok cl Ts (mt M).1.1.cls (mt M).1.1.name I r ∧ g_newok cl Ts C4 (mt M).1.1.cls I r ∧ g_txtok tn Ts (mt M).1.1.cls I r ∧ g_natok Ts (mt M).1.1.cls I r ∧ g_invok cl Ts Ns mt host (mt M).1.1.cls I r
/-- the program keeps the tables -/
def g_OK (cl : List vw_C) (t : gT) (Ts : List Cond) (Ns : List (String × Nat × MethodName × String)) (C4 host : String) (df : Nat → List Value) (tn : Nat → String × Nat × String) (fl lg : Nat → Nat) (mt : Nat → gM) : Prop :=
  g_CL cl t Ts C4 ∧ g_DF cl t df ∧ (∀ i, fl (lg i) = i) ∧ (∀ w ∈ Ts, goodWord w = true) ∧ ∀ (M pc : Nat) (I : Instr) (r : List Nat), (mt M).2 pc = some (I, r) → g_IOK cl Ts Ns C4 host tn mt M pc I r
/-- what holds of the tables at a state -/
def g_KK (Ns : List (String × Nat × MethodName × String)) (D : va_G) (cl : List vw_C) (cA : Nat → ClassId) (C4 : String) (t : gT) (tb : List (List Int32)) (tn : Nat → String × Nat × String) (cst : Nat → Nat) (H0 : Heap) (U : State) : Prop :=
  va_K D cl (g_tys cA C4) U ∧ va_X (cst 0) t.2.2.2 t.2.2.1 U H0 ∧ g_TX tb tn cst H0 U ∧ va_AO C4 U ∧ ∀ q ∈ Ns, va_Nw (.methodLinkNest q.1 q.2.1 q.2.2.1 q.2.2.2) U
theorem g_KK.warm {Ns : List (String × Nat × MethodName × String)} {D : va_G} {cl : List vw_C} {cA : Nat → ClassId} {C4 : String} {t : gT} {tb : List (List Int32)} {tn : Nat → String × Nat × String} {cst : Nat → Nat} {H0 : Heap} {s U : State} (hW : s.WarmedH U.vm) (h : g_KK Ns D cl cA C4 t tb tn cst H0 s) : g_KK Ns D cl cA C4 t tb tn cst H0 U :=
  ⟨h.1.moved hW.alike, h.2.1.moved hW.alike, h.2.2.1.warm hW, h.2.2.2.1.moved hW.alike, fun q hq => (h.2.2.2.2 q hq).warmM hW⟩
theorem g_KK.same {Ns : List (String × Nat × MethodName × String)} {D : va_G} {cl : List vw_C} {cA : Nat → ClassId} {C4 : String} {t : gT} {tb : List (List Int32)} {tn : Nat → String × Nat × String} {cst : Nat → Nat} {H0 : Heap} {s U : State} (hv : U.vm = s.vm) (h : g_KK Ns D cl cA C4 t tb tn cst H0 s) : g_KK Ns D cl cA C4 t tb tn cst H0 U :=
  ⟨h.1.moved (by rw [hv]; exact Vm.Alike.refl _), h.2.1.moved (by rw [hv]; exact Vm.Alike.refl _), h.2.2.1.same hv, h.2.2.2.1.moved (by rw [hv]; exact Vm.Alike.refl _), fun q hq => (h.2.2.2.2 q hq).same rfl hv.symm⟩
theorem g_args_sh (ad cst : Nat → Nat) : ∀ (as : List Value) (i : Nat), lv_args i (as.map (g_sh ad cst)) = g_shl ad cst (lv_args i as) := by
  intro as
  induction as with
  | nil => intro i; rfl
  | cons v as ih =>
    intro i
    show (i, g_sh ad cst v) :: lv_args (if (g_sh ad cst v).category = 2 then i + 2 else i + 1) (as.map (g_sh ad cst)) = (i, g_sh ad cst v) :: g_shl ad cst (lv_args (if v.category = 2 then i + 2 else i + 1) as)
    rw [g_sh_cat, ih]
theorem g_sl_sh (ad cst : Nat → Nat) (as : List Value) : (lg_sl (as.map (g_sh ad cst))).length = (lg_sl as).length := by
  induction as with
  | nil => rfl
  | cons v as ih =>
    unfold lg_sl at ih ⊢
    rw [List.map_cons, List.flatMap_cons, List.flatMap_cons, List.length_append, List.length_append, ih, g_sh_cat]
    by_cases hv : v.category = 2 <;> simp [hv]
section GA
variable {p : Program} {l : Launch} {e : Env} {R : Room} {s : State} {m : MethodId} {args : Array Value} {below : List Frame} {meth : Method} {c : Code} {H : Heap} {locs : List Loc} {cells slots : Nat} {Q : State → Prop}
variable {pc : Nat} {ls : Array Slot}
theorem g_after {mc ms : Nat} {Qa : State → Outcome → State → Prop} {free : Addr → Prop} {st0 rest : List Value} (hr : va_Run p l e R s m args below meth c H locs cells slots mc ms (F0 m pc ls st0) rest Qa free)
    (kk : ∀ (v : Option Value) (st₀ t : State) (locs1 : List Loc), Qa st₀ (.returned v) t → (∀ q ∈ locs1, q ∈ locs ∨ free q.base) → W p l e R s m args below meth c t.heap locs1 (cells + mc) (slots + ms) Q (F0 m (pc + 3) ls (v.toList ++ rest))) : W p l e R s m args below meth c H locs cells slots Q (F0 m pc ls st0) := by
  intro T hT X
  obtain ⟨v, st₀, t, T', L, h0, X', hL, e1, e2, hq, st⟩ := hr T hT X
  obtain ⟨t2, a1, b1⟩ := kk v st₀ t (locs ++ L) hq (fun q hq => (List.mem_append.mp hq).elim Or.inl (fun h => Or.inr (hL q h))) T' e1 X'
  exact ⟨t2, st t2 a1, b1⟩
end GA
theorem g_switch_none {I : Instr} (h : g_len I = 0) (st : List Value) (nL : Nat) (loc : List (Nat × Value)) (t : gT) (r : List Nat) (hh : gH) (lg : Nat → Nat) (df : Nat → List Value) (tb : List (List Int32)) :
    g_pure I st = none ∧ g_loc nL I loc st = none ∧ g_mem t I r st hh = none ∧ g_new lg df I r st hh = none ∧ g_txt tb I r st = none ∧ g_nat I r st hh = none := by
  unfold g_len at h
  split at h <;> first | exact ⟨rfl, rfl, rfl, rfl, rfl, rfl⟩ | cases h
