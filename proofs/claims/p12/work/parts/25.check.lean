/-! every instruction of every method keeps the tables -/
def g_chk (bytes : ByteArray) (ini : Bool) (pl : List (Nat × Nat × List Nat)) (q : Nat × Instr × List Nat) : Bool :=
  (match decode bytes q.1 with | .ok (I, len) => decide (I = q.2.1) && (decide (g_len q.2.1 = 0) || decide (len = g_len q.2.1)) | _ => false) && g_brok q.1 q.2.1 q.2.2 &&
  (match q.2.1 with
   | .getfield ix => decide ((0, ix, q.2.2) ∈ pl)
   | .putfield ix => decide ((1, ix, q.2.2) ∈ pl) || (ini && decide ((12, ix, q.2.2) ∈ pl))
   | .ldc ix => decide ((2, ix, q.2.2) ∈ pl)
   | .ldc_w ix => decide ((3, ix, q.2.2) ∈ pl)
   | .ldc2_w ix => decide ((4, ix, q.2.2) ∈ pl)
   | .getstatic ix => decide ((5, ix, q.2.2) ∈ pl)
   | .new ix => decide ((6, ix, q.2.2) ∈ pl)
   | .newarray a => decide ((newarray.typeOf a = .int ∧ q.2.2 = [0]) ∨ (newarray.typeOf a = .byte ∧ q.2.2 = [1]) ∨ (newarray.typeOf a = .boolean ∧ q.2.2 = [2]) ∨ (newarray.typeOf a = .long ∧ q.2.2 = [3]))
   | .anewarray ix => decide ((8, ix, q.2.2) ∈ pl)
   | .invokespecial ix => decide ((9, ix, q.2.2) ∈ pl)
   | .invokestatic ix => decide ((10, ix, q.2.2) ∈ pl)
   | .invokevirtual ix => decide ((11, ix, q.2.2) ∈ pl)
   | _ => true)
theorem k_ac0 : Cond.arrayClass .int ∈ lw_gd := (k_memT (i := 117) (by decide +kernel) rfl)
theorem k_ac1 : Cond.arrayClass .byte ∈ lw_gd := (k_memT (i := 47) (by decide +kernel) rfl)
theorem k_ac2 : Cond.arrayClass .boolean ∈ lw_gd := (k_memT (i := 1428) (by decide +kernel) rfl)
theorem k_ac3 : Cond.arrayClass .long ∈ lw_gd := (k_memT (i := 332) (by decide +kernel) rfl)
theorem g_putf_name {cl : List vw_C} {Ts : List Cond} {own n n2 : String} {ix : Nat} {r : List Nat} (h : g_memok cl Ts own n (.putfield ix) r) (hn : n = "<init>" → n2 = "<init>") : g_memok cl Ts own n2 (.putfield ix) r := by
  unfold g_memok at h ⊢
  dsimp only at h ⊢
  split
  · obtain ⟨q, h1, h2, h3, h4⟩ := h
    exact ⟨q, h1, h2, h3, h4.imp id fun z => ⟨z.1, hn z.2.1, z.2.2⟩⟩
  · trivial
set_option maxHeartbeats 4000000 in
theorem g_chk_ok {own name : String} {bytes : ByteArray} {ini : Bool} {pl : List (Nat × Nat × List Nat)} {pc : Nat} {I : Instr} {r : List Nat} (hini : ini = true → name = "<init>") (hpl : ∀ q ∈ pl, k_pl own q) (h : g_chk bytes ini pl (pc, I, r) = true) :
    (∃ len, decode bytes pc = .ok (I, len) ∧ (g_len I = 0 ∨ len = g_len I)) ∧ g_brok pc I r = true ∧ g_memok k_cl lw_gd own name I r ∧ g_newok k_cl lw_gd "SleepWork$State" own I r ∧ g_txtok k_tn lw_gd own I r ∧ g_natok lw_gd own I r ∧ g_invok k_cl lw_gd k_Ns k_mt "SleepWork" own I r := by
  unfold g_chk at h
  rw [Bool.and_eq_true, Bool.and_eq_true] at h
  obtain ⟨⟨h1, h2⟩, h3⟩ := h
  dsimp only at h1 h2 h3
  refine ⟨?_, h2, ?_⟩
  · split at h1
    next I' len hd =>
      rw [Bool.and_eq_true, Bool.or_eq_true, decide_eq_true_eq, decide_eq_true_eq, decide_eq_true_eq] at h1
      exact ⟨len, by rw [hd, h1.1], h1.2⟩
    next => cases h1
  · cases I with
    | getfield ix => exact ⟨(hpl _ (of_decide_eq_true h3)).1, trivial, (hpl _ (of_decide_eq_true h3)).2, trivial, trivial⟩
    | putfield ix =>
      refine ⟨?_, trivial, trivial, trivial, trivial⟩
      rcases Bool.or_eq_true _ _ ▸ h3 with h3 | h3
      · exact g_putf_name (n := "") (hpl _ (of_decide_eq_true h3)) (fun h => absurd h (by decide))
      · rw [Bool.and_eq_true] at h3
        exact g_putf_name (n := "<init>") (hpl _ (of_decide_eq_true h3.2)) (fun _ => hini h3.1)
    | ldc ix => exact ⟨(hpl _ (of_decide_eq_true h3)).1, trivial, (hpl _ (of_decide_eq_true h3)).2, trivial, trivial⟩
    | ldc_w ix => exact ⟨hpl _ (of_decide_eq_true h3), trivial, trivial, trivial, trivial⟩
    | ldc2_w ix => exact ⟨hpl _ (of_decide_eq_true h3), trivial, trivial, trivial, trivial⟩
    | getstatic ix => exact ⟨trivial, trivial, hpl _ (of_decide_eq_true h3), trivial, trivial⟩
    | new ix => exact ⟨trivial, hpl _ (of_decide_eq_true h3), trivial, trivial, trivial⟩
    | newarray a =>
      refine ⟨trivial, ?_, trivial, trivial, trivial⟩
      have h4 := of_decide_eq_true h3
      rcases h4 with ⟨e1, e2⟩ | ⟨e1, e2⟩ | ⟨e1, e2⟩ | ⟨e1, e2⟩ <;> subst e2
      · exact ⟨e1, k_ac0⟩
      · exact ⟨e1, k_ac1⟩
      · exact ⟨e1, k_ac2⟩
      · exact ⟨e1, k_ac3⟩
    | anewarray ix => exact ⟨trivial, hpl _ (of_decide_eq_true h3), trivial, trivial, trivial⟩
    | invokespecial ix => exact ⟨trivial, trivial, trivial, (hpl _ (of_decide_eq_true h3)).1, (hpl _ (of_decide_eq_true h3)).2⟩
    | invokestatic ix => exact ⟨trivial, trivial, trivial, (hpl _ (of_decide_eq_true h3)).1, (hpl _ (of_decide_eq_true h3)).2⟩
    | invokevirtual ix => exact ⟨trivial, trivial, trivial, (hpl _ (of_decide_eq_true h3)).1, (hpl _ (of_decide_eq_true h3)).2⟩
    | _ => exact ⟨trivial, trivial, trivial, trivial, trivial⟩
theorem g_look_mem {cd : List (Nat × Instr × List Nat)} {pc : Nat} {I : Instr} {r : List Nat} (h : g_look cd pc = some (I, r)) : (pc, I, r) ∈ cd := by
  unfold g_look at h
  cases hf : cd.find? (fun q => q.1 == pc) with
  | none => rw [hf] at h; cases h
  | some q =>
    rw [hf] at h
    have h1 := List.find?_some hf
    have h2 := List.mem_of_find?_eq_some hf
    have h3 : q.1 = pc := by simpa using h1
    have h4 : q.2 = (I, r) := Option.some.inj h
    rw [← h3, ← h4]
    exact h2
/-- a method keeps the tables -/
def k_mok (m : gM) : Prop := ∀ (pc : Nat) (I : Instr) (r : List Nat), m.2 pc = some (I, r) → (∃ len, decode m.1.2.1 pc = .ok (I, len) ∧ (g_len I = 0 ∨ len = g_len I)) ∧ g_brok pc I r = true ∧ g_memok k_cl lw_gd m.1.1.cls m.1.1.name I r ∧ g_newok k_cl lw_gd "SleepWork$State" m.1.1.cls I r ∧ g_txtok k_tn lw_gd m.1.1.cls I r ∧ g_natok lw_gd m.1.1.cls I r ∧ g_invok k_cl lw_gd k_Ns k_mt "SleepWork" m.1.1.cls I r
theorem k_mok_of {own name : String} {y : MethodName} {bytes : ByteArray} {mL : Nat} {rt : Option FieldType} {cd : List (Nat × Instr × List Nat)} {pl : List (Nat × Nat × List Nat)} (ini : Bool) (hy : y.cls = own) (hini : ini = true → y.name = "<init>") (hpl : ∀ q ∈ pl, k_pl own q) (h : cd.all (g_chk bytes ini pl) = true) : k_mok ((y, bytes, mL, rt), g_look cd) := by
  subst hy
  intro pc I r hq
  exact g_chk_ok hini hpl (List.all_eq_true.mp h _ (g_look_mem hq))
