/-! instructions of the heap -/
/-- the array types that there are: number 0 int, 1 byte, 2 boolean, 3 long, 4 objects of one class -/
def g_tys (cA : Nat → ClassId) (C4 : String) : List (ClassId × FieldType) := [(cA 0, .int), (cA 1, .byte), (cA 2, .boolean), (cA 3, .long), (cA 4, .object C4)]
/-- a field of that type takes this value -/
def g_fit (ty : FieldType) (v : Value) : Bool := match ty, v with
  | .int, .int _ => true
  | .boolean, .int x => decide (x = 0 ∨ x = 1)
  | .long, .long _ => true
  | .object _, .ref _ => true
  | .array _, .ref _ => true
  | _, _ => false
/-- the tables: classes' field types, the class of an array's objects, the script -/
abbrev gT : Type := (Nat → Nat → FieldType) × Nat × (Nat → Int32) × Nat
def g_mem (t : gT) (I : Instr) (r : List Nat) (st : List Value) (h : gH) : Option (List Value × gH) := match I with
  | .getfield _ => match r, st with
    | ci :: k :: _, .ref a :: q => match g_get h a with
      | some (.inr (ci', fs)) => if ci' = ci then (fs[k]?).map (fun v => (v :: q, h)) else none
      | _ => none
    | _, _ => none
  | .putfield _ => match r, st with
    | ci :: k :: _, v :: .ref a :: q => match g_get h a with
      | some (.inr (ci', fs)) => if ci' = ci ∧ k < fs.length ∧ g_fit (t.1 ci k) v = true then some (q, g_set h a (.inr (ci, fs.set k v))) else none
      | _ => none
    | _, _ => none
  | .iaload => match st with
    | .int i :: .ref a :: q => match g_get h a with
      | some (.inl (0, n, .inl f)) => if i < 0 ∨ n ≤ i.toNatClampNeg then none else some (.int (f i.toNatClampNeg) :: q, h)
      | _ => none
    | .int i :: .float 0 :: q => if i < 0 ∨ t.2.2.2 ≤ i.toNatClampNeg then none else some (.int (t.2.2.1 i.toNatClampNeg) :: q, h)
    | _ => none
  | .baload => match st with
    | .int i :: .ref a :: q => match g_get h a with
      | some (.inl (1, n, .inl f)) => if i < 0 ∨ n ≤ i.toNatClampNeg then none else some (.int (f i.toNatClampNeg) :: q, h)
      | some (.inl (2, n, .inl f)) => if i < 0 ∨ n ≤ i.toNatClampNeg then none else some (.int (f i.toNatClampNeg) :: q, h)
      | _ => none
    | _ => none
  | .laload => match st with
    | .int i :: .ref a :: q => match g_get h a with
      | some (.inl (3, n, .inr (.inl f))) => if i < 0 ∨ n ≤ i.toNatClampNeg then none else some (.long (f i.toNatClampNeg) :: q, h)
      | _ => none
    | _ => none
  | .aaload => match st with
    | .int i :: .ref a :: q => match g_get h a with
      | some (.inl (4, n, .inr (.inr (.inr (.inr f))))) => if i < 0 ∨ n ≤ i.toNatClampNeg then none else match f i.toNatClampNeg with
        | some b => some (.ref b :: q, h)
        | none => none
      | _ => none
    | _ => none
  | .arraylength => match st with
    | .ref a :: q => match g_get h a with
      | some (.inl (j, n, _)) => if j < 5 then some (.int (Int32.ofNat n) :: q, h) else none
      | _ => none
    | .float 0 :: q => some (.int (Int32.ofNat t.2.2.2) :: q, h)
    | _ => none
  | .iastore => match st with
    | .int x :: .int i :: .ref a :: q => match g_get h a with
      | some (.inl (0, n, .inl f)) => if i < 0 ∨ n ≤ i.toNatClampNeg then none else some (q, g_set h a (.inl (0, n, .inl (upd f i.toNatClampNeg x))))
      | _ => none
    | _ => none
  | .bastore => match st with
    | .int x :: .int i :: .ref a :: q => match g_get h a with
      | some (.inl (1, n, .inl f)) => if i < 0 ∨ n ≤ i.toNatClampNeg then none else some (q, g_set h a (.inl (1, n, .inl (upd f i.toNatClampNeg (vp_nar .byte x)))))
      | some (.inl (2, n, .inl f)) => if i < 0 ∨ n ≤ i.toNatClampNeg then none else some (q, g_set h a (.inl (2, n, .inl (upd f i.toNatClampNeg (vp_nar .boolean x)))))
      | _ => none
    | _ => none
  | .lastore => match st with
    | .long x :: .int i :: .ref a :: q => match g_get h a with
      | some (.inl (3, n, .inr (.inl f))) => if i < 0 ∨ n ≤ i.toNatClampNeg then none else some (q, g_set h a (.inl (3, n, .inr (.inl (vp_updL f i.toNatClampNeg x)))))
      | _ => none
    | _ => none
  | .aastore => match st with
    | .ref b :: .int i :: .ref a :: q => match g_get h a, g_get h b with
      | some (.inl (4, n, .inr (.inr (.inr (.inr f))))), some (.inr (ci, _)) => if i < 0 ∨ n ≤ i.toNatClampNeg ∨ ci ≠ t.2.1 then none else some (q, g_set h a (.inl (4, n, .inr (.inr (.inr (.inr (va_up f i.toNatClampNeg (some b))))))))
      | _, _ => none
    | _ => none
  | .ldc _ => match r with | 0 :: v :: _ => some (.int (Int32.ofNat v) :: st, h) | _ => none
  | .ldc_w _ => match r with | 0 :: v :: _ => some (.int (Int32.ofNat v) :: st, h) | _ => none
  | .ldc2_w _ => match r with | v :: _ => some (.long (Int64.ofNat v) :: st, h) | _ => none
  | _ => none
/-- what the tables must say for an instruction of the heap, or of constants, in a method of that class and name -/
def g_memok (cl : List vw_C) (Ts : List Cond) (own name : String) (I : Instr) (r : List Nat) : Prop := match I with
  | .getfield ix => match r with
    | ci :: k :: _ => ∃ q, cl[ci]? = some q ∧ k < q.2.2 ∧ Cond.fieldLink own ix (q.2.1 k).1 (q.2.1 k).2.1 (q.2.1 k).2.2.1 ∈ Ts
    | _ => True
  | .putfield ix => match r with
    | ci :: k :: _ => ∃ q, cl[ci]? = some q ∧ k < q.2.2 ∧ Cond.fieldLink own ix (q.2.1 k).1 (q.2.1 k).2.1 (q.2.1 k).2.2.1 ∈ Ts ∧ ((q.2.1 k).2.2.2 = false ∨ ((q.2.1 k).2.2.2 = true ∧ name = "<init>" ∧ (q.2.1 k).1 = own))
    | _ => True
  | .ldc ix => match r with | 0 :: v :: _ => Cond.constant own ix (Int32.ofNat v) ∈ Ts | _ => True
  | .ldc_w ix => match r with | 0 :: v :: _ => Cond.constant own ix (Int32.ofNat v) ∈ Ts | _ => True
  | .ldc2_w ix => match r with | v :: _ => Cond.constantLong own ix (Int64.ofNat v) ∈ Ts | _ => True
  | _ => True
/-- what the tables must say of the classes -/
def g_CL (cl : List vw_C) (t : gT) (Ts : List Cond) (C4 : String) : Prop := (∀ (ci : Nat) (q : vw_C), cl[ci]? = some q → (∀ w ∈ u_ws q.1 q.2.1 q.2.2, w ∈ Ts) ∧ (∀ k, k < q.2.2 → parseFieldDescriptor (q.2.1 k).2.2.1 = some (t.1 ci k)) ∧ (∀ a, a < q.2.2 → ∀ b, b < q.2.2 → a ≠ b → (q.2.1 a).2.1 ≠ (q.2.1 b).2.1)) ∧ ∃ q, cl[t.2.1]? = some q ∧ q.1 = C4
theorem g_fit_ok {ad cst : Nat → Nat} {ty : FieldType} {v : Value} (h : g_fit ty v = true) : narrow ty (g_sh ad cst v) = g_sh ad cst v ∧ fits ty (g_sh ad cst v) = true := by
  unfold g_fit at h
  split at h
  · exact ⟨rfl, rfl⟩
  · rcases of_decide_eq_true h with rfl | rfl
    · exact ⟨show narrow .boolean (.int 0) = .int 0 by decide, show fits .boolean (.int 0) = true by decide⟩
    · exact ⟨show narrow .boolean (.int 1) = .int 1 by decide, show fits .boolean (.int 1) = true by decide⟩
  · exact ⟨rfl, rfl⟩
  · exact ⟨rfl, rfl⟩
  · exact ⟨rfl, rfl⟩
  · cases h
section GM
variable {p : Program} {l : Launch} {e : Env} {R : Room} {s : State} {m : MethodId} {args : Array Value} {below : List Frame} {meth : Method} {c : Code} {H : Heap} {locs : List Loc} {cells slots : Nat} {Q : State → Prop}
variable {cc : ByteArray} {pc : Nat} {ls : Array Slot} {D : va_G} {cl : List vw_C} {cA : Nat → ClassId} {C4 : String} {fl lg cst : Nat → Nat} {H0 : Heap} {t : gT} {Ts : List Cond} {own : String}
theorem g_ht (hts : ∀ w ∈ Ts, w.before args s = true) {w : Cond} (h : w ∈ Ts) : w.before args s = true := hts w h
/-- a store into an array: the cell behind it -/
theorem g_arr_at {k t0 : Nat} {a : vp_A} {H1 : Heap} (h : H1[H0.size + fl k]? = some (vp_cell ((g_tys cA C4).getD t0 (0, .int)).1 (g_shd (fun j => H0.size + fl j) a))) : va_at D cl (H0.size + fl k, g_pe (fun j => H0.size + fl j) cst (g_tys cA C4) (.inl (t0, a))) H1 := h
set_option maxHeartbeats 8000000 in
theorem g_mem_ok (hx : p.tables.exec = Jvm.exec) (hb : c.code = cc) (hts : ∀ w ∈ Ts, w.before args s = true) (hown : s.vm.findClass own = some m.cls) (hK : va_K D cl (g_tys cA C4) s) (hCL : g_CL cl t Ts C4) (hX : va_X (cst 0) t.2.2.2 t.2.2.1 s H0) (hbl : cst 0 < H0.size)
    {I : Instr} {r : List Nat} {st st' : List Value} {h h' : gH} {len : Nat} (hS : g_mem t I r st h = some (st', h')) (hd : decode cc pc = .ok (I, len)) (hl : len = g_len I) (hok : g_memok cl Ts own meth.name I r)
    (hH : g_HH D cl (g_tys cA C4) fl lg cst H0 h H) (hlo : ∀ q ∈ locs, H0.size ≤ q.base)
    (kk : ∀ (H' : Heap) (locs' : List Loc), h'.1 = h.1 → g_HH D cl (g_tys cA C4) fl lg cst H0 h' H' → (∀ q ∈ locs', H0.size ≤ q.base) → W p l e R s m args below meth c H' locs' cells slots Q (F0 m (pc + g_len I) ls (st'.map (g_sh (fun j => H0.size + fl j) cst)))) :
    W p l e R s m args below meth c H locs cells slots Q (F0 m pc ls (st.map (g_sh (fun j => H0.size + fl j) cst))) := by
  subst hl
  have hlo' : ∀ (a k : Nat), ∀ q ∈ locs ++ [(⟨H0.size + a, k⟩ : Loc)], H0.size ≤ q.base := by
    intro a k q hq
    rcases List.mem_append.mp hq with h | h
    · exact hlo q h
    · rw [List.mem_singleton.mp h]; exact Nat.le_add_right _ _
  unfold g_mem at hS
  split at hS
  next ix =>
    split at hS
    next ci k r' a q =>
      split at hS
      next ci' fs hg =>
        split at hS
        next hci =>
          subst hci
          cases hv : fs[k]? with
          | none => rw [hv] at hS; cases hS
          | some v =>
            rw [hv] at hS
            cases hS
            obtain ⟨qc, hc, hk, hlk⟩ := hok
            exact va_get hx hb hts (hCL.1 _ _ hc).1 hown hK (hH.at hg) 0 rfl hc k hk (hts _ hlk) (fun _ h9 => h9) (by rw [List.getElem?_map, hv]; rfl) hd (kk H locs rfl hH hlo)
        next => cases hS
      next => cases hS
    next => cases hS
  next ix =>
    split at hS
    next ci k r' v a q =>
      split at hS
      next ci' fs hg =>
        split at hS
        next hci =>
          obtain ⟨rfl, hkf, hfv⟩ := hci
          cases hS
          obtain ⟨⟨C, T, N⟩, hc, hk, hlk, hfin⟩ := hok
          obtain ⟨hin, hty, hnm⟩ := hCL.1 _ _ hc
          have hap := va_apart (own := own) hts hin _ hty hnm hK hc
          obtain ⟨r, h1, cell, q1, q2, q3, q4⟩ := (hH.2.2 a _ hg).2.2
          have hr : r = (C, T, N) := Option.some.inj (h1.symm.trans hc)
          subst hr
          obtain ⟨hSl, hfc, kC, hkC, hkind⟩ := hK.1 _ _ hc
          obtain ⟨cf, kf, fi, f, hi, hsl⟩ := hSl k hk
          have hst := (u_facts hfc hkC (u_lays hts hin hk) hi).1
          obtain ⟨hn1, hf1⟩ := g_fit_ok (ad := fun j => H0.size + fl j) (cst := cst) hfv
          have hlay := hts _ (hin _ (u_in_lay hk))
          unfold u_lay at hlay
          have fin : ∀ H' : Heap, H'[H0.size + fl a]? = some (cell.setSlot f.slot (g_sh (fun j => H0.size + fl j) cst v)) → H'.size = H.size → (∀ q, q ≠ H0.size + fl a → H'[q]? = H[q]?) → g_HH D cl (g_tys cA C4) fl lg cst H0 (g_set h a (.inr (ci', fs.set k v))) H' := by
            intro H' e1 e2 e3
            rw [hsl] at e1
            refine hH.put hg e2 e3 ⟨_, hc, t_OB.to (V := updV (vp_V (fs.map (g_sh (fun j => H0.size + fl j) cst))) k (g_sh (fun j => H0.size + fl j) cst v)) ⟨_, e1, q2, q3, t_set q4 hap hk _⟩ (fun j _ => ?_)⟩
            rw [List.map_set]
            exact vp_updV_set (by rw [List.length_map]; exact hkf) _ j
          rcases hfin with hfin | ⟨hfin, hin2, hdecl⟩
          · rw [if_neg (by rw [hfin]; decide)] at hlay
            have h6 := u_store hfc hkC hkind hlay hi (hty k hk) hn1 hf1
            exact W.putK hx hb (f := f) ⟨hown, hts _ hlk, ⟨_, _, _, hi⟩, hst⟩ (by rw [q2]; exact h6) q1 q3 (by rw [hsl]; exact k2_hasslot (q4 k hk)) rfl rfl hd fun H' e1 e2 e3 => kk H' _ rfl (fin H' e1 e2 e3) (hlo' _ _)
          · rw [if_pos hfin] at hlay
            have hcf : m.cls = cf := by
              obtain ⟨_, _, c', _, _, _, -, -, hf', -, -, -, hown2, -⟩ := Cond.laysFinal_spec hlay
              have e1 : c' = cf := by have := hi.symm.trans hf'; simp at this; exact this.1.symm
              rw [hdecl] at hown2
              rw [← e1]; exact Option.some.inj (hown.symm.trans hown2)
            have h6 := u_fits hfc hkC hkind (Or.inr hlay) hi (hty k hk) hn1 hf1
            exact W.putFinK hx hb hown (hts _ hlk) hi hst hcf hin2 (by rw [q2]; exact h6) q1 q3 (by rw [hsl]; exact k2_hasslot (q4 k hk)) rfl rfl hd fun H' e1 e2 e3 => kk H' _ rfl (fin H' e1 e2 e3) (hlo' _ _)
        next => cases hS
      next => cases hS
    next => cases hS
  · split at hS
    next i a q =>
      split at hS
      next n f hg =>
        split at hS
        · cases hS
        next hin => cases hS; exact va_iald hx hb hK (hH.at hg) 0 0 rfl rfl hin hd (kk H locs rfl hH hlo)
      next => cases hS
    next i q =>
      split at hS
      · cases hS
      next hin =>
        cases hS
        exact va_sld (A := fun q => H0.size ≤ q) hx hb hX hbl (Nat.not_le.mpr hbl) ⟨by rw [hH.1]; exact Nat.le_add_right _ _, fun q h1 _ => hH.2.1 q h1, hlo⟩ hin hd (kk H locs rfl hH hlo)
    next => cases hS
  · split at hS
    next i a q =>
      split at hS
      next n f hg =>
        split at hS
        · cases hS
        next hin => cases hS; exact va_bald hx hb hK (hH.at hg) 0 1 rfl rfl hin hd (kk H locs rfl hH hlo)
      next n f hg =>
        split at hS
        · cases hS
        next hin => cases hS; exact va_zald hx hb hK (hH.at hg) 0 2 rfl rfl hin hd (kk H locs rfl hH hlo)
      next => cases hS
    next => cases hS
  · split at hS
    next i a q =>
      split at hS
      next n f hg =>
        split at hS
        · cases hS
        next hin => cases hS; exact va_lald hx hb hK (hH.at hg) 0 3 rfl rfl hin hd (kk H locs rfl hH hlo)
      next => cases hS
    next => cases hS
  · split at hS
    next i a q =>
      split at hS
      next n f hg =>
        split at hS
        · cases hS
        next hin =>
          split at hS
          next b hb2 =>
            cases hS
            refine va_aldq hx hb hK (hH.at hg) 0 4 rfl rfl hin hd ?_
            have h3 := kk H locs rfl hH hlo
            rw [hb2]
            exact h3
          next => cases hS
      next => cases hS
    next => cases hS
  · split at hS
    next a q =>
      split at hS
      next j n d hg =>
        split at hS
        next hj =>
          cases hS
          obtain ⟨ty, hty⟩ : ∃ ty, (g_tys cA C4)[j]? = some (((g_tys cA C4).getD j (0, .int)).1, ty) := by
            rcases (show j = 0 ∨ j = 1 ∨ j = 2 ∨ j = 3 ∨ j = 4 by omega) with rfl | rfl | rfl | rfl | rfl <;> exact ⟨_, rfl⟩
          have hn : (g_shd (fun j => H0.size + fl j) (n, d)).1 = n := by
            unfold g_shd
            split
            next e0 => cases e0; rfl
            next => rfl
          exact va_alen hx hb hK (hH.at hg) 0 j rfl hty (by rw [hn]) hd (kk H locs rfl hH hlo)
        next => cases hS
      next => cases hS
    next q =>
      cases hS
      exact va_slen (A := fun q => H0.size ≤ q) hx hb hX hbl (Nat.not_le.mpr hbl) ⟨by rw [hH.1]; exact Nat.le_add_right _ _, fun q h1 _ => hH.2.1 q h1, hlo⟩ hd (kk H locs rfl hH hlo)
    next => cases hS
  · split at hS
    next x i a q =>
      split at hS
      next n f hg =>
        split at hS
        · cases hS
        next hin =>
          cases hS
          have hat := (hH.2.2 a _ hg).2.2
          refine W.iast hx hb hat ((hK.2 0 _ rfl).1 n (fun j => .int (f j))) (fun q => by cases q) (by show ¬ (i < 0 ∨ (arrV _ _ _).slots.size ≤ _); rw [arrV_size]; exact hin) rfl rfl hd fun H1 e1 z oq => kk H1 _ rfl (hH.put hg z oq (g_arr_at ?_)) (hlo' _ _)
          rw [e1]
          show some ((vp_cell (cA 0) (n, .inl f)).setSlot _ _) = some (vp_cell (cA 0) (n, .inl (upd f i.toNatClampNeg x)))
          rw [vp_cell_i, vp_cell_i, arrV_store]
          congr 2
          funext q
          by_cases hq : q = i.toNatClampNeg
          · subst hq
            simp [updV, upd]
          · simp [updV, upd, hq]
      next => cases hS
    next => cases hS
  · split at hS
    next x i a q =>
      split at hS
      next n f hg =>
        split at hS
        · cases hS
        next hin =>
          cases hS
          have hat := (hH.2.2 a _ hg).2.2
          refine W.bast hx hb hat ((hK.2 1 _ rfl).1 n (fun j => .int (f j))) (fun q => by cases q) (by show ¬ (i < 0 ∨ (arrV _ _ _).slots.size ≤ _); rw [arrV_size]; exact hin) rfl rfl hd fun H1 e1 z oq => kk H1 _ rfl (hH.put hg z oq (g_arr_at ?_)) (hlo' _ _)
          rw [e1]
          show some ((vp_cell (cA 1) (n, .inl f)).setSlot _ _) = some (vp_cell (cA 1) (n, .inl (upd f i.toNatClampNeg (vp_nar .byte x))))
          rw [vp_cell_i, vp_cell_i, arrV_store]
          congr 2
          funext q
          by_cases hq : q = i.toNatClampNeg
          · subst hq
            simp [updV, upd, vp_nar]
            try rfl
          · simp [updV, upd, hq]
      next n f hg =>
        split at hS
        · cases hS
        next hin =>
          cases hS
          have hat := (hH.2.2 a _ hg).2.2
          refine W.zast hx hb hat ((hK.2 2 _ rfl).1 n (fun j => .int (f j))) (fun q => by cases q) (by show ¬ (i < 0 ∨ (arrV _ _ _).slots.size ≤ _); rw [arrV_size]; exact hin) rfl rfl hd fun H1 e1 z oq => kk H1 _ rfl (hH.put hg z oq (g_arr_at ?_)) (hlo' _ _)
          rw [e1]
          show some ((vp_cell (cA 2) (n, .inl f)).setSlot _ _) = some (vp_cell (cA 2) (n, .inl (upd f i.toNatClampNeg (vp_nar .boolean x))))
          rw [vp_cell_i, vp_cell_i, arrV_store]
          congr 2
          funext q
          by_cases hq : q = i.toNatClampNeg
          · subst hq
            simp [updV, upd, vp_nar]
            try rfl
          · simp [updV, upd, hq]
      next => cases hS
    next => cases hS
  · split at hS
    next x i a q =>
      split at hS
      next n f hg =>
        split at hS
        · cases hS
        next hin =>
          cases hS
          have hat := (hH.2.2 a _ hg).2.2
          refine W.last hx hb hat ((hK.2 3 _ rfl).1 n (fun j => .long (f j))) (fun q => by cases q) (by show ¬ (i < 0 ∨ (arrV _ _ _).slots.size ≤ _); rw [arrV_size]; exact hin) rfl rfl hd fun H1 e1 z oq => kk H1 _ rfl (hH.put hg z oq (g_arr_at ?_)) (hlo' _ _)
          rw [e1]
          show some ((vp_cell (cA 3) (n, .inr (.inl f))).setSlot _ _) = some (vp_cell (cA 3) (n, .inr (.inl (vp_updL f i.toNatClampNeg x))))
          rw [vp_cell_l, vp_cell_l, arrV_store]
          congr 2
          funext q
          by_cases hq : q = i.toNatClampNeg
          · subst hq
            simp [updV, vp_updL]
          · simp [updV, vp_updL, hq]
      next => cases hS
    next => cases hS
  · split at hS
    next b i a q =>
      split at hS
      next n f ci vs hg hgb =>
        split at hS
        · cases hS
        next hin =>
          cases hS
          have hin1 : ¬ i < 0 := fun z => hin (Or.inl z)
          have hin2 : i.toNatClampNeg < n := Nat.not_le.mp fun z => hin (Or.inr (Or.inl z))
          have hci : ci = t.2.1 := Classical.not_not.mp fun z => hin (Or.inr (Or.inr z))
          subst hci
          have hat := (hH.2.2 a _ hg).2.2
          obtain ⟨r', hr', cellV, g1, g2, g3, -⟩ := (hH.2.2 b _ hgb).2.2
          obtain ⟨qq, hqq, hC4⟩ := hCL.2
          have hcls := (hK.1 _ _ hqq).2
          obtain ⟨kA, comp, k1, k2, k3, -⟩ := (hK.2 4 _ rfl).2
          have hcomp : comp = D.1 t.2.1 := Option.some.inj (k3.symm.trans (by rw [← hC4]; exact hcls.1))
          subst hcomp
          obtain ⟨kC, hkC, -⟩ := hcls.2
          refine W.aast hx hb hat (fun q h => by cases h) (fun h => by cases h) k1 k2 rfl hkC ⟨hin1, by show _ < (arrV _ _ _).slots.size; rw [arrV_size]; exact hin2⟩ g1 (fun q h => by rw [g3] at h; cases h) (by rw [g2]; exact hkC) (by rw [g2]; exact va_assign hcls) rfl rfl hd fun H1 e1 z oq => kk H1 _ rfl (hH.put hg z oq (g_arr_at ?_)) (hlo' _ _)
          rw [e1]
          show some ((vp_cell (cA 4) (n, .inr (.inr (.inr (.inr fun i => (f i).map fun j => H0.size + fl j))))).setSlot _ _) = some (vp_cell (cA 4) (n, .inr (.inr (.inr (.inr fun j => (va_up f i.toNatClampNeg (some b) j).map fun j => H0.size + fl j)))))
          rw [vp_cell_q, vp_cell_q, arrV_store]
          congr 2
          funext q
          by_cases hq : q = i.toNatClampNeg
          · subst hq
            simp [updV, va_up, va_rf]
          · simp [updV, va_up, hq]
      next => cases hS
    next => cases hS
  · split at hS
    · cases hS; exact lv_ldc hx hb hown (hts _ hok) hd (kk H locs rfl hH hlo)
    · cases hS
  · split at hS
    · cases hS; exact lv_ldcw hx hb hown (hts _ hok) hd (kk H locs rfl hH hlo)
    · cases hS
  · split at hS
    · cases hS; exact lv_ldc2 hx hb hown (hts _ hok) hd (kk H locs rfl hH hlo)
    · cases hS
  · cases hS
end GM
