/-! instructions that make cells -/
def g_new (lg : Nat → Nat) (df : Nat → List Value) (I : Instr) (r : List Nat) (st : List Value) (h : gH) : Option (List Value × gH) := match I with
  | .new _ => match r with
    | ci :: _ => (g_push lg h (df ci).length (.inr (ci, df ci))).map fun q => (.ref q.1 :: st, q.2)
    | _ => none
  | .newarray _ => match r, st with
    | 0 :: _, .int n :: q => if n < 0 ∨ 1000000 < n.toNatClampNeg then none else (g_push lg h n.toNatClampNeg (.inl (0, n.toNatClampNeg, .inl fun _ => 0))).map fun z => (.ref z.1 :: q, z.2)
    | 1 :: _, .int n :: q => if n < 0 ∨ 1000000 < n.toNatClampNeg then none else (g_push lg h n.toNatClampNeg (.inl (1, n.toNatClampNeg, .inl fun _ => 0))).map fun z => (.ref z.1 :: q, z.2)
    | 2 :: _, .int n :: q => if n < 0 ∨ 1000000 < n.toNatClampNeg then none else (g_push lg h n.toNatClampNeg (.inl (2, n.toNatClampNeg, .inl fun _ => 0))).map fun z => (.ref z.1 :: q, z.2)
    | 3 :: _, .int n :: q => if n < 0 ∨ 1000000 < n.toNatClampNeg then none else (g_push lg h n.toNatClampNeg (.inl (3, n.toNatClampNeg, .inr (.inl fun _ => 0)))).map fun z => (.ref z.1 :: q, z.2)
    | _, _ => none
  | .anewarray _ => match st with
    | .int n :: q => if n < 0 ∨ 1000000 < n.toNatClampNeg then none else (g_push lg h n.toNatClampNeg (.inl (4, n.toNatClampNeg, .inr (.inr (.inr (.inr fun _ => none)))))).map fun z => (.ref z.1 :: q, z.2)
    | _ => none
  | _ => none
def g_newok (cl : List vw_C) (Ts : List Cond) (C4 own : String) (I : Instr) (r : List Nat) : Prop := match I with
  | .new ix => match r with
    | ci :: _ => ∃ q, cl[ci]? = some q ∧ Cond.classLink own ix q.1 ∈ Ts ∧ Cond.instantiable q.1 q.2.2 ∈ Ts ∧ Cond.initialized q.1 ∈ Ts
    | _ => True
  | .newarray at_ => match r with
    | 0 :: _ => newarray.typeOf at_ = .int ∧ Cond.arrayClass .int ∈ Ts
    | 1 :: _ => newarray.typeOf at_ = .byte ∧ Cond.arrayClass .byte ∈ Ts
    | 2 :: _ => newarray.typeOf at_ = .boolean ∧ Cond.arrayClass .boolean ∈ Ts
    | 3 :: _ => newarray.typeOf at_ = .long ∧ Cond.arrayClass .long ∈ Ts
    | _ => True
  | .anewarray ix => Cond.classLink own ix C4 ∈ Ts
  | _ => True
/-- what a new object holds -/
def g_DF (cl : List vw_C) (t : gT) (df : Nat → List Value) : Prop := ∀ (ci : Nat) (q : vw_C), cl[ci]? = some q → (df ci).length = q.2.2 ∧ (∀ j, j < q.2.2 → defaultValue (t.1 ci j) = vp_V (df ci) j) ∧ ∀ (ad cst : Nat → Nat), (df ci).map (g_sh ad cst) = df ci
section GN
variable {p : Program} {l : Launch} {e : Env} {R : Room} {s : State} {m : MethodId} {args : Array Value} {below : List Frame} {meth : Method} {c : Code} {H : Heap} {locs : List Loc} {cells slots : Nat} {Q : State → Prop}
variable {cc : ByteArray} {pc : Nat} {ls : Array Slot} {D : va_G} {cl : List vw_C} {cA : Nat → ClassId} {C4 : String} {fl lg cst : Nat → Nat} {H0 : Heap} {t : gT} {Ts : List Cond} {own : String} {df : Nat → List Value}
theorem g_newarr (hx : p.tables.exec = Jvm.exec) (hb : c.code = cc) (hts : ∀ w ∈ Ts, w.before args s = true) (hK : va_K D cl (g_tys cA C4) s) (hfl : ∀ i, fl (lg i) = i) {at_ : ArrayType} {ty : FieldType} (h1 : newarray.typeOf at_ = ty) (h2 : Cond.arrayClass ty ∈ Ts) {t0 : Nat} (ht0 : (g_tys cA C4)[t0]? = some (cA t0, ty)) (hprim : ∀ C, ty ≠ .object C) (hby : componentBytes ty ≤ 8)
    {n : Int32} {st : List Value} {h : gH} {d : (Nat → Int32) ⊕ (Nat → Int64) ⊕ (Nat → UInt32) ⊕ (Nat → UInt64) ⊕ (Nat → Option Nat)} (hd0 : ∀ N, vp_cell (cA t0) (g_shd (fun j => H0.size + fl j) (N, d)) = arrV (cA t0) N (fun _ => defaultValue ty))
    {k : Nat} {h' : gH} (hin : ¬ (n < 0 ∨ 1000000 < n.toNatClampNeg)) (hp : g_push lg h n.toNatClampNeg (.inl (t0, n.toNatClampNeg, d)) = some (k, h')) (hd : decode cc pc = .ok (.newarray at_, 2))
    (hH : g_HH D cl (g_tys cA C4) fl lg cst H0 h H) (hrc : cells + (h'.1.1 - h.1.1) ≤ R.cells) (hrs : slots + (h'.1.2 - h.1.2) ≤ R.slots)
    (kk : ∀ (H' : Heap), g_HH D cl (g_tys cA C4) fl lg cst H0 h' H' → W p l e R s m args below meth c H' locs (cells + (h'.1.1 - h.1.1)) (slots + (h'.1.2 - h.1.2)) Q (F0 m (pc + 2) ls ((Value.ref k :: st).map (g_sh (fun j => H0.size + fl j) cst)))) :
    W p l e R s m args below meth c H locs cells slots Q (F0 m pc ls ((Value.int n :: st).map (g_sh (fun j => H0.size + fl j) cst))) := by
  have hn : ¬ n < 0 := fun z => hin (Or.inl z)
  have hN : n.toNatClampNeg ≤ 1000000 := Nat.not_lt.mp fun z => hin (Or.inr z)
  have hpp : h'.1 = (h.1.1 + 1, h.1.2 + n.toNatClampNeg) := by
    unfold g_push at hp
    split at hp
    · cases hp; rfl
    · cases hp
  have e1 : h'.1.1 - h.1.1 = 1 := by rw [hpp]; show h.1.1 + 1 - h.1.1 = 1; omega
  have e2 : h'.1.2 - h.1.2 = n.toNatClampNeg := by rw [hpp]; show h.1.2 + n.toNatClampNeg - h.1.2 = _; omega
  rw [e1, e2] at kk
  rw [e1] at hrc
  rw [e2] at hrs
  refine va_newaK hx hb (hts _ (by rw [h1]; exact h2)) rfl hd rfl hn rfl (by rw [h1]; exact Nat.le_trans (Nat.mul_le_mul hN hby) (by decide)) hrc hrs rfl fun H1 cA' f1 f2 f3 _ f5 => ?_
  have hc : cA' = cA t0 := by
    have h9 := (hK.2 t0 _ ht0).2
    rw [h1] at f5
    cases ty with
    | object C => exact absurd rfl (hprim C)
    | _ => exact Option.some.inj (f5.symm.trans h9)
  subst hc
  obtain ⟨g1, -, g3⟩ := hH.push hfl hp f2 f3 (show H1[H.size]? = some (vp_cell ((g_tys cA C4).getD t0 (0, .int)).1 (g_shd (fun j => H0.size + fl j) (n.toNatClampNeg, d))) by
    rw [f1, h1, show ((g_tys cA C4).getD t0 (0, .int)).1 = cA t0 by rw [List.getD_eq_getElem?_getD, ht0]; rfl, hd0])
  have h7 := kk H1 g3
  rw [List.map_cons, show g_sh (fun j => H0.size + fl j) cst (Value.ref k) = .ref H.size by show Value.ref (H0.size + fl k) = _; rw [g1]] at h7
  exact h7
set_option maxHeartbeats 4000000 in
theorem g_new_ok (hx : p.tables.exec = Jvm.exec) (hb : c.code = cc) (hts : ∀ w ∈ Ts, w.before args s = true) (hown : s.vm.findClass own = some m.cls) (hK : va_K D cl (g_tys cA C4) s) (hCL : g_CL cl t Ts C4) (hDF : g_DF cl t df) (hAO : va_AO C4 s) (hfl : ∀ i, fl (lg i) = i)
    {I : Instr} {r : List Nat} {st st' : List Value} {h h' : gH} {len : Nat} (hS : g_new lg df I r st h = some (st', h')) (hd : decode cc pc = .ok (I, len)) (hl : len = g_len I) (hok : g_newok cl Ts C4 own I r)
    (hH : g_HH D cl (g_tys cA C4) fl lg cst H0 h H) (hrc : cells + (h'.1.1 - h.1.1) ≤ R.cells) (hrs : slots + (h'.1.2 - h.1.2) ≤ R.slots)
    (kk : ∀ (H' : Heap), g_HH D cl (g_tys cA C4) fl lg cst H0 h' H' → W p l e R s m args below meth c H' locs (cells + (h'.1.1 - h.1.1)) (slots + (h'.1.2 - h.1.2)) Q (F0 m (pc + g_len I) ls (st'.map (g_sh (fun j => H0.size + fl j) cst)))) :
    W p l e R s m args below meth c H locs cells slots Q (F0 m pc ls (st.map (g_sh (fun j => H0.size + fl j) cst))) := by
  subst hl
  unfold g_new at hS
  split at hS
  next ix =>
    split at hS
    next ci r' =>
      cases hp : g_push lg h (df ci).length (.inr (ci, df ci)) with
      | none => rw [hp] at hS; cases hS
      | some z =>
        rw [hp] at hS
        cases hS
        obtain ⟨⟨C, T, N⟩, hc, hlk, hins, hini⟩ := hok
        obtain ⟨hin, hty, hnm⟩ := hCL.1 _ _ hc
        obtain ⟨d1, d2, d3⟩ := hDF _ _ hc
        obtain ⟨k, h'⟩ := z
        have hKn := hK.1 _ _ hc
        have hpp : h'.1 = (h.1.1 + 1, h.1.2 + N) := by
          unfold g_push at hp
          split at hp
          · cases hp; rw [d1]
          · cases hp
        have e1 : h'.1.1 - h.1.1 = 1 := by rw [hpp]; show h.1.1 + 1 - h.1.1 = 1; omega
        have e2 : h'.1.2 - h.1.2 = N := by rw [hpp]; show h.1.2 + N - h.1.2 = _; omega
        simp only [e1, e2] at kk hrc hrs
        refine W.newcK hx hb hown (hts _ hlk) (hts _ hins) (hts _ hini) rfl hd hrc hrs hKn.2.1 rfl fun H1 kC hkC f1 f2 f3 => ?_
        obtain ⟨g1, -, g3⟩ := hH.push hfl hp f2 f3 ⟨_, hc, (u_born (t.1 ci) hts hin hKn hkC f1 hty).to (fun j hj => by rw [d3]; exact d2 j hj)⟩
        have h7 := kk H1 g3
        rw [List.map_cons, show g_sh (fun j => H0.size + fl j) cst (Value.ref k) = .ref H.size by show Value.ref (H0.size + fl k) = _; rw [g1]] at h7
        exact h7
    next => cases hS
  next at_ =>
    split at hS
    next r' n q =>
      split at hS
      · cases hS
      next hin =>
        cases hp : g_push lg h n.toNatClampNeg (.inl (0, n.toNatClampNeg, .inl fun _ => 0)) with
        | none => rw [hp] at hS; cases hS
        | some z => rw [hp] at hS; cases hS; exact g_newarr hx hb hts hK hfl hok.1 hok.2 rfl (fun C h => by cases h) (by decide) (fun N => rfl) hin hp hd hH hrc hrs kk
    next r' n q =>
      split at hS
      · cases hS
      next hin =>
        cases hp : g_push lg h n.toNatClampNeg (.inl (1, n.toNatClampNeg, .inl fun _ => 0)) with
        | none => rw [hp] at hS; cases hS
        | some z => rw [hp] at hS; cases hS; exact g_newarr hx hb hts hK hfl hok.1 hok.2 rfl (fun C h => by cases h) (by decide) (fun N => rfl) hin hp hd hH hrc hrs kk
    next r' n q =>
      split at hS
      · cases hS
      next hin =>
        cases hp : g_push lg h n.toNatClampNeg (.inl (2, n.toNatClampNeg, .inl fun _ => 0)) with
        | none => rw [hp] at hS; cases hS
        | some z => rw [hp] at hS; cases hS; exact g_newarr hx hb hts hK hfl hok.1 hok.2 rfl (fun C h => by cases h) (by decide) (fun N => rfl) hin hp hd hH hrc hrs kk
    next r' n q =>
      split at hS
      · cases hS
      next hin =>
        cases hp : g_push lg h n.toNatClampNeg (.inl (3, n.toNatClampNeg, .inr (.inl fun _ => 0))) with
        | none => rw [hp] at hS; cases hS
        | some z => rw [hp] at hS; cases hS; exact g_newarr hx hb hts hK hfl hok.1 hok.2 rfl (fun C h => by cases h) (by decide) (fun N => rfl) hin hp hd hH hrc hrs kk
    next => cases hS
  next ix =>
    split at hS
    next n q =>
      split at hS
      · cases hS
      next hin =>
        cases hp : g_push lg h n.toNatClampNeg (.inl (4, n.toNatClampNeg, .inr (.inr (.inr (.inr fun _ => none))))) with
        | none => rw [hp] at hS; cases hS
        | some z =>
          rw [hp] at hS
          cases hS
          obtain ⟨k, h'⟩ := z
          have hn : ¬ n < 0 := fun z => hin (Or.inl z)
          have hN : n.toNatClampNeg ≤ 1000000 := Nat.not_lt.mp fun z => hin (Or.inr z)
          have hpp : h'.1 = (h.1.1 + 1, h.1.2 + n.toNatClampNeg) := by
            unfold g_push at hp
            split at hp
            · cases hp; rfl
            · cases hp
          have e1 : h'.1.1 - h.1.1 = 1 := by rw [hpp]; show h.1.1 + 1 - h.1.1 = 1; omega
          have e2 : h'.1.2 - h.1.2 = n.toNatClampNeg := by rw [hpp]; show h.1.2 + n.toNatClampNeg - h.1.2 = _; omega
          simp only [e1, e2] at kk hrc hrs
          refine W.anew hx hb hown (hts _ hok) (va_AO.use hAO) rfl hd rfl hn (by omega) hrc hrs fun cA' kA comp f1 f2 f3 f4 => ?_
          obtain ⟨_, _, _, _, _, r4⟩ := (hK.2 4 _ rfl).2
          have hc : cA' = cA 4 := Option.some.inj (f1.symm.trans r4)
          subst hc
          obtain ⟨g1, -, g3⟩ := hH.push hfl hp (H1 := H.push { cls := cA 4, slots := Array.replicate n.toNatClampNeg .null, vm := .none }) (by rw [Array.size_push]) (fun q hq => by rw [Array.getElem?_push, if_neg (Nat.ne_of_lt hq)])
            (show (H.push _)[H.size]? = some (vp_cell (cA 4) (n.toNatClampNeg, .inr (.inr (.inr (.inr fun _ => none))))) by rw [Array.getElem?_push_size, vp_cell_q, ← arrV_new]; rfl)
          have h7 := kk _ g3
          rw [List.map_cons, show g_sh (fun j => H0.size + fl j) cst (Value.ref k) = .ref H.size by show Value.ref (H0.size + fl k) = _; rw [g1]] at h7
          exact h7
    next => cases hS
  next => cases hS
end GN
