/-! natives -/
section GC
variable {p : Program} {l : Launch} {e : Env} {R : Room} {s : State} {m : MethodId} {args : Array Value} {below : List Frame} {meth : Method} {c : Code} {H : Heap} {locs : List Loc} {cells slots : Nat} {Q : State → Prop}
variable {cc : ByteArray} {pc : Nat} {ls : Array Slot} {D : va_G} {cl : List vw_C} {cA : Nat → ClassId} {C4 : String} {fl lg cst : Nat → Nat} {H0 : Heap} {Ts : List Cond} {own : String} {rest : List Value}
/-- System.arraycopy between rows of ints: where it was written, how large the heap is -/
theorem g_copy (hx : p.tables.exec = Jvm.exec) (hb : c.code = cc) (hml : c.maxLocals = ls.size) {index : Nat} (hown : s.vm.findClass own = some m.cls) (hlink : (Cond.methodLink own index arraycopyName).before args s = true) (hnat : (Cond.native arraycopyName).before args s = true) (hstat : (Cond.static arraycopyName).before args s = true) (hini : (Cond.initialized "java/lang/System").before args s = true)
    {a0 a : Nat} {c0 : ClassId} {n0 n1 : Nat} {f g : Nat → Int32} (hK : ArrOfT s c0 .int) (hc0 : H[a0]? = some (vp_cell c0 (n0, .inl f))) (hc1 : H[a]? = some (vp_cell c0 (n1, .inl g)))
    {sp dp n : Int32} (h1 : ¬ sp < 0) (h2 : ¬ dp < 0) (h3 : ¬ n < 0) (h4 : sp.toNatClampNeg + n.toNatClampNeg ≤ n0) (h5 : dp.toNatClampNeg + n.toNatClampNeg ≤ n1)
    (hframes : 1 ≤ R.frames) (hlocals : (rest.map fun v => v.category).sum + (nativeFrameWords "java/lang/System" "arraycopy" 5 + 11) ≤ R.locals) (hdg : decode cc pc = .ok (.invokestatic index, 3))
    (kk : ∀ (H1 : Heap) (locs1 : List Loc), H1[a]? = some (vp_cell c0 (n1, .inl (va_cpy f g sp.toNatClampNeg dp.toNatClampNeg n.toNatClampNeg))) → H1.size = H.size → (∀ q, q ≠ a → H1[q]? = H[q]?) → (∀ q ∈ locs1, q ∈ locs ∨ q.base = a) → W p l e R s m args below meth c H1 locs1 cells slots Q (F0 m (pc + 3) ls rest)) :
    W p l e R s m args below meth c H locs cells slots Q (F0 m pc ls (.int n :: .int dp :: .ref a :: .int sp :: .ref a0 :: rest)) := by
  have nn : ∀ z : Int32, ¬ z < 0 → z.toInt = (z.toNatClampNeg : Int) := by
    intro z hz
    have hz0 : (0 : Int) ≤ z.toInt := by
      have := Int32.not_lt.mp hz
      simpa using Int32.le_iff_toInt_le.mp this
    show z.toInt = ((z.toInt.toNat : Nat) : Int)
    omega
  intro T hT X
  obtain ⟨-, k0, hk0, cm0, hkk0⟩ := hK n0 (fun j => .int (f j))
  obtain ⟨-, k1, hk1, cm1, hkk1⟩ := hK n1 (fun j => .int (g j))
  obtain ⟨vm', X', step⟩ := X.arraycopy hx hown hlink hnat hstat hini (src := a0) (dst := a) (cs := vp_cell c0 (n0, .inl f)) (cd := vp_cell c0 (n1, .inl g)) (srcPos := sp) (destPos := dp) (n := n) (by rw [hT]; exact hc0) (by rw [hT]; exact hc1)
    (fun _ h => by cases h) (fun _ h => by cases h) (fun h => by cases h) (fun h => by cases h) hk0 hk1 hkk0 hkk1 (by simp [refKind]) h1 h2 h3
    (by rw [nn sp h1, nn n h3]; show ¬ _ > ((arrV c0 n0 (fun j => .int (f j))).slots.size : Int); rw [arrV_size]; omega)
    (by rw [nn dp h2, nn n h3]; show ¬ _ > ((arrV c0 n1 (fun j => .int (g j))).slots.size : Int); rw [arrV_size]; omega)
    (fun vm₁ _ i hi => by
      have e : (vp_cell c0 (n0, .inl f)).slots.getD (sp.toNatClampNeg + i) .null = .int (f (sp.toNatClampNeg + i)) := by
        show (arrV c0 n0 (fun j => .int (f j))).slots.getD _ _ = _
        rw [Array.getD_eq_getD_getElem?, arrV_read _ _ (by omega)]
        rfl
      refine ⟨?_, ?_⟩
      · rw [e]
        rfl
      · rw [e]
        exact trivial)
    (g := F0 m pc ls (.int n :: .int dp :: .ref a :: .int sp :: .ref a0 :: rest)) rfl (by rw [hml]) (rest := rest) rfl (by rw [hb]; exact hdg) hframes (by show 2 * 0 + _ + _ ≤ _; omega)
  have e1 : copied (vp_cell c0 (n0, .inl f)) (vp_cell c0 (n1, .inl g)) sp dp n = vp_cell c0 (n1, .inl (va_cpy f g sp.toNatClampNeg dp.toNatClampNeg n.toNatClampNeg)) := va_copied (fun z => .int z) c0 c0 f g h4
  rw [e1] at X' step
  have hl : a < H.size := (Array.getElem?_eq_some_iff.mp hc1).1
  have hheap : ((T.setVm vm').setCell a (vp_cell c0 (n1, .inl (va_cpy f g sp.toNatClampNeg dp.toNatClampNeg n.toNatClampNeg)))).heap = H.setIfInBounds a (vp_cell c0 (n1, .inl (va_cpy f g sp.toNatClampNeg dp.toNatClampNeg n.toNatClampNeg))) := by rw [← hT]; rfl
  obtain ⟨t, a1, b1⟩ := kk _ _ (by simp [Array.getElem?_setIfInBounds, hl]) (by simp) (fun q hq => by simp [Array.getElem?_setIfInBounds, Ne.symm hq]) (fun q hq => by
      rcases List.mem_append.mp hq with h | h
      · exact Or.inl h
      · obtain ⟨z, -, hz⟩ := List.mem_map.mp h
        rw [← hz]
        exact Or.inr rfl) _ hheap X'
  exact ⟨t, step t a1, b1⟩
theorem g_sum_sh (ad cst : Nat → Nat) (st : List Value) : ((st.map (g_sh ad cst)).map fun v => v.category).sum = g_sum st := by
  unfold g_sum
  rw [List.map_map]
  congr 1
  apply List.map_congr_left
  intro v _
  exact g_sh_cat ad cst v
theorem g_nat_ok (hx : p.tables.exec = Jvm.exec) (hb : c.code = cc) (hml : c.maxLocals = ls.size) (hts : ∀ w ∈ Ts, w.before args s = true) (hown : s.vm.findClass own = some m.cls) (hK : va_K D cl (g_tys cA C4) s)
    {I : Instr} {r : List Nat} {st st' : List Value} {h h' : gH} {len : Nat} (hS : g_nat I r st h = some (st', h')) (hd : decode cc pc = .ok (I, len)) (hl : len = g_len I) (hok : g_natok Ts own I r)
    (hH : g_HH D cl (g_tys cA C4) fl lg cst H0 h H) (hlo : ∀ q ∈ locs, H0.size ≤ q.base) (hfr : 1 ≤ R.frames) (hro : 64 ≤ R.locals) (hcR : cells ≤ R.cells) (hsR : slots ≤ R.slots)
    (kk : ∀ (H' : Heap) (locs' : List Loc), h'.1 = h.1 → g_HH D cl (g_tys cA C4) fl lg cst H0 h' H' → (∀ q ∈ locs', H0.size ≤ q.base) → W p l e R s m args below meth c H' locs' cells slots Q (F0 m (pc + 3) ls (st'.map (g_sh (fun j => H0.size + fl j) cst)))) :
    W p l e R s m args below meth c H locs cells slots Q (F0 m pc ls (st.map (g_sh (fun j => H0.size + fl j) cst))) := by
  subst hl
  unfold g_nat at hS
  split at hS
  · split at hS
    next a q =>
      split at hS
      next hq =>
        cases hS
        exact W.objInit hx hb hown (hts _ hok.1) (hts _ hok.2.1) (hts _ hok.2.2) rfl (by rw [hml]) rfl hd hfr (by rw [g_sum_sh]; show 2 * 0 + _ + _ ≤ _; omega) (kk H locs rfl hH hlo)
      next => cases hS
    next => cases hS
  · split at hS
    next n dp a sp a0 q =>
      split at hS
      next n0 f n1 g hg0 hg1 =>
        split at hS
        · cases hS
        next hc =>
          cases hS
          have c1 : ¬ sp < 0 := fun z => hc (Or.inl z)
          have c2 : ¬ dp < 0 := fun z => hc (Or.inr (Or.inl z))
          have c3 : ¬ n < 0 := fun z => hc (Or.inr (Or.inr (Or.inl z)))
          have c4 : sp.toNatClampNeg + n.toNatClampNeg ≤ n0 := Nat.not_lt.mp fun z => hc (Or.inr (Or.inr (Or.inr (Or.inl z))))
          have c5 : dp.toNatClampNeg + n.toNatClampNeg ≤ n1 := Nat.not_lt.mp fun z => hc (Or.inr (Or.inr (Or.inr (Or.inr (Or.inl z)))))
          have c6 : g_sum st' ≤ 8 := Nat.not_lt.mp fun z => hc (Or.inr (Or.inr (Or.inr (Or.inr (Or.inr z)))))
          refine g_copy hx hb hml hown (hts _ hok.1) (hts _ hok.2.1) (hts _ hok.2.2.1) (hts _ hok.2.2.2) (hK.2 0 _ rfl).1 (hH.2.2 a0 _ hg0).2.2 (hH.2.2 a _ hg1).2.2 c1 c2 c3 c4 c5 hfr (by rw [g_sum_sh, show nativeFrameWords "java/lang/System" "arraycopy" 5 = 7 by decide]; omega) hd fun H1 locs1 e1 z oq hl1 => kk H1 locs1 rfl (hH.put hg1 z oq (g_arr_at e1)) (fun q hq => ?_)
          rcases hl1 q hq with h9 | h9
          · exact hlo q h9
          · rw [h9]; exact Nat.le_add_right _ _
      next => cases hS
    next y x q =>
      split at hS
      next hq =>
        cases hS
        exact va_mmax hx hb hml hown (hts _ hok.1) (hts _ hok.2.1) (hts _ hok.2.2.1) (hts _ hok.2.2.2) hfr (by rw [g_sum_sh]; omega) hcR hsR hd (kk H locs rfl hH hlo)
      next => cases hS
    next y x q =>
      split at hS
      next hq =>
        cases hS
        exact va_mmin hx hb hml hown (hts _ hok.1) (hts _ hok.2.1) (hts _ hok.2.2.1) (hts _ hok.2.2.2) hfr (by rw [g_sum_sh]; omega) hcR hsR hd (kk H locs rfl hH hlo)
      next => cases hS
    next => cases hS
  · cases hS
end GC
