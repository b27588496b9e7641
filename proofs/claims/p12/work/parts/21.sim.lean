section GS
variable {D : va_G} {cl : List vw_C} {cA : Nat → ClassId} {C4 host : String} {fl lg cst : Nat → Nat} {H0 : Heap} {t : gT} {Ts : List Cond} {Ns : List (String × Nat × MethodName × String)} {df : Nat → List Value} {tb : List (List Int32)} {tn : Nat → String × Nat × String} {mt : Nat → gM}
/-- how a method that is called ends -/
theorem g_end {p : Program} {l : Launch} {e : Env} {R : Room} {s : State} {m : MethodId} {args : Array Value} {below : List Frame} {meth : Method} {c : Code} {v : Option Value} {h' : gH} {ret : Option FieldType} {TC TS : Nat} (hx : p.tables.exec = Jvm.exec) (hr : meth.sig.returnType = ret) (hlocks : meth.locks = false)
    {pc : Nat} {I : Instr} {len : Nat} {ls : Array Slot} {st : List Value} {H2 : Heap} {locs2 : List Loc} (hd : decode c.code pc = .ok (I, len)) (hl : g_len I = 0 ∨ len = g_len I) (hret : g_ret ret I st = some v) (hH : g_HH D cl (g_tys cA C4) fl lg cst H0 h' H2) (hlo : ∀ q ∈ locs2, H0.size ≤ q.base) :
    W p l e R s m args below meth c H2 locs2 TC TS (MQ below (fun _ _ oc t => oc = .returned (v.map (g_sh (fun j => H0.size + fl j) cst)) ∧ g_HH D cl (g_tys cA C4) fl lg cst H0 h' t.heap) args s TC TS (fun q => H0.size ≤ q)) (F0 m pc ls (st.map (g_sh (fun j => H0.size + fl j) cst))) := by
  unfold g_ret at hret
  split at hret
  · have hl : len = 1 := hl.resolve_left (fun h => by cases h)
    subst hl
    split at hret
    next ty x =>
      split at hret
      next hn =>
        cases hret
        exact W.zret hx rfl hr hn (fun t ht _ => ⟨rfl, by rw [ht]; exact hH⟩) hlo hd
      next => cases hret
    next => cases hret
  · have hl : len = 1 := hl.resolve_left (fun h => by cases h)
    subst hl
    split at hret
    next x =>
      cases hret
      exact W.lret hx rfl hr (fun t ht _ => ⟨rfl, by rw [ht]; exact hH⟩) hlo hd
    next => cases hret
  · have hl : len = 1 := hl.resolve_left (fun h => by cases h)
    subst hl
    split at hret
    next =>
      cases hret
      exact W.vret hx rfl hr (fun t ht _ => ⟨rfl, by rw [ht]; exact hH⟩) hlo hd
    next => cases hret
  · cases hret
set_option maxHeartbeats 8000000 in
theorem g_sim (G : g_OK cl t Ts Ns C4 host df tn fl lg mt) (hbl : cst 0 < H0.size) (l : Launch) : ∀ (n d M pc : Nat) (loc : List (Nat × Value)) (st : List Value) (h : gH) (v : Option Value) (h' : gH), g_exec t tb lg df mt n d M pc loc st h = some (v, h') →
    ∀ {p : Program} {e : Env} {R : Room} {s : State} {m : MethodId} {args : Array Value} {below : List Frame} {meth : Method} {c : Code} {H : Heap} {locs : List Loc} {cells slots : Nat} {Q : State → Prop} {ls : Array Slot} (TC TS : Nat),
      p.tables.exec = Jvm.exec → c.code = (mt M).1.2.1 → c.maxLocals = (mt M).1.2.2.1 → s.vm.findClass (mt M).1.1.cls = some m.cls → meth.name = (mt M).1.1.name → (∀ w ∈ Ts, w.before args s = true) → g_KK Ns D cl cA C4 t tb tn cst H0 s →
      g_HH D cl (g_tys cA C4) fl lg cst H0 h H → lv_has ls (mt M).1.2.2.1 (g_shl (fun j => H0.size + fl j) cst loc) → (∀ q ∈ locs, H0.size ≤ q.base) →
      d + 1 ≤ R.frames → 64 * (d + 1) ≤ R.locals → cells + h'.1.1 = TC + h.1.1 → slots + h'.1.2 = TS + h.1.2 → TC ≤ R.cells → TS ≤ R.slots →
      (∀ (pc : Nat) (I : Instr) (len : Nat) (ls : Array Slot) (st : List Value) (H2 : Heap) (locs2 : List Loc), decode c.code pc = .ok (I, len) → (g_len I = 0 ∨ len = g_len I) → g_ret (mt M).1.2.2.2 I st = some v → g_HH D cl (g_tys cA C4) fl lg cst H0 h' H2 → (∀ q ∈ locs2, H0.size ≤ q.base) → W p l e R s m args below meth c H2 locs2 TC TS Q (F0 m pc ls (st.map (g_sh (fun j => H0.size + fl j) cst)))) →
      W p l e R s m args below meth c H locs cells slots Q (F0 m pc ls (st.map (g_sh (fun j => H0.size + fl j) cst))) := by
  obtain ⟨hCL, hDF, hfl, hgood, hall⟩ := id G
  intro n
  induction n with
  | zero => intro d M pc loc st h v h' he; cases he
  | succ n ih =>
    intro d M pc loc st h v h' he p e R s m args below meth c H locs cells slots Q ls TC TS hx hb hml hown hnm hts hKK hH hl hlo hfr hro hTC hTS hRC hRS hend
    have hm0 := g_exec_mono _ _ _ _ _ _ _ _ _ he
    unfold g_exec at he
    split at he
    · cases he
    next I r hI =>
      obtain ⟨⟨len, hd, hlen⟩, hbr, hme, hne, htx, hna, hiv⟩ := hall M pc I r hI
      rw [← hnm] at hme
      split at he
      next pc' loc' st' h1 hs =>
        have hm1 := g_exec_mono _ _ _ _ _ _ _ _ _ he
        unfold g_step at hs
        split at hs
        next hp =>
          cases hs
          have hle : len = g_len I := hlen.resolve_left (fun h0 => by have := (g_switch_none h0 st 0 loc t r h lg df tb).1; rw [hp] at this; cases this)
          exact g_pure_ok hx hb hp hd hle (ih _ _ _ _ _ _ _ _ he TC TS hx hb hml hown hnm hts hKK hH hl hlo hfr hro hTC hTS hRC hRS hend)
        next =>
          split at hs
          next hp =>
            cases hs
            have hle : len = g_len I := hlen.resolve_left (fun h0 => by have := (g_switch_none h0 st (mt M).1.2.2.1 loc t r h lg df tb).2.1; rw [hp] at this; cases this)
            exact g_loc_ok hx hb hp hd hle hl (fun ls' hl' => ih _ _ _ _ _ _ _ _ he TC TS hx hb hml hown hnm hts hKK hH hl' hlo hfr hro hTC hTS hRC hRS hend)
          next =>
            split at hs
            next hp =>
              cases hs
              exact g_br_ok hx hb hp hd hlen hbr (ih _ _ _ _ _ _ _ _ he TC TS hx hb hml hown hnm hts hKK hH hl hlo hfr hro hTC hTS hRC hRS hend)
            next =>
              split at hs
              next hp =>
                cases hs
                have hle : len = g_len I := hlen.resolve_left (fun h0 => by have := (g_switch_none h0 st 0 loc t r h lg df tb).2.2.1; rw [hp] at this; cases this)
                exact g_mem_ok hx hb hts hown hKK.1 hCL hKK.2.1 hbl hp hd hle hme hH hlo (fun H' locs' hc hH' hlo' => ih _ _ _ _ _ _ _ _ he TC TS hx hb hml hown hnm hts hKK hH' hl hlo' hfr hro (by rw [hc]; exact hTC) (by rw [hc]; exact hTS) hRC hRS hend)
              next =>
                split at hs
                next hp =>
                  cases hs
                  have hle : len = g_len I := hlen.resolve_left (fun h0 => by have := (g_switch_none h0 st 0 loc t r h lg df tb).2.2.2.1; rw [hp] at this; cases this)
                  have hmn := g_new_mono hp
                  exact g_new_ok hx hb hts hown hKK.1 hCL hDF hKK.2.2.2.1 hfl hp hd hle hne hH (by omega) (by omega) (fun H' hH' => ih _ _ _ _ _ _ _ _ he TC TS hx hb hml hown hnm hts hKK hH' hl hlo hfr hro (by omega) (by omega) hRC hRS hend)
                next =>
                  split at hs
                  next hp =>
                    cases hs
                    have hle : len = g_len I := hlen.resolve_left (fun h0 => by have := (g_switch_none h0 st 0 loc t r h lg df tb).2.2.2.2.1; rw [hp] at this; cases this)
                    exact g_txt_ok hx hb hts hown hKK.2.2.1 hH.2.1 hp hd hle htx (ih _ _ _ _ _ _ _ _ he TC TS hx hb hml hown hnm hts hKK hH hl hlo hfr hro hTC hTS hRC hRS hend)
                  next =>
                    split at hs
                    next hp =>
                      cases hs
                      have hle : len = g_len I := hlen.resolve_left (fun h0 => by have := (g_switch_none h0 st 0 loc t r h lg df tb).2.2.2.2.2; rw [hp] at this; cases this)
                      exact g_nat_ok hx hb (by rw [hml, hl.1]) hts hown hKK.1 hp hd hle hna hH hlo (by omega) (by omega) (by omega) (by omega) (fun H' locs' hc hH' hlo' => ih _ _ _ _ _ _ _ _ he TC TS hx hb hml hown hnm hts hKK hH' hl hlo' hfr hro (by rw [hc]; exact hTC) (by rw [hc]; exact hTS) hRC hRS hend)
                    next => cases hs
      next hsn =>
        clear hsn
        split at he
        next v1 hret =>
          cases he
          have e1 : TC = cells := by omega
          have e2 : TS = slots := by omega
          subst e1; subst e2
          exact hend pc I len ls st H locs (by rw [hb]; exact hd) hlen hret hH hlo
        next hrn =>
          clear hrn
          split at he
          next M' as rest d' hi =>
            split at he
            next v1 h1 hc =>
              have hm1 := g_exec_mono _ _ _ _ _ _ _ _ _ hc
              have hm2 := g_exec_mono _ _ _ _ _ _ _ _ _ he
              have met : ∀ (na : Nat), g_called Ts (mt M') na → (lg_sl as).length ≤ (mt M').1.2.2.1 → Met l (mt M').1.1 (Cond.code (mt M').1.1 (mt M').1.2.1 (mt M').1.2.2.1 (mt M').1.2.2.2 :: Ts) { frames := d' + 1, cells := h1.1.1 - h.1.1, slots := h1.1.2 - h.1.2, locals := 64 * (d' + 1) }
                  (va_Pc (as.map (g_sh (fun j => H0.size + fl j) cst)) (fun U => g_KK Ns D cl cA C4 t tb tn cst H0 U ∧ g_HH D cl (g_tys cA C4) fl lg cst H0 h U.heap)) (fun _ _ oc t => oc = .returned (v1.map (g_sh (fun j => H0.size + fl j) cst)) ∧ g_HH D cl (g_tys cA C4) fl lg cst H0 h1 t.heap) (h1.1.1 - h.1.1) (h1.1.2 - h.1.2) (fun q => H0.size ≤ q) := by
                intro na hcal hsl
                refine Met.ofW (cc := (mt M').1.2.1) (maxL := (mt M').1.2.2.1) (ret := (mt M').1.2.2.2) hcal.1 rfl ?_
                intro p e s m args below meth c s₁ B hml hv
                obtain ⟨rfl, hKK, hHH⟩ := hv
                have hts := atoms_spec (ws := Cond.code (mt M').1.1 (mt M').1.2.1 (mt M').1.2.2.1 (mt M').1.2.2.2 :: Ts) B.pre
                have hl := lv_entry (as.map (g_sh (fun j => H0.size + fl j) cst)) (n := (mt M').1.2.2.1) (by rw [g_sl_sh]; exact hsl)
                rw [lg_entry_eq]
                generalize (lg_sl (as.map (g_sh (fun j => H0.size + fl j) cst)) ++ List.replicate ((mt M').1.2.2.1 - (lg_sl (as.map (g_sh (fun j => H0.size + fl j) cst))).length) Slot.unset).toArray = ls at hl ⊢
                rw [g_args_sh] at hl
                exact ih d' M' 0 (lv_args 0 as) [] h v1 h1 hc (h1.1.1 - h.1.1) (h1.1.2 - h.1.2) B.exec B.bytes hml (findClass_of_methodNamed B.named) (name_of_methodNamed B.named B.method).1 (fun w hw => hts w (List.mem_cons_of_mem _ hw)) hKK hHH hl (fun q hq => by cases hq) (Nat.le_refl _) (Nat.le_refl _) (by omega) (by omega) (Nat.le_refl _) (Nat.le_refl _)
                  (fun pc I len ls st H2 locs2 q1 q2 q3 q4 q5 => g_end B.exec B.returns B.notSynchronized q1 q2 q3 q4 q5)
              have good : ∀ (na : Nat), g_called Ts (mt M') na → GoodIn Ts (Cond.code (mt M').1.1 (mt M').1.2.1 (mt M').1.2.2.1 (mt M').1.2.2.2 :: Ts) := by
                intro na hcal w hw
                have hw2 : w ∈ Ts := (List.mem_cons.mp hw).elim (fun e => by rw [e]; exact hcal.2.2.1) id
                exact ⟨hw2, good_of_word (hgood w hw2)⟩
              have cb : ∀ (na ix : Nat), g_called Ts (mt M') na → (Cond.methodLink (mt M).1.1.cls ix (mt M').1.1).before args s = true → CallB R s args (mt M).1.1.cls ix (mt M').1.1 (mt M').1.2.1 (mt M').1.2.2.1 (mt M').1.2.2.2 (Cond.code (mt M').1.1 (mt M').1.2.1 (mt M').1.2.2.1 (mt M').1.2.2.2 :: Ts) { frames := d' + 1, cells := h1.1.1 - h.1.1, slots := h1.1.2 - h.1.2, locals := 64 * (d' + 1) } (h1.1.1 - h.1.1) (h1.1.2 - h.1.2) na := by
                intro na ix hcal hlk
                have h45 := hcal.2.1
                exact callB_of na hts (good na hcal) rfl rfl rfl (hts _ hcal.2.2.2.1) hlk hcal.2.2.2.2 ⟨hfr, by show 8 + ((mt M').1.2.2.1 + 11) + 64 * (d' + 1) ≤ R.locals; omega⟩
              have pre : ∀ U : State, U.heap = H → s.WarmedH U.vm → va_Pc (as.map (g_sh (fun j => H0.size + fl j) cst)) (fun U => g_KK Ns D cl cA C4 t tb tn cst H0 U ∧ g_HH D cl (g_tys cA C4) fl lg cst H0 h U.heap) (as.map (g_sh (fun j => H0.size + fl j) cst)).toArray U :=
                fun U hU hW => ⟨rfl, hKK.warm hW, by rw [hU]; exact hH⟩
              have blind : FrameBlind (va_Pc (as.map (g_sh (fun j => H0.size + fl j) cst)) (fun U => g_KK Ns D cl cA C4 t tb tn cst H0 U ∧ g_HH D cl (g_tys cA C4) fl lg cst H0 h U.heap)) :=
                fun a U g mk q => ⟨q.1, q.2.1.same rfl, q.2.2⟩
              have fin : ∀ {st0 : List Value}, va_Run p l e R s m args below meth c H locs cells slots (h1.1.1 - h.1.1) (h1.1.2 - h.1.2) (F0 m pc ls st0) (rest.map (g_sh (fun j => H0.size + fl j) cst)) (fun (_ : State) (oc : Outcome) (t : State) => oc = .returned (v1.map (g_sh (fun j => H0.size + fl j) cst)) ∧ g_HH D cl (g_tys cA C4) fl lg cst H0 h1 t.heap) (fun q => H0.size ≤ q) →
                  W p l e R s m args below meth c H locs cells slots Q (F0 m pc ls st0) := by
                intro st0 hrun
                refine g_after hrun fun v0 st₀ tt locs1 hq hlo1 => ?_
                obtain ⟨hv0, hH1⟩ := hq
                cases hv0
                have h9 := ih _ _ _ _ _ _ _ _ he (p := p) (e := e) (R := R) (s := s) (m := m) (args := args) (below := below) (meth := meth) (c := c) (H := tt.heap) (locs := locs1) (cells := cells + (h1.1.1 - h.1.1)) (slots := slots + (h1.1.2 - h.1.2)) (Q := Q) (ls := ls) TC TS hx hb hml hown hnm hts hKK hH1 hl (fun q hq => (hlo1 q hq).elim (hlo q) id) hfr hro (by omega) (by omega) hRC hRS hend
                rw [List.map_append] at h9
                cases v1 <;> exact h9
              have sumr : g_sum rest ≤ 8 → 2 * (F0 m pc ls (st.map (g_sh (fun j => H0.size + fl j) cst))).monitorRoom + ((rest.map (g_sh (fun j => H0.size + fl j) cst)).map fun v => v.category).sum ≤ 8 := by
                intro hs8
                rw [g_sum_sh]
                show 2 * 0 + _ ≤ _
                omega
              have room : cells + (h1.1.1 - h.1.1) ≤ R.cells ∧ slots + (h1.1.2 - h.1.2) ≤ R.slots := ⟨by omega, by omega⟩
              have stk : ∀ (na : Nat) (ws : List Value), st.drop na = ws → st.map (g_sh (fun j => H0.size + fl j) cst) = (((st.take na).reverse).map (g_sh (fun j => H0.size + fl j) cst)).reverse ++ ws.map (g_sh (fun j => H0.size + fl j) cst) := by
                intro na ws hws
                rw [← List.map_reverse, List.reverse_reverse, ← hws, ← List.map_append, List.take_append_drop]
              have lenA : ∀ (na : Nat), na ≤ st.length → (((st.take na).reverse).map (g_sh (fun j => H0.size + fl j) cst)).length = na := by
                intro na hna
                rw [List.length_map, List.length_reverse, List.length_take]
                omega
              unfold g_inv at hi
              split at hi
              next ix =>
                have hle : len = 3 := hlen.resolve_left (fun h => by cases h)
                subst hle
                split at hi
                next M2 na =>
                  split at hi
                  next hc2 =>
                    cases hi
                    exact fin (va_runS (As := ((st.take na).reverse).map (g_sh (fun j => H0.size + fl j) cst)) ⟨hx, hb, hml, hown, hts⟩ (met na hiv.1 hc2.2.2) ⟨cb na ix hiv.1 (hts _ hiv.2.1), hts _ hiv.2.2⟩ ⟨blind, pre⟩ rfl (lenA na hc2.1) hl.1 (stk na _ rfl) (sumr hc2.2.1) hd room)
                  next => cases hi
                next => cases hi
              next ix =>
                have hle : len = 3 := hlen.resolve_left (fun h => by cases h)
                subst hle
                split at hi
                next M2 na ci =>
                  split at hi
                  next b q hdr =>
                    split at hi
                    next ci' fs hg =>
                      split at hi
                      next hc2 =>
                        cases hi
                        obtain ⟨rfl, hc3, hc4, hc5⟩ := hc2
                        obtain ⟨i1, i2, i3, i4, qq, i5, i6⟩ := hiv
                        have hrec := va_recv hKK.1 (hH.at hg) i5 (ci := ci') (q0 := 0) rfl
                        rw [i6] at hrec
                        exact fin (va_runV (C := (mt M').1.1.cls) (b := H0.size + fl b) (As := ((st.take na).reverse).map (g_sh (fun j => H0.size + fl j) cst)) ⟨hx, hb, hml, hown, hts⟩ (met na i1 hc5) ⟨cb na ix i1 (hts _ i2), hts _ i3, hts _ i4⟩ ⟨blind, hrec, pre⟩ rfl (lenA na hc3) hl.1 (stk na _ hdr) (sumr hc4) hd room)
                      next => cases hi
                    next => cases hi
                  next => cases hi
                next M2 na =>
                  split at hi
                  next j q hdr =>
                    split at hi
                    next hc2 =>
                      cases hi
                      obtain ⟨j1, j2, hc3, hc4, hc5⟩ := hc2
                      obtain ⟨i1, i2, i3, i4, i5⟩ := hiv
                      obtain ⟨cell, k1, k2, k3, k4⟩ := (hKK.2.2.1.2.1.1 (j.toNat - 1) (by omega)).1
                      have e0 : j.toNat - 1 + 1 = j.toNat := by omega
                      simp only [e0] at k1 k4
                      have hrec : ∃ cellB : Cell, H[cst j.toNat]? = some cellB ∧ cellB.vm.isStatics = false ∧ s.vm.findClass (mt M').1.1.cls = some cellB.cls := ⟨cell, by rw [hH.2.1 _ (Nat.not_le.mp k4)]; exact k1, k2, by rw [i5]; exact k3⟩
                      exact fin (va_runV (C := (mt M').1.1.cls) (b := cst j.toNat) (As := ((st.take na).reverse).map (g_sh (fun j => H0.size + fl j) cst)) ⟨hx, hb, hml, hown, hts⟩ (met na i1 hc5) ⟨cb na ix i1 (hts _ i2), hts _ i3, hts _ i4⟩ ⟨blind, hrec, pre⟩ rfl (lenA na hc3) hl.1 (stk na _ hdr) (sumr hc4) hd room)
                    next => cases hi
                  next => cases hi
                next => cases hi
              next ix =>
                have hle : len = 3 := hlen.resolve_left (fun h => by cases h)
                subst hle
                split at hi
                next M2 na =>
                  split at hi
                  next b q hdr =>
                    split at hi
                    next hc2 =>
                      cases hi
                      obtain ⟨hc3, hc4, hc5⟩ := hc2
                      obtain ⟨i1, i2, i3, i4, i5⟩ := hiv
                      have hcb := cb na ix i1 (hts _ i2)
                      have hmet := met na i1 hc5
                      rw [i5] at hcb hmet
                      exact fin (va_runI (b := H0.size + fl b) (As := ((st.take na).reverse).map (g_sh (fun j => H0.size + fl j) cst)) ⟨hx, hb, hml, hown, hts⟩ hmet ⟨hcb, i4, hts _ i3⟩ ⟨blind, pre⟩ rfl (lenA na hc3) hl.1 (stk na _ hdr) (sumr hc4) hd room)
                    next => cases hi
                  next => cases hi
                next M2 na =>
                  split at hi
                  next b q hdr =>
                    split at hi
                    next hc2 =>
                      cases hi
                      obtain ⟨hc3, hc4, hc5⟩ := hc2
                      obtain ⟨i1, i2, i3, i4, i5⟩ := hiv
                      have hmet := met na i1 hc5
                      have hgd := good na i1
                      have hcode := hts _ i1.2.2.1
                      rw [i5] at hmet hgd hcode
                      have h45 := i1.2.1
                      exact fin (va_runIN (b := H0.size + fl b) (host := host) (As := ((st.take na).reverse).map (g_sh (fun j => H0.size + fl j) cst)) ⟨hx, hb, hml, hown, hts⟩ hmet
                        ⟨⟨⟨rfl, rfl, hfr, by show 8 + ((mt M').1.2.2.1 + 11) + 64 * (d' + 1) ≤ R.locals; omega, pay_in hts hgd, List.mem_cons_self⟩, hcode, hts _ i1.2.2.2.1, ⟨i1.2.2.2.2.1, i1.2.2.2.2.2.1⟩, fun sig hsig => by have h2 := i1.2.2.2.2.2.2; rw [hsig] at h2; exact (Option.some.inj h2).symm, va_Nw.use rfl (hKK.2.2.2.2 _ i2)⟩, i4, hts _ i3⟩ ⟨blind, pre⟩ rfl (lenA na hc3) hl.1 (stk na _ hdr) (sumr hc4) hd room)
                    next => cases hi
                  next => cases hi
                next => cases hi
              next => cases hi
            next => cases he
          next => cases he
end GS
