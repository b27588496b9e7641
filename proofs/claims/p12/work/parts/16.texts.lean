/-! texts (String constants): number j + 1 is the text, j + 1 + how many there are its row of bytes -/
def g_txt (tb : List (List Int32)) (I : Instr) (r : List Nat) (st : List Value) : Option (List Value) := match I with
  | .ldc _ => match r with
    | 1 :: j :: _ => if j < tb.length ∧ tb.length < 1000 then some (.float (UInt32.ofNat (j + 1)) :: st) else none
    | _ => none
  | .getfield _ => match r, st with
    | [0], .float j :: q => if 0 < j.toNat ∧ j.toNat ≤ tb.length ∧ tb.length < 1000 then some (.float (UInt32.ofNat (j.toNat + tb.length)) :: q) else none
    | [1], .float j :: q => if 0 < j.toNat ∧ j.toNat ≤ tb.length ∧ tb.length < 1000 then some (.int 0 :: q) else none
    | _, _ => none
  | .arraylength => match st with
    | .float j :: q => if tb.length < j.toNat ∧ j.toNat ≤ 2 * tb.length then some (.int (Int32.ofNat (tb.getD (j.toNat - 1 - tb.length) []).length) :: q) else none
    | _ => none
  | .baload => match st with
    | .int i :: .float j :: q => if tb.length < j.toNat ∧ j.toNat ≤ 2 * tb.length then
        (if i < 0 ∨ (tb.getD (j.toNat - 1 - tb.length) []).length ≤ i.toNatClampNeg then none else some (.int ((tb.getD (j.toNat - 1 - tb.length) []).getD i.toNatClampNeg 0) :: q)) else none
    | _ => none
  | .getstatic _ => match r with
    | [0] => some (.int 1 :: st)
    | [1] => some (.retAddr 0 :: st)
    | _ => none
  | _ => none
/-- the texts' names: class, place in its pool, the text -/
def g_txtok (tn : Nat → String × Nat × String) (Ts : List Cond) (own : String) (I : Instr) (r : List Nat) : Prop := match I with
  | .ldc ix => match r with
    | 1 :: j :: _ => (tn j).1 = own ∧ (tn j).2.1 = ix
    | _ => True
  | .getfield ix => match r with
    | [0] => Cond.fieldLink own ix "java/lang/String" "value" "[B" ∈ Ts
    | [1] => Cond.fieldLink own ix "java/lang/String" "coder" "B" ∈ Ts
    | _ => True
  | .getstatic ix => match r with
    | [0] => Cond.fieldLink own ix "java/lang/String" "COMPACT_STRINGS" "Z" ∈ Ts
    | [1] => Cond.fieldLink own ix "jdk/internal/util/Preconditions" "SIOOBE_FORMATTER" "Ljava/util/function/BiFunction;" ∈ Ts
    | _ => True
  | _ => True
/-- what holds of the texts -/
def g_TX (tb : List (List Int32)) (tn : Nat → String × Nat × String) (cst : Nat → Nat) (H0 : Heap) (U : State) : Prop :=
  (∀ j, j < tb.length → vk_R (tn j).1 (tn j).2.1 (tn j).2.2 (cst (j + 1)) U) ∧ vk_S tb.length (tb.map List.length) tb (fun i => cst (i + 1)) (fun i => cst (i + 1 + tb.length)) (fun q => H0.size ≤ q) U H0 ∧ va_Z "java/lang/String" "COMPACT_STRINGS" "Z" (.int 1) (fun q => H0.size ≤ q) U H0 ∧ va_Z "jdk/internal/util/Preconditions" "SIOOBE_FORMATTER" "Ljava/util/function/BiFunction;" (va_rf (match cst 1000 with | 0 => none | a + 1 => some a)) (fun q => H0.size ≤ q) U H0
theorem g_TX.warm {tb : List (List Int32)} {tn : Nat → String × Nat × String} {cst : Nat → Nat} {H0 : Heap} {s U : State} (hW : s.WarmedH U.vm) (h : g_TX tb tn cst H0 s) : g_TX tb tn cst H0 U :=
  ⟨fun j hj => (h.1 j hj).warm hW, h.2.1.moved hW.alike, h.2.2.1.moved hW.alike, h.2.2.2.moved hW.alike⟩
theorem g_TX.same {tb : List (List Int32)} {tn : Nat → String × Nat × String} {cst : Nat → Nat} {H0 : Heap} {s U : State} (hv : U.vm = s.vm) (h : g_TX tb tn cst H0 s) : g_TX tb tn cst H0 U :=
  ⟨fun j hj => (h.1 j hj).same hv, h.2.1.moved (by rw [hv]; exact Vm.Alike.refl _), h.2.2.1.moved (by rw [hv]; exact Vm.Alike.refl _), h.2.2.2.moved (by rw [hv]; exact Vm.Alike.refl _)⟩
section GX
variable {p : Program} {l : Launch} {e : Env} {R : Room} {s : State} {m : MethodId} {args : Array Value} {below : List Frame} {meth : Method} {c : Code} {H : Heap} {locs : List Loc} {cells slots : Nat} {Q : State → Prop}
variable {cc : ByteArray} {pc : Nat} {ls : Array Slot} {ad cst : Nat → Nat} {H0 : Heap} {Ts : List Cond} {own : String} {tb : List (List Int32)} {tn : Nat → String × Nat × String}
theorem g_len_at (tb : List (List Int32)) (i : Nat) : (tb.map List.length).getD i 0 = (tb.getD i []).length := by
  simp only [List.getD_eq_getElem?_getD, List.getElem?_map]
  cases tb[i]? <;> rfl
set_option maxHeartbeats 4000000 in
theorem g_txt_ok (hx : p.tables.exec = Jvm.exec) (hb : c.code = cc) (hts : ∀ w ∈ Ts, w.before args s = true) (hown : s.vm.findClass own = some m.cls) (hTX : g_TX tb tn cst H0 s) (hold : ∀ q, q < H0.size → H[q]? = H0[q]?)
    {I : Instr} {r : List Nat} {st st' : List Value} {len : Nat} (hS : g_txt tb I r st = some st') (hd : decode cc pc = .ok (I, len)) (hl : len = g_len I) (hok : g_txtok tn Ts own I r)
    (k : W p l e R s m args below meth c H locs cells slots Q (F0 m (pc + g_len I) ls (st'.map (g_sh ad cst)))) : W p l e R s m args below meth c H locs cells slots Q (F0 m pc ls (st.map (g_sh ad cst))) := by
  subst hl
  obtain ⟨hR, hV, hZ, hZ2⟩ := hTX
  have u32 : ∀ n : Nat, n < 4000 → (UInt32.ofNat n).toNat = n := fun n hn => by
    rw [UInt32.toNat_ofNat']
    exact Nat.mod_eq_of_lt (by omega)
  unfold g_txt at hS
  split at hS
  next ix =>
    split at hS
    next j r' =>
      split at hS
      next hj =>
        cases hS
        obtain ⟨h1, h2⟩ := hok
        have h3 := hR j hj.1
        rw [h1, h2] at h3
        refine va_ldcS hx hb hown h3 hd ?_
        have h4 : g_sh ad cst (.float (UInt32.ofNat (j + 1))) = .ref (cst (j + 1)) := by
          show Value.ref (cst (UInt32.ofNat (j + 1)).toNat) = _
          rw [u32 _ (by omega)]
        rw [List.map_cons, h4] at k
        exact k
      next => cases hS
    next => cases hS
  next ix =>
    split at hS
    next j q =>
      split at hS
      next hj =>
        cases hS
        obtain ⟨cf, kf, fi, f, cell, g1, g2, g3, g4, g5, g6⟩ := (hV.1 (j.toNat - 1) (by omega)).2.2.1
        have ha : cst (j.toNat - 1 + 1) < H0.size := Nat.not_le.mp g6
        have e1 : g_sh ad cst (.float j) = .ref (cst (j.toNat - 1 + 1)) := by
          show Value.ref (cst j.toNat) = _
          rw [show j.toNat - 1 + 1 = j.toNat by omega]
        rw [List.map_cons, e1]
        refine W.getf hx hb hown (hts _ hok) g1 g2 (by rw [hold _ ha]; exact g3) g4 g5 (g := F0 m pc ls _) rfl rfl hd ?_
        have h4 : g_sh ad cst (.float (UInt32.ofNat (j.toNat + tb.length))) = .ref (cst (j.toNat - 1 + 1 + tb.length)) := by
          show Value.ref (cst (UInt32.ofNat (j.toNat + tb.length)).toNat) = _
          rw [u32 _ (by omega), show j.toNat - 1 + 1 = j.toNat by omega]
        rw [List.map_cons, h4] at k
        exact k
      next => cases hS
    next j q =>
      split at hS
      next hj =>
        cases hS
        obtain ⟨cf, kf, fi, f, cell, g1, g2, g3, g4, g5, g6⟩ := (hV.1 (j.toNat - 1) (by omega)).2.1
        have ha : cst (j.toNat - 1 + 1) < H0.size := Nat.not_le.mp g6
        have e1 : g_sh ad cst (.float j) = .ref (cst (j.toNat - 1 + 1)) := by
          show Value.ref (cst j.toNat) = _
          rw [show j.toNat - 1 + 1 = j.toNat by omega]
        rw [List.map_cons, e1]
        exact W.getf hx hb hown (hts _ hok) g1 g2 (by rw [hold _ ha]; exact g3) g4 g5 (g := F0 m pc ls _) rfl rfl hd k
      next => cases hS
    next => cases hS
  · split at hS
    next j q =>
      split at hS
      next hj =>
        cases hS
        obtain ⟨cell, g1, g2, g3, g4, g5, g6, g7⟩ := (hV.1 (j.toNat - 1 - tb.length) (by omega)).2.2.2
        have ha : cst (j.toNat - 1 - tb.length + 1 + tb.length) < H0.size := Nat.not_le.mp g7
        have e1 : g_sh ad cst (.float j) = .ref (cst (j.toNat - 1 - tb.length + 1 + tb.length)) := by
          show Value.ref (cst j.toNat) = _
          rw [show j.toNat - 1 - tb.length + 1 + tb.length = j.toNat by omega]
        rw [List.map_cons, e1]
        rw [g_len_at] at g5
        exact W.alen hx hb (by rw [hold _ ha]; exact g1) g2 g5 (g := F0 m pc ls _) rfl rfl hd k
      next => cases hS
    next => cases hS
  · split at hS
    next i j q =>
      split at hS
      next hj =>
        split at hS
        · cases hS
        next hin =>
          cases hS
          obtain ⟨cell, g1, g2, g3, g4, g5, g6, g7⟩ := (hV.1 (j.toNat - 1 - tb.length) (by omega)).2.2.2
          have ha : cst (j.toNat - 1 - tb.length + 1 + tb.length) < H0.size := Nat.not_le.mp g7
          have e1 : g_sh ad cst (.float j) = .ref (cst (j.toNat - 1 - tb.length + 1 + tb.length)) := by
            show Value.ref (cst j.toNat) = _
            rw [show j.toNat - 1 - tb.length + 1 + tb.length = j.toNat by omega]
          rw [List.map_cons, List.map_cons, e1]
          have hlt : i.toNatClampNeg < (tb.getD (j.toNat - 1 - tb.length) []).length := Nat.not_le.mp fun z => hin (Or.inr z)
          rw [g_len_at] at g4
          exact W.bald hx hb (by rw [hold _ ha]; exact g1) g2 g3 (fun z => z.elim (fun z => hin (Or.inl z)) (fun z => by omega)) (g6 _ (by rw [g_len_at]; exact hlt)) (g := F0 m pc ls _) rfl rfl hd k
      next => cases hS
    next => cases hS
  next ix =>
    split at hS
    next =>
      cases hS
      obtain ⟨cf, kf, fi, f, a, cell, h1, h2, h3, h4, h5, h6, h7, h8⟩ := hZ
      exact W.gets hx hb hown (hts _ hok) h1 h2 h3 h4 (by rw [hold _ (Nat.not_le.mp h8)]; exact h5) (fun e => by rw [e] at h6; cases h6) h7 (g := F0 m pc ls _) rfl hd k
    next =>
      cases hS
      obtain ⟨cf, kf, fi, f, a, cell, h1, h2, h3, h4, h5, h6, h7, h8⟩ := hZ2
      exact W.gets hx hb hown (hts _ hok) h1 h2 h3 h4 (by rw [hold _ (Nat.not_le.mp h8)]; exact h5) (fun e => by rw [e] at h6; cases h6) h7 (g := F0 m pc ls _) rfl hd k
    next => cases hS
  next => cases hS
end GX
