/-! branches: r has the places where they go on -/
def g_cnd (cd : Jvm.ClassFile.Cond) (x y : Int32) : Bool := match cd with
  | .eq => decide (x = y) | .ne => decide (¬ x = y) | .lt => decide (x < y) | .ge => decide (y ≤ x) | .gt => decide (y < x) | .le => decide (x ≤ y)
def g_br (I : Instr) (r : List Nat) (pc : Nat) (st : List Value) : Option (Nat × List Value) := match I with
  | .goto _ => match r with | t :: _ => some (t, st) | _ => none
  | .ifCond cd _ => match r, st with | t :: _, .int x :: q => some (if g_cnd cd x 0 then t else pc + 3, q) | _, _ => none
  | .if_icmp cd _ => match r, st with | t :: _, .int y :: .int x :: q => some (if g_cnd cd x y then t else pc + 3, q) | _, _ => none
  | .tableswitch _ lo hi _ => match st with
    | .int x :: q => if x.toInt < lo ∨ hi < x.toInt then (r[0]?).map (fun t => (t, q)) else (r[(x.toInt - lo).toNat + 1]?).map (fun t => (t, q))
    | _ => none
  | _ => none
def g_brok (pc : Nat) (I : Instr) (r : List Nat) : Bool := match I with
  | .goto off => match r with | t :: _ => decide ((pc : Int) + off = (t : Int)) | _ => true
  | .ifCond _ off => match r with | t :: _ => decide ((pc : Int) + off = (t : Int)) | _ => true
  | .if_icmp _ off => match r with | t :: _ => decide ((pc : Int) + off = (t : Int)) | _ => true
  | .tableswitch d _ _ offs => decide (((pc : Int) + d) :: offs.toList.map (fun o => (pc : Int) + o) = r.map (fun t : Nat => (t : Int)))
  | _ => true
section GB
variable {p : Program} {l : Launch} {e : Env} {R : Room} {s : State} {m : MethodId} {args : Array Value} {below : List Frame} {meth : Method} {c : Code} {H : Heap} {locs : List Loc} {cells slots : Nat} {Q : State → Prop}
variable {cc : ByteArray} {pc : Nat} {ls : Array Slot} {ad cst : Nat → Nat}
set_option maxHeartbeats 4000000 in
theorem g_br_ok (hx : p.tables.exec = Jvm.exec) (hb : c.code = cc) {I : Instr} {r : List Nat} {st st' : List Value} {len pc' : Nat} (h : g_br I r pc st = some (pc', st')) (hd : decode cc pc = .ok (I, len)) (hl : g_len I = 0 ∨ len = g_len I) (hr : g_brok pc I r = true)
    (k : W p l e R s m args below meth c H locs cells slots Q (F0 m pc' ls (st'.map (g_sh ad cst)))) : W p l e R s m args below meth c H locs cells slots Q (F0 m pc ls (st.map (g_sh ad cst))) := by
  unfold g_br at h
  split at h
  · have hl : len = 3 := hl.resolve_left (fun h => by cases h)
    subst hl
    split at h
    next t q =>
      cases h
      have h1 : (pc : Int) + _ = (pc' : Int) := of_decide_eq_true hr
      exact lv_goto hx hb hd h1 k
    next => cases h
  next cd off =>
    have hl : len = 3 := hl.resolve_left (fun h => by cases h)
    subst hl
    split at h
    next t q x z =>
      cases h
      have h1 : (pc : Int) + off = (t : Int) := of_decide_eq_true hr
      have key : ∀ {P : Prop} {dP : Decidable P}, g_cnd cd x 0 = @decide P dP → (P → W p l e R s m args below meth c H locs cells slots Q (F0 m t ls (st'.map (g_sh ad cst)))) ∧ (¬ P → W p l e R s m args below meth c H locs cells slots Q (F0 m (pc + 3) ls (st'.map (g_sh ad cst)))) := by
        intro P dP hc
        rw [hc] at k
        exact ⟨fun hp => by simpa [hp] using k, fun hp => by simpa [hp] using k⟩
      cases cd with
      | eq => exact lv_if_eq hx hb hd h1 (key rfl).1 (key rfl).2
      | ne => exact lv_if_ne hx hb hd h1 (key rfl).1 (fun h => (key rfl).2 (fun q => q h))
      | lt => exact lv_if_lt hx hb hd h1 (key rfl).1 (key rfl).2
      | ge => exact lv_if_ge hx hb hd h1 (key rfl).1 (key rfl).2
      | gt => exact lv_if_gt hx hb hd h1 (key rfl).1 (key rfl).2
      | le => exact lv_if_le hx hb hd h1 (key rfl).1 (key rfl).2
    next => cases h
  next cd off =>
    have hl : len = 3 := hl.resolve_left (fun h => by cases h)
    subst hl
    split at h
    next t q y x z =>
      cases h
      have h1 : (pc : Int) + off = (t : Int) := of_decide_eq_true hr
      have key : ∀ {P : Prop} {dP : Decidable P}, g_cnd cd x y = @decide P dP → (P → W p l e R s m args below meth c H locs cells slots Q (F0 m t ls (st'.map (g_sh ad cst)))) ∧ (¬ P → W p l e R s m args below meth c H locs cells slots Q (F0 m (pc + 3) ls (st'.map (g_sh ad cst)))) := by
        intro P dP hc
        rw [hc] at k
        exact ⟨fun hp => by simpa [hp] using k, fun hp => by simpa [hp] using k⟩
      cases cd with
      | eq => exact lv_icmp_eq hx hb hd h1 (key rfl).1 (key rfl).2
      | ne => exact lv_icmp_ne hx hb hd h1 (key rfl).1 (fun h => (key rfl).2 (fun q => q h))
      | lt => exact lv_icmp_lt hx hb hd h1 (key rfl).1 (key rfl).2
      | ge => exact lv_icmp_ge hx hb hd h1 (key rfl).1 (key rfl).2
      | gt => exact lv_icmp_gt hx hb hd h1 (key rfl).1 (key rfl).2
      | le => exact lv_icmp_le hx hb hd h1 (key rfl).1 (key rfl).2
    next => cases h
  next d lo hi offs =>
    have hr : ((pc : Int) + d) :: offs.toList.map (fun o => (pc : Int) + o) = r.map (fun t : Nat => (t : Int)) := of_decide_eq_true hr
    split at h
    next x q =>
      split at h
      next hc =>
        cases r with
        | nil => cases h
        | cons t ts =>
          cases h
          have h1 : (pc : Int) + d = (pc' : Int) := (List.cons.inj hr).1
          exact lv_tableOut hx hb hd hc h1 k
      next hc =>
        have hc1 : ¬ x.toInt < lo := fun z => hc (Or.inl z)
        have hc2 : ¬ hi < x.toInt := fun z => hc (Or.inr z)
        cases r with
        | nil => cases h
        | cons t ts =>
          have h2 := (List.cons.inj hr).2
          rw [List.getElem?_cons_succ] at h
          cases hg : ts[(x.toInt - lo).toNat]? with
          | none => rw [hg] at h; cases h
          | some t2 =>
            rw [hg] at h
            cases h
            have h3 : (offs.toList.map (fun o => (pc : Int) + o))[(x.toInt - lo).toNat]? = some (pc' : Int) := by
              rw [h2, List.getElem?_map, hg]; rfl
            rw [List.getElem?_map] at h3
            cases ho : offs.toList[(x.toInt - lo).toNat]? with
            | none => rw [ho] at h3; cases h3
            | some o =>
              rw [ho] at h3
              exact lv_tableIn hx hb hd hc1 hc2 (by rw [← Array.getElem?_toList]; exact ho) (Option.some.inj h3) k
    next => cases h
  next => cases h
end GB
