/-! THE LOGICAL MACHINE: an interpreter over a heap whose cells have numbers of their own (region * 1024 + place), with no JVM in it. What it answers, the machine does: g_sim below. -/
/-- a logical cell: an array (the number of its type in tys, its length and contents), or an object (the number of its class, its fields) -/
abbrev gE : Type := (Nat × vp_A) ⊕ (Nat × List Value)
/-- a logical heap: how many cells and how many slots were made, the regions' cells -/
abbrev gH : Type := (Nat × Nat) × (Nat → List gE)
def g_get (h : gH) (k : Nat) : Option gE := (h.2 (k / 1024))[k % 1024]?
def g_set (h : gH) (k : Nat) (e : gE) : gH := (h.1, va_up h.2 (k / 1024) ((h.2 (k / 1024)).set (k % 1024) e))
/-- a new cell comes at the number that lg gives to the next one, if that is the next place of its region -/
def g_push (lg : Nat → Nat) (h : gH) (n : Nat) (e : gE) : Option (Nat × gH) :=
  if (h.2 (lg h.1.1 / 1024)).length = lg h.1.1 % 1024 then some (lg h.1.1, ((h.1.1 + 1, h.1.2 + n), va_up h.2 (lg h.1.1 / 1024) (h.2 (lg h.1.1 / 1024) ++ [e]))) else none
/-- the machine's value of a logical one: a float stands for a cell that was there before (the script, a text), a retAddr for a reference of which nothing is known -/
def g_sh (ad : Nat → Nat) (cst : Nat → Nat) : Value → Value
  | .ref k => .ref (ad k)
  | .float j => .ref (cst j.toNat)
  | .retAddr _ => va_rf (match cst 1000 with | 0 => none | a + 1 => some a)
  | v => v
def g_shl (ad cst : Nat → Nat) (loc : List (Nat × Value)) : List (Nat × Value) := loc.map fun q => (q.1, g_sh ad cst q.2)
def g_shd (ad : Nat → Nat) (a : vp_A) : vp_A := match a with
  | (n, .inr (.inr (.inr (.inr f)))) => (n, .inr (.inr (.inr (.inr fun i => (f i).map ad))))
  | a => a
def g_pe (ad cst : Nat → Nat) (tys : List (ClassId × FieldType)) : gE → va_E
  | .inl (t, a) => .inl ((tys.getD t (0, .int)).1, g_shd ad a)
  | .inr (ci, fs) => .inr (ci, fs.map (g_sh ad cst))
/-- the machine's heap holds the logical one: all that came since h0, and nothing else has changed -/
def g_HH (D : va_G) (cl : List vw_C) (tys : List (ClassId × FieldType)) (fl lg cst : Nat → Nat) (H0 : Heap) (h : gH) (H : Heap) : Prop :=
  H.size = H0.size + h.1.1 ∧ (∀ q, q < H0.size → H[q]? = H0[q]?) ∧ ∀ (k : Nat) (e : gE), g_get h k = some e → fl k < h.1.1 ∧ lg (fl k) = k ∧ va_at D cl (H0.size + fl k, g_pe (fun j => H0.size + fl j) cst tys e) H
theorem g_sh_cat (ad cst : Nat → Nat) (v : Value) : (g_sh ad cst v).category = v.category := by
  cases v with
  | retAddr a => show (va_rf (match cst 1000 with | 0 => none | a + 1 => some a)).category = 1; cases cst 1000 <;> rfl
  | _ => rfl
theorem g_get_set_same {h : gH} {k : Nat} {e0 e : gE} (hk : g_get h k = some e0) : g_get (g_set h k e) k = some e := by
  unfold g_get g_set at *
  simp only [va_up, if_true]
  exact List.getElem?_set_self (List.getElem?_eq_some_iff.mp hk).1
theorem g_get_set_ne {h : gH} {k j : Nat} {e : gE} (hj : j ≠ k) : g_get (g_set h k e) j = g_get h j := by
  unfold g_get g_set
  simp only [va_up]
  by_cases h1 : j / 1024 = k / 1024
  · rw [if_pos h1, h1]
    exact List.getElem?_set_ne (fun h2 => hj (by omega))
  · rw [if_neg h1]
section GH
variable {D : va_G} {cl : List vw_C} {tys : List (ClassId × FieldType)} {fl lg cst : Nat → Nat} {H0 : Heap}
theorem g_HH.at {h : gH} {H : Heap} {k : Nat} {e : gE} (hh : g_HH D cl tys fl lg cst H0 h H) (hk : g_get h k = some e) : va_P D cl [(H0.size + fl k, g_pe (fun j => H0.size + fl j) cst tys e)] H := by
  intro i q hq
  have hz : i < 1 := (List.getElem?_eq_some_iff.mp hq).1
  have h0 : i = 0 := by omega
  subst h0
  cases hq
  exact (hh.2.2 k e hk).2.2
theorem g_HH.put {h : gH} {H H1 : Heap} {k : Nat} {e0 e : gE} (hh : g_HH D cl tys fl lg cst H0 h H) (hk : g_get h k = some e0) (z : H1.size = H.size) (oq : ∀ q, q ≠ H0.size + fl k → H1[q]? = H[q]?)
    (he : va_at D cl (H0.size + fl k, g_pe (fun j => H0.size + fl j) cst tys e) H1) : g_HH D cl tys fl lg cst H0 (g_set h k e) H1 := by
  obtain ⟨a1, a2, a3⟩ := hh
  obtain ⟨b1, b2, -⟩ := a3 k e0 hk
  refine ⟨by rw [z]; exact a1, fun q hq => by rw [oq q (by omega)]; exact a2 q hq, fun j x hj => ?_⟩
  by_cases hjk : j = k
  · subst hjk
    rw [g_get_set_same hk] at hj
    cases hj
    exact ⟨b1, b2, he⟩
  · rw [g_get_set_ne hjk] at hj
    obtain ⟨c1, c2, c3⟩ := a3 j x hj
    refine ⟨c1, c2, c3.kept (oq _ (fun h => hjk ?_))⟩
    have h2 : fl j = fl k := by
      have : H0.size + fl j = H0.size + fl k := h
      omega
    rw [← c2, ← b2, h2]
theorem g_HH.push {h h' : gH} {H H1 : Heap} {k n : Nat} {e : gE} (hfl : ∀ i, fl (lg i) = i) (hh : g_HH D cl tys fl lg cst H0 h H) (hp : g_push lg h n e = some (k, h')) (z : H1.size = H.size + 1) (oq : ∀ q, q < H.size → H1[q]? = H[q]?)
    (he : va_at D cl (H.size, g_pe (fun j => H0.size + fl j) cst tys e) H1) : H0.size + fl k = H.size ∧ h'.1 = (h.1.1 + 1, h.1.2 + n) ∧ g_HH D cl tys fl lg cst H0 h' H1 := by
  obtain ⟨a1, a2, a3⟩ := hh
  unfold g_push at hp
  split at hp
  next hlen =>
    cases hp
    have hk : H0.size + fl (lg h.1.1) = H.size := by rw [hfl]; exact a1.symm
    refine ⟨hk, rfl, by show H1.size = H0.size + (h.1.1 + 1); omega, fun q hq => by rw [oq q (by omega)]; exact a2 q hq, fun j x hj => ?_⟩
    unfold g_get at hj
    simp only [va_up] at hj
    have old : ∀ {j : Nat} {x : gE}, g_get h j = some x → fl j < h.1.1 + 1 ∧ lg (fl j) = j ∧ va_at D cl (H0.size + fl j, g_pe (fun j => H0.size + fl j) cst tys x) H1 := by
      intro j x hj
      obtain ⟨c1, c2, c3⟩ := a3 j x hj
      exact ⟨by omega, c2, c3.kept (oq _ (by show H0.size + fl j < H.size; omega))⟩
    by_cases h1 : j / 1024 = lg h.1.1 / 1024
    · rw [if_pos h1] at hj
      by_cases h2 : j % 1024 < (h.2 (lg h.1.1 / 1024)).length
      · rw [List.getElem?_append_left h2] at hj
        exact old (show g_get h j = some x by unfold g_get; rw [h1]; exact hj)
      · rw [List.getElem?_append_right (by omega)] at hj
        have h3 := (List.getElem?_eq_some_iff.mp hj).1
        have h4 : j = lg h.1.1 := by
          have : j % 1024 - (h.2 (lg h.1.1 / 1024)).length < 1 := h3
          omega
        rw [show j % 1024 - (h.2 (lg h.1.1 / 1024)).length = 0 by have : j % 1024 - (h.2 (lg h.1.1 / 1024)).length < 1 := h3; omega] at hj
        cases hj
        subst h4
        rw [hfl]
        refine ⟨Nat.lt_succ_self _, rfl, ?_⟩
        rw [← a1]
        exact he
    · rw [if_neg h1] at hj
      exact old hj
  next => cases hp
end GH
