/-! two runs side by side: what holds of both ends, if both come to an end -/
def po {α : Type} (o : Option α) (Q : α → Prop) : Prop := ∀ a, o = some a → Q a
def P2 {α β : Type} (o : Option α) (u : Option β) (Q : α → β → Prop) : Prop := ∀ a b, o = some a → u = some b → Q a b
section P2A
variable {α β γ δ : Type} {Q : γ → δ → Prop} {o : Option α} {u : Option β} {x y : Option γ} {z w : Option δ} {f : α → Option γ} {g : β → Option δ}
theorem ok.po {R : α → Prop} (h : ok o R) : po o R := by
  obtain ⟨a, rfl, h⟩ := h
  intro b hb
  cases hb
  exact h
theorem po_some {R : α → Prop} {a : α} (h : R a) : po (some a) R := by
  intro b hb
  cases hb
  exact h
theorem po_call {R : α → Prop} {S : γ → Prop} (h : po o R) (k : ∀ a, R a → po (f a) S) : po (o.bind f) S := by
  intro b hb
  obtain ⟨a, ha, hb⟩ := Option.bind_eq_some_iff.mp hb
  exact k a (h a ha) b hb
theorem po_bl {S : γ → Prop} (h : ∀ a, o = some a → po (f a) S) : po (o.bind f) S := by
  intro b hb
  obtain ⟨a, ha, hb⟩ := Option.bind_eq_some_iff.mp hb
  exact h a ha b hb
theorem po_eq {S : γ → Prop} {a : α} (e : o = some a) (h : po (f a) S) : po (o.bind f) S := by
  rw [e]
  exact h
theorem po_cond {c : Bool} {S : γ → Prop} (h1 : c = true → po x S) (h2 : c = false → po y S) : po (cond c x y) S := by
  cases c with
  | true => exact h1 rfl
  | false => exact h2 rfl
theorem po_bind_cond {c : Bool} {o1 o2 : Option α} {S : γ → Prop} (h1 : c = true → po (o1.bind f) S) (h2 : c = false → po (o2.bind f) S) : po ((cond c o1 o2).bind f) S := by
  cases c with
  | true => exact h1 rfl
  | false => exact h2 rfl
theorem po_mono {R S : α → Prop} (h : po o R) (k : ∀ a, R a → S a) : po o S := fun a ha => k a (h a ha)
theorem p2_some {a : γ} {b : δ} (h : Q a b) : P2 (some a) (some b) Q := by
  intro x y hx hy
  cases hx
  cases hy
  exact h
theorem p2_call {R : α → β → Prop} (h : P2 o u R) (k : ∀ a b, R a b → P2 (f a) (g b) Q) : P2 (o.bind f) (u.bind g) Q := by
  intro x y hx hy
  obtain ⟨a, ha, hx⟩ := Option.bind_eq_some_iff.mp hx
  obtain ⟨b, hb, hy⟩ := Option.bind_eq_some_iff.mp hy
  exact k a b (h a b ha hb) x y hx hy
theorem p2_l {R : α → Prop} (h : po o R) (k : ∀ a, R a → P2 (f a) z Q) : P2 (o.bind f) z Q := by
  intro x y hx hy
  obtain ⟨a, ha, hx⟩ := Option.bind_eq_some_iff.mp hx
  exact k a (h a ha) x y hx hy
theorem p2_r {R : β → Prop} (h : po u R) (k : ∀ b, R b → P2 x (g b) Q) : P2 x (u.bind g) Q := by
  intro x y hx hy
  obtain ⟨b, hb, hy⟩ := Option.bind_eq_some_iff.mp hy
  exact k b (h b hb) x y hx hy
theorem p2_cl {c : Bool} (h1 : c = true → P2 x z Q) (h2 : c = false → P2 y z Q) : P2 (cond c x y) z Q := by
  cases c with
  | true => exact h1 rfl
  | false => exact h2 rfl
theorem p2_cr {c : Bool} (h1 : c = true → P2 x z Q) (h2 : c = false → P2 x w Q) : P2 x (cond c z w) Q := by
  cases c with
  | true => exact h1 rfl
  | false => exact h2 rfl
theorem p2_bind_cr {c : Bool} {u1 u2 : Option β} (h1 : c = true → P2 x (u1.bind g) Q) (h2 : c = false → P2 x (u2.bind g) Q) : P2 x ((cond c u1 u2).bind g) Q := by
  cases c with
  | true => exact h1 rfl
  | false => exact h2 rfl
theorem p2_bind_cl {c : Bool} {o1 o2 : Option α} (h1 : c = true → P2 (o1.bind f) z Q) (h2 : c = false → P2 (o2.bind f) z Q) : P2 ((cond c o1 o2).bind f) z Q := by
  cases c with
  | true => exact h1 rfl
  | false => exact h2 rfl
theorem p2_of {R : γ → Prop} {S : δ → Prop} (h : po x R) (h' : po z S) (k : ∀ a b, R a → S b → Q a b) : P2 x z Q := fun a b ha hb => k a b (h a ha) (h' b hb)
theorem p2_mono {R : γ → δ → Prop} (h : P2 x z R) (k : ∀ a b, R a b → Q a b) : P2 x z Q := fun a b ha hb => k a b (h a b ha hb)
theorem p2_okl {R : γ → Prop} (h : ok x R) (k : P2 x z Q) : P2 x z (fun a b => Q a b ∧ R a) := fun a b ha hb => ⟨k a b ha hb, h.po a ha⟩
theorem p2_okr {R : δ → Prop} (h : ok z R) (k : P2 x z Q) : P2 x z (fun a b => Q a b ∧ R b) := fun a b ha hb => ⟨k a b ha hb, h.po b hb⟩
theorem p2_el {a : α} (e : o = some a) (h : P2 (f a) z Q) : P2 (o.bind f) z Q := by
  rw [e]
  exact h
theorem p2_er {b : β} (e : u = some b) (h : P2 x (g b) Q) : P2 x (u.bind g) Q := by
  rw [e]
  exact h
theorem p2_bl {f : α → Option γ} (h : ∀ a, o = some a → P2 (f a) z Q) : P2 (o.bind f) z Q := by
  intro x y hx hy
  obtain ⟨a, ha, hx⟩ := Option.bind_eq_some_iff.mp hx
  exact h a ha x y hx hy
theorem p2_br {g : β → Option δ} (h : ∀ b, u = some b → P2 x (g b) Q) : P2 x (u.bind g) Q := by
  intro x y hx hy
  obtain ⟨b, hb, hy⟩ := Option.bind_eq_some_iff.mp hy
  exact h b hb x y hx hy
end P2A
theorem i_out {n : Nat} {i : Int32} (h : ¬ (i < 0 ∨ n ≤ i.toNatClampNeg)) : 0 ≤ i.toInt ∧ i.toInt < (n : Int) := by
  have h1 : ¬ i < 0 := fun e => h (.inl e)
  have h2 : ¬ n ≤ i.toNatClampNeg := fun e => h (.inr e)
  have e : i.toNatClampNeg = i.toInt.toNat := rfl
  rw [e] at h2
  rw [Int32.lt_iff_toInt_lt, i_lit.1] at h1
  omega
section P2L
/-! one step of one side: what a load or a store says, whoever asks -/
variable {f : Nat → Int32} {fJ : Nat → Int64} {n j r o k K q : Nat} {i x v : Int32} {xJ vJ : Int64} {F F' : Nat → Int32} {A A' : Nat → Nat → Int32} {J J' : Nat → Nat → Int64} {CF CF' : Nat → Nat → Int32} {CA CA' : Nat → Nat → Nat → Int32} {CJ CJ' : Nat → Nat → Nat → Int64}
theorem gg_ld (h : m_ld f n i = some v) : 0 ≤ i.toInt ∧ i.toInt < (n : Int) ∧ v = f i.toInt.toNat := by
  unfold m_ld at h
  split at h
  · cases h
  · next c => cases h; exact ⟨(i_out c).1, (i_out c).2, rfl⟩
theorem gg_ldJ (h : m_ldJ fJ n i = some vJ) : 0 ≤ i.toInt ∧ i.toInt < (n : Int) ∧ vJ = fJ i.toInt.toNat := by
  unfold m_ldJ at h
  split at h
  · cases h
  · next c => cases h; exact ⟨(i_out c).1, (i_out c).2, rfl⟩
theorem gg_st (h : m_st A j n i x = some A') : 0 ≤ i.toInt ∧ i.toInt < (n : Int) ∧ (∀ q, q ≠ j → A' q = A q) ∧ ai A' j i.toInt = x.toInt ∧ (∀ q, 0 ≤ q → q ≠ i.toInt → ai A' j q = ai A j q) := by
  unfold m_st at h
  split at h
  · cases h
  · next c =>
    cases h
    have b := i_out c
    exact ⟨b.1, b.2, fun _ h => c_up_ne h, ai_same, fun _ hq h => ai_ne b.1 hq h⟩
theorem gg_stJ (h : m_stJ J j n i xJ = some J') : 0 ≤ i.toInt ∧ i.toInt < (n : Int) ∧ (∀ q, q ≠ j → J' q = J q) ∧ J' j i.toInt.toNat = xJ ∧ (∀ q : Int, 0 ≤ q → q ≠ i.toInt → J' j q.toNat = J j q.toNat) := by
  unfold m_stJ at h
  split at h
  · cases h
  · next c =>
    cases h
    have b := i_out c
    refine ⟨b.1, b.2, fun _ h => c_up_ne h, ?_, fun q hq h => ?_⟩
    · rw [c_up_same]
      exact if_pos rfl
    · rw [c_up_same]
      have e : i.toNatClampNeg = i.toInt.toNat := rfl
      exact if_neg (by rw [e]; omega)
theorem gg_pf (h : m_pf F k x = some F') : F' k = x ∧ (∀ q, q ≠ k → F' q = F q) := by
  cases h
  exact ⟨if_pos rfl, fun _ h => if_neg h⟩
theorem gg_cst (h : c_st CA r o n i x = some CA') : 0 ≤ i.toInt ∧ i.toInt < (n : Int) ∧ CUm CA CA' r o i.toInt x.toInt := by
  have c : ¬ (i < 0 ∨ n ≤ i.toNatClampNeg) := by
    intro e
    unfold c_st at h
    rw [if_pos e] at h
    cases h
  have b := i_out c
  have z : ok ((c_st CA r o n i x).bind some) (fun A' => CUm CA A' r o i.toInt x.toInt) := ok_cst b.1 b.2 (fun A' U => ok_some U)
  rw [h] at z
  obtain ⟨a, e, z⟩ := z
  cases e
  exact ⟨b.1, b.2, z⟩
theorem gg_cstJ (h : c_stJ CJ r o n i xJ = some CJ') : 0 ≤ i.toInt ∧ i.toInt < (n : Int) ∧ CJ' r o i.toInt.toNat = xJ ∧ (∀ j : Int, 0 ≤ j → j ≠ i.toInt → CJ' r o j.toNat = CJ r o j.toNat) ∧ (∀ r' o', ¬ (r' = r ∧ o' = o) → CJ' r' o' = CJ r' o') := by
  unfold c_stJ at h
  split at h
  · cases h
  · next c =>
    cases h
    have b := i_out c
    have e : i.toNatClampNeg = i.toInt.toNat := rfl
    refine ⟨b.1, b.2, ?_, fun j hj hn => ?_, fun r' o' hn => ?_⟩
    · rw [c_up_same, c_up_same]
      exact if_pos e.symm
    · rw [c_up_same, c_up_same]
      exact if_neg (by rw [e]; omega)
    · by_cases e : r' = r
      · subst e
        rw [c_up_same, c_up_ne (fun e => hn ⟨rfl, e⟩)]
      · rw [c_up_ne e]
theorem gg_cpf (h : c_pf CF r k x = some CF') : FUm CF CF' r k x := by
  have z : ok ((c_pf CF r k x).bind some) (fun F' => FUm CF F' r k x) := ok_cpf (fun A' U => ok_some U)
  rw [h] at z
  obtain ⟨a, e, z⟩ := z
  cases e
  exact z
theorem gg_chk (h : c_chk K q = some r) : c_kind q = K ∧ r = q := by
  unfold c_chk at h
  split at h
  · next e => cases h; exact ⟨e, rfl⟩
  · cases h
end P2L
