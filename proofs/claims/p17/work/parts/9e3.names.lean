/-! names: the class's rows beside the reference's list -/
def cq (q : Nat) : Nat := if q = 0 then 13 else 14 + q
def ql (q : Nat) : Nat := if q = 0 then 8 else 6
def NR (d : Nat) (F : Nat → Nat → Int32) (J : Nat → Nat → Nat → Int64) (Fm : Nat → Int32) (Am : Nat → Nat → Int32) (Jm : Nat → Nat → Int64) : Prop := (0 ≤ (Fm 20).toInt) ∧ (∀ q : Nat, q < 4 → 0 ≤ (F d (cq q)).toInt ∧ (F d (cq q)).toInt ≤ (ql q : Int)) ∧ (∀ k : Nat, (k : Int) < (Fm 20).toInt → ∃ q : Nat, q < 4 ∧ (Am 9 k).toInt = q ∧ 0 ≤ (Am 10 k).toInt ∧ (Am 10 k).toInt < (F d (cq q)).toInt ∧ TNi (J 37 (7 + q) (Am 10 k).toInt.toNat).toInt (Jm 8 k).toInt) ∧ (∀ q : Nat, q < 4 → ∀ i : Int, 0 ≤ i → i < (F d (cq q)).toInt → ∃ k : Nat, (k : Int) < (Fm 20).toInt ∧ (Am 9 k).toInt = q ∧ (Am 10 k).toInt = i) ∧ (∀ k k' : Nat, k < k' → (k' : Int) < (Fm 20).toInt → (Am 9 k).toInt = (Am 9 k').toInt → (Am 10 k).toInt < (Am 10 k').toInt)
theorem NR.n0 {d : Nat} {F : Nat → Nat → Int32} {J : Nat → Nat → Nat → Int64} {Fm : Nat → Int32} {Am : Nat → Nat → Int32} {Jm : Nat → Nat → Int64} (h_ : NR d F J Fm Am Jm) : 0 ≤ (Fm 20).toInt := h_.1
theorem NR.bd {d : Nat} {F : Nat → Nat → Int32} {J : Nat → Nat → Nat → Int64} {Fm : Nat → Int32} {Am : Nat → Nat → Int32} {Jm : Nat → Nat → Int64} (h_ : NR d F J Fm Am Jm) : ∀ q : Nat, q < 4 → 0 ≤ (F d (cq q)).toInt ∧ (F d (cq q)).toInt ≤ (ql q : Int) := h_.2.1
theorem NR.na {d : Nat} {F : Nat → Nat → Int32} {J : Nat → Nat → Nat → Int64} {Fm : Nat → Int32} {Am : Nat → Nat → Int32} {Jm : Nat → Nat → Int64} (h_ : NR d F J Fm Am Jm) : ∀ k : Nat, (k : Int) < (Fm 20).toInt → ∃ q : Nat, q < 4 ∧ (Am 9 k).toInt = q ∧ 0 ≤ (Am 10 k).toInt ∧ (Am 10 k).toInt < (F d (cq q)).toInt ∧ TNi (J 37 (7 + q) (Am 10 k).toInt.toNat).toInt (Jm 8 k).toInt := h_.2.2.1
theorem NR.nb {d : Nat} {F : Nat → Nat → Int32} {J : Nat → Nat → Nat → Int64} {Fm : Nat → Int32} {Am : Nat → Nat → Int32} {Jm : Nat → Nat → Int64} (h_ : NR d F J Fm Am Jm) : ∀ q : Nat, q < 4 → ∀ i : Int, 0 ≤ i → i < (F d (cq q)).toInt → ∃ k : Nat, (k : Int) < (Fm 20).toInt ∧ (Am 9 k).toInt = q ∧ (Am 10 k).toInt = i := h_.2.2.2.1
theorem NR.nc {d : Nat} {F : Nat → Nat → Int32} {J : Nat → Nat → Nat → Int64} {Fm : Nat → Int32} {Am : Nat → Nat → Int32} {Jm : Nat → Nat → Int64} (h_ : NR d F J Fm Am Jm) : ∀ k k' : Nat, k < k' → (k' : Int) < (Fm 20).toInt → (Am 9 k).toInt = (Am 9 k').toInt → (Am 10 k).toInt < (Am 10 k').toInt := h_.2.2.2.2
theorem NR.fr {d : Nat} {F F' : Nat → Nat → Int32} {J J' : Nat → Nat → Nat → Int64} {Fm Fm' : Nat → Int32} {Am Am' : Nat → Nat → Int32} {Jm Jm' : Nat → Nat → Int64} (h : NR d F J Fm Am Jm) (hF : ∀ q, q < 4 → F' d (cq q) = F d (cq q)) (hJ : ∀ q, q < 4 → J' 37 (7 + q) = J 37 (7 + q)) (h20 : Fm' 20 = Fm 20) (h9 : Am' 9 = Am 9) (h10 : Am' 10 = Am 10) (h8 : Jm' 8 = Jm 8) : NR d F' J' Fm' Am' Jm' := by
  refine ⟨by rw [h20]; exact h.n0, fun q hq => by rw [hF q hq]; exact h.bd q hq, fun k hk => ?_, fun q hq i i0 i1 => ?_, fun k k' a b => ?_⟩
  · rw [h20] at hk
    obtain ⟨q, hq, z⟩ := h.na k hk
    exact ⟨q, hq, by rw [h9, h10, hF q hq, hJ q hq, h8]; exact z⟩
  · rw [hF q hq] at i1
    rw [h20, h9, h10]
    exact h.nb q hq i i0 i1
  · rw [h20] at b
    rw [h9, h10]
    exact h.nc k k' a b
theorem l_cmp {x y : Int64} : g_cnd .ne (lg_cmp x y) 0 = true ↔ x ≠ y := by
  rw [i_ne, i_0]
  unfold lg_cmp
  split
  · next h =>
    have : x ≠ y := by
      rintro rfl
      exact absurd h (by rw [gt_iff_lt, Int64.lt_iff_toInt_lt]; omega)
    exact ⟨fun _ => this, fun _ => by decide⟩
  · split
    · next h => exact ⟨fun e => absurd rfl e, fun e => absurd h e⟩
    · next h => exact ⟨fun _ => h, fun _ => by decide⟩
theorem l_ncmp {x y : Int64} : g_cnd .ne (lg_cmp x y) 0 = false ↔ x = y := by
  rw [← Bool.not_eq_true, l_cmp]
  exact Decidable.not_not
/-- the class's find over any of its rows -/
def gfind (o len : Nat) : Nat → (Nat → Nat → Nat → Int64) → Int64 → Int32 → Int32 → Option Int32
  | 0, _, _, _, _ => none
  | n + 1, J, x0, x3, x4 => cond (g_cnd .ge x4 x3)
    (some (-1))
    (cond (g_cnd .ge x4 (Int32.ofNat len))
    (some (-1))
    ((m_ldJ (J 37 o) len x4).bind fun v3 =>
    cond (g_cnd .ne (lg_cmp v3 x0) 0)
    (gfind o len n J x0 x3 (x4 + 1))
    (some x4)))
section FN
variable {P : Nat → Nat → Nat} {F : Nat → Nat → Int32} {A : Nat → Nat → Nat → Int32} {J : Nat → Nat → Nat → Int64} {n : Nat} {x0 : Int64} {x3 : Int32}
theorem find0_g : ∀ {n : Nat} {x4 : Int32}, e_Reader_find_3 n P F A J x0 x3 x4 = gfind 7 8 n J x0 x3 x4 := by
  intro n
  induction n with
  | zero => intro x4; rfl
  | succ n ih => intro x4; unfold e_Reader_find_3 gfind; simp only [ih]
theorem find1_g : ∀ {n : Nat} {x4 : Int32}, e_Reader_find_v1_3 n P F A J x0 x3 x4 = gfind 8 6 n J x0 x3 x4 := by
  intro n
  induction n with
  | zero => intro x4; rfl
  | succ n ih => intro x4; unfold e_Reader_find_v1_3 gfind; simp only [ih]
theorem find2_g : ∀ {n : Nat} {x4 : Int32}, e_Reader_find_v2_3 n P F A J x0 x3 x4 = gfind 9 6 n J x0 x3 x4 := by
  intro n
  induction n with
  | zero => intro x4; rfl
  | succ n ih => intro x4; unfold e_Reader_find_v2_3 gfind; simp only [ih]
theorem find3_g : ∀ {n : Nat} {x4 : Int32}, e_Reader_find_v3_3 n P F A J x0 x3 x4 = gfind 10 6 n J x0 x3 x4 := by
  intro n
  induction n with
  | zero => intro x4; rfl
  | succ n ih => intro x4; unfold e_Reader_find_v3_3 gfind; simp only [ih]
def findq (q : Nat) (n : Nat) (J : Nat → Nat → Nat → Int64) (x0 : Int64) (x3 : Int32) : Option Int32 := gfind (7 + q) (ql q) n J x0 x3 0
theorem find0_q : e_Reader_find n P F A J x0 x3 = findq 0 n J x0 x3 := find0_g
theorem find1_q : e_Reader_find_v1 n P F A J x0 x3 = findq 1 n J x0 x3 := find1_g
theorem find2_q : e_Reader_find_v2 n P F A J x0 x3 = findq 2 n J x0 x3 := find2_g
theorem find3_q : e_Reader_find_v3 n P F A J x0 x3 = findq 3 n J x0 x3 := find3_g
/-- what find answers -/
def FDq (q : Nat) (J : Nat → Nat → Nat → Int64) (x0 : Int64) (c : Int) (v : Int32) : Prop := (0 ≤ v.toInt ∧ v.toInt < c ∧ J 37 (7 + q) v.toInt.toNat = x0 ∧ ∀ j : Int, 0 ≤ j → j < v.toInt → J 37 (7 + q) j.toNat ≠ x0) ∨ (v = -1 ∧ ∀ j : Int, 0 ≤ j → j < c → J 37 (7 + q) j.toNat ≠ x0)
theorem gfind_s {o len : Nat} (hl : len ≤ 8) (hx : x3.toInt ≤ (len : Int)) : ∀ {n : Nat} {x4 : Int32}, 0 ≤ x4.toInt → (∀ j : Int, 0 ≤ j → j < x4.toInt → J 37 o j.toNat ≠ x0) → po (gfind o len n J x0 x3 x4) (fun v => (0 ≤ v.toInt ∧ v.toInt < x3.toInt ∧ J 37 o v.toInt.toNat = x0 ∧ ∀ j : Int, 0 ≤ j → j < v.toInt → J 37 o j.toNat ≠ x0) ∨ (v = -1 ∧ ∀ j : Int, 0 ≤ j → j < x3.toInt → J 37 o j.toNat ≠ x0)) := by
  intro n
  induction n with
  | zero => intro x4 _ _ v hv; cases hv
  | succ n ih =>
    intro x4 h4 hb
    unfold gfind
    refine po_cond (fun c => ?_) (fun c => ?_)
    · rw [i_ge] at c
      exact po_some (.inr ⟨rfl, fun j a b => hb j a (by omega)⟩)
    · rw [i_nge] at c
      have e : (Int32.ofNat len).toInt = len := by
        rcases (by omega : len = 0 ∨ len = 1 ∨ len = 2 ∨ len = 3 ∨ len = 4 ∨ len = 5 ∨ len = 6 ∨ len = 7 ∨ len = 8) with h | h | h | h | h | h | h | h | h <;> subst h <;> decide
      refine po_cond (fun c2 => ?_) (fun c2 => ?_)
      · rw [i_ge, e] at c2
        omega
      · refine po_call (R := fun v => v = J 37 o x4.toInt.toNat) (fun v hv => (gg_ldJ hv).2.2) ?_
        rintro v rfl
        refine po_cond (fun c3 => ?_) (fun c3 => ?_)
        · rw [l_cmp] at c3
          have l1 := i_1
          have e1 := i_add (x := x4) (y := 1) (by omega) (by omega)
          exact ih (by omega) (fun j a b => by
            by_cases h : j < x4.toInt
            · exact hb j a h
            · have : j = x4.toInt := by omega
              rw [this]; exact c3)
        · rw [l_ncmp] at c3
          exact po_some (.inl ⟨h4, c, c3, hb⟩)
theorem findq_s {q : Nat} (hx : x3.toInt ≤ (ql q : Int)) : po (findq q n J x0 x3) (FDq q J x0 x3.toInt) :=
  gfind_s (by unfold ql; split <;> decide) hx (by decide) (fun j a b => by rw [i_0] at b; omega)
end FN
section NMS
variable {F : Nat → Int32} {A : Nat → Nat → Int32} {J : Nat → Nat → Int64} {k : Int32}
/-! the reference's wrong -/
theorem d_wrong_0 {x : Int32} (h : (F 13).toInt = 0) (h0 : 0 ≤ x.toInt) (h1 : x.toInt < 403) (hw : (F 15).toInt = 0) : ∃ F', d_wrong F A J k x = some ((), F', A, J) ∧ F' 15 = k ∧ F' 16 = A 4 x.toInt.toNat ∧ (∀ q, q ≠ 15 → q ≠ 16 → F' q = F q) := by
  unfold d_wrong
  rw [m_ld_in h0 (by omega), Option.bind_some, i_ngt.mpr (by rw [i_0]; omega), cond_false, i_eq.mpr (by rw [i_0]; exact hw), cond_true]
  unfold d_wrong_46
  obtain ⟨F3, e3⟩ : ∃ F3, m_pf F 15 k = some F3 := ⟨_, rfl⟩
  rw [e3, Option.bind_some]
  obtain ⟨F4, e4⟩ : ∃ F4, m_pf F3 16 (A 4 x.toInt.toNat) = some F4 := ⟨_, rfl⟩
  rw [e4, Option.bind_some]
  have U3 := gg_pf e3
  have U4 := gg_pf e4
  exact ⟨F4, rfl, by rw [U4.2 15 (by decide), U3.1], U4.1, fun q a b => by rw [U4.2 q b, U3.2 q a]⟩
theorem d_wrong_n {x : Int32} (h : (F 13).toInt = 0) (h0 : 0 ≤ x.toInt) (h1 : x.toInt < 403) (hw : (F 15).toInt ≠ 0) (hp : (F 16).toInt < (A 4 x.toInt.toNat).toInt ∨ ((F 16).toInt = (A 4 x.toInt.toNat).toInt ∧ (F 15).toInt ≤ k.toInt)) : d_wrong F A J k x = some ((), F, A, J) := by
  unfold d_wrong
  rw [m_ld_in h0 (by omega), Option.bind_some, i_ngt.mpr (by rw [i_0]; omega), cond_false, i_neq.mpr (by rw [i_0]; exact hw), cond_false]
  rcases hp with hp | hp
  · rw [i_gt.mpr hp, cond_true]
  · rw [i_ngt.mpr (by omega), cond_false, i_nne.mpr hp.1.symm, cond_false, i_nlt.mpr hp.2, cond_false]
theorem d_wrong_po {x : Int32} : po (d_wrong F A J k x) (fun r => r.2.2.1 = A ∧ r.2.2.2 = J) := by
  have z : ∀ v, po (d_wrong_46 F A J k v) (fun r => r.2.2.1 = A ∧ r.2.2.2 = J) := by
    intro v
    unfold d_wrong_46
    exact po_bl (fun _ _ => po_bl (fun _ _ => po_some ⟨rfl, rfl⟩))
  unfold d_wrong
  refine po_bl (fun v _ => ?_)
  exact po_cond (fun _ => po_some ⟨rfl, rfl⟩) (fun _ => po_cond (fun _ => z v) (fun _ => po_cond (fun _ => po_some ⟨rfl, rfl⟩) (fun _ => po_cond (fun _ => z v) (fun _ => po_cond (fun _ => z v) (fun _ => po_some ⟨rfl, rfl⟩)))))
/-! the reference's list: what is found there -/
theorem d_known_s {x1 x2 : Int32} (h : (F 13).toInt = 0) (hx0 : 0 ≤ x2.toInt) (hx1 : x2.toInt < 403) : ∀ {n : Nat} {x3 : Int32}, 0 ≤ x3.toInt → (∀ j : Nat, (j : Int) < x3.toInt → ¬ (J 8 j = J 6 x2.toInt.toNat ∧ (A 9 j).toInt = x1.toInt)) → po (d_known_21 n F A J x1 x2 x3) (fun r => (∃ j : Nat, (j : Int) < (F 20).toInt ∧ J 8 j = J 6 x2.toInt.toNat ∧ (A 9 j).toInt = x1.toInt ∧ (∀ i : Nat, i < j → ¬ (J 8 i = J 6 x2.toInt.toNat ∧ (A 9 i).toInt = x1.toInt)) ∧ r = (A 10 j, F, A, J)) ∨ ((∀ j : Nat, (j : Int) < (F 20).toInt → ¬ (J 8 j = J 6 x2.toInt.toNat ∧ (A 9 j).toInt = x1.toInt)) ∧ ∃ F', d_wrong F A J 4 x2 = some ((), F', A, J) ∧ r = (-1, F', A, J))) := by
  intro n
  induction n with
  | zero => intro x3 _ _ r hr; cases hr
  | succ n ih =>
    intro x3 h3 hb
    have next : ¬ (J 8 x3.toInt.toNat = J 6 x2.toInt.toNat ∧ (A 9 x3.toInt.toNat).toInt = x1.toInt) → x3.toInt < 32 → po (d_known_62 (d_known_21 n) n F A J x1 x2 x3) (fun r => (∃ j : Nat, (j : Int) < (F 20).toInt ∧ J 8 j = J 6 x2.toInt.toNat ∧ (A 9 j).toInt = x1.toInt ∧ (∀ i : Nat, i < j → ¬ (J 8 i = J 6 x2.toInt.toNat ∧ (A 9 i).toInt = x1.toInt)) ∧ r = (A 10 j, F, A, J)) ∨ ((∀ j : Nat, (j : Int) < (F 20).toInt → ¬ (J 8 j = J 6 x2.toInt.toNat ∧ (A 9 j).toInt = x1.toInt)) ∧ ∃ F', d_wrong F A J 4 x2 = some ((), F', A, J) ∧ r = (-1, F', A, J))) := by
      intro hn h32
      unfold d_known_62
      have l1 := i_1
      have e1 := i_add (x := x3) (y := 1) (by omega) (by omega)
      refine ih (by omega) (fun j hj => ?_)
      by_cases hlt : (j : Int) < x3.toInt
      · exact hb j hlt
      · have : j = x3.toInt.toNat := by omega
        rw [this]; exact hn
    unfold d_known_21
    refine po_cond (fun c => ?_) (fun c => ?_)
    · rw [i_ge] at c
      have hb' : ∀ j : Nat, (j : Int) < (F 20).toInt → ¬ (J 8 j = J 6 x2.toInt.toNat ∧ (A 9 j).toInt = x1.toInt) := fun j hj => hb j (by omega)
      by_cases hw : (F 15).toInt = 0
      · obtain ⟨F', e, -⟩ := d_wrong_0 (A := A) (J := J) (k := 4) h hx0 hx1 hw
        rw [e, Option.bind_some]
        exact po_some (.inr ⟨hb', F', rfl, rfl⟩)
      · intro r hr
        obtain ⟨⟨u, F', A', J'⟩, e, hr⟩ := Option.bind_eq_some_iff.mp hr
        dsimp only at hr
        cases hr
        have := d_wrong_po _ e
        dsimp only at this
        obtain ⟨rfl, rfl⟩ := this
        exact .inr ⟨hb', F', e, rfl⟩
    · rw [i_nge] at c
      refine po_call (R := fun v => v = J 8 x3.toInt.toNat ∧ x3.toInt < 32) (fun v hv => ⟨(gg_ldJ hv).2.2, (gg_ldJ hv).2.1⟩) ?_
      rintro v ⟨rfl, h32⟩
      rw [m_ldJ_in hx0 (by omega), Option.bind_some]
      refine po_cond (fun c1 => ?_) (fun c1 => ?_)
      · rw [l_cmp] at c1
        exact next (fun e => c1 e.1) h32
      · rw [l_ncmp] at c1
        rw [m_ld_in h3 (by omega), Option.bind_some]
        refine po_cond (fun c2 => ?_) (fun c2 => ?_)
        · rw [i_ne] at c2
          exact next (fun e => c2 e.2) h32
        · rw [i_nne] at c2
          rw [m_ld_in h3 (by omega), Option.bind_some]
          exact po_some (.inl ⟨x3.toInt.toNat, by omega, c1, c2, fun i hi => hb i (by omega), rfl⟩)
/-- all names that are there are looked at -/
theorem d_named_s {x1 : Int32} (h : (F 13).toInt = 0) (hx0 : 0 ≤ x1.toInt) (hx1 : x1.toInt < 403) : ∀ {n : Nat} {x2 : Int32} {F' : Nat → Int32}, 0 ≤ x2.toInt → (∀ q, q ≠ 15 → q ≠ 16 → F' q = F q) → (((∀ j : Nat, (j : Int) < x2.toInt → J 8 j ≠ J 6 x1.toInt.toNat) ∧ F' = F) ∨ (∃ j : Nat, (j : Int) < (F 20).toInt ∧ J 8 j = J 6 x1.toInt.toNat) ∧ d_wrong F A J 3 x1 = some ((), F', A, J) ∧ (F' 15).toInt ≠ 0 ∧ ((F' 16).toInt < (A 4 x1.toInt.toNat).toInt ∨ ((F' 16).toInt = (A 4 x1.toInt.toNat).toInt ∧ (F' 15).toInt ≤ 3))) → ((F 15).toInt ≠ 0 → (F 16).toInt < (A 4 x1.toInt.toNat).toInt) → po (d_named_12 n F' A J x1 x2) (fun r => ∃ F'', r = (x1, F'', A, J) ∧ (((∀ j : Nat, (j : Int) < (F 20).toInt → J 8 j ≠ J 6 x1.toInt.toNat) ∧ F'' = F) ∨ (∃ j : Nat, (j : Int) < (F 20).toInt ∧ J 8 j = J 6 x1.toInt.toNat) ∧ d_wrong F A J 3 x1 = some ((), F'', A, J))) := by
  intro n
  induction n with
  | zero => intro x2 F' _ _ _ _ r hr; cases hr
  | succ n ih =>
    intro x2 F' h2 fr hc hw
    have e20 : F' 20 = F 20 := fr 20 (by decide) (by decide)
    have e13 : F' 13 = F 13 := fr 13 (by decide) (by decide)
    unfold d_named_12
    refine po_cond (fun c => ?_) (fun c => ?_)
    · rw [i_ge, e20] at c
      refine po_some ⟨F', rfl, ?_⟩
      rcases hc with ⟨a, b⟩ | ⟨a, b, -⟩
      · exact .inl ⟨fun j hj => a j (by omega), b⟩
      · exact .inr ⟨a, b⟩
    · rw [i_nge, e20] at c
      rw [i_nne.mpr (by rw [e13, i_0]; exact h), cond_false]
      refine po_call (R := fun v => v = J 8 x2.toInt.toNat ∧ x2.toInt < 32) (fun v hv => ⟨(gg_ldJ hv).2.2, (gg_ldJ hv).2.1⟩) ?_
      rintro v ⟨rfl, h32⟩
      rw [m_ldJ_in hx0 (by omega), Option.bind_some]
      have l1 := i_1
      have e1 := i_add (x := x2) (y := 1) (by omega) (by omega)
      refine po_cond (fun c1 => ?_) (fun c1 => ?_)
      · rw [l_cmp] at c1
        unfold d_named_49
        refine ih (by omega) fr ?_ hw
        rcases hc with ⟨a, b⟩ | z
        · refine .inl ⟨fun j hj => ?_, b⟩
          by_cases hlt : (j : Int) < x2.toInt
          · exact a j hlt
          · have : j = x2.toInt.toNat := by omega
            rw [this]; exact c1
        · exact .inr z
      · rw [l_ncmp] at c1
        have ex : ∃ j : Nat, (j : Int) < (F 20).toInt ∧ J 8 j = J 6 x1.toInt.toNat := ⟨x2.toInt.toNat, by omega, c1⟩
        rcases hc with ⟨a, rfl⟩ | ⟨a, b, w0, w1⟩
        · by_cases w : (F' 15).toInt = 0
          · obtain ⟨F2, e, g15, g16, g⟩ := d_wrong_0 (A := A) (J := J) (k := 3) h hx0 hx1 w
            refine po_eq e ?_
            refine ih (x2 := x2 + 1) (by omega) g (.inr ⟨ex, e, ?_, .inr ⟨?_, ?_⟩⟩) hw
            · rw [g15]; decide
            · rw [g16]
            · rw [g15]; decide
          · have e := d_wrong_n (A := A) (J := J) (k := 3) (x := x1) h hx0 hx1 w (.inl (hw w))
            refine po_eq e ?_
            exact ih (x2 := x2 + 1) (by omega) (fun _ _ _ => rfl) (.inr ⟨ex, e, w, .inl (hw w)⟩) hw
        · have e := d_wrong_n (F := F') (A := A) (J := J) (k := 3) (x := x1) (by rw [e13]; exact h) hx0 hx1 w0 w1
          refine po_eq e ?_
          exact ih (x2 := x2 + 1) (by omega) fr (.inr ⟨a, b, w0, w1⟩) hw
end NMS
