/-! the tokens of a text, as both sides hold them -/
structure TS where
  kc : Nat → Int32
  fc : Nat → Int32
  nc : Nat → Int32
  jc : Nat → Int64
  kr : Nat → Int32
  pr : Nat → Int32
  vr : Nat → Int32
  jr : Nat → Int64
  jw : Nat → Int64
  jk : Nat → Int64
/-- kinds of tokens: the class's, the reference's -/
def kt : List (Int × Int) := [(0, 20), (1, 21), (2, 23), (3, 24), (4, 25), (5, 28), (6, 30), (7, 34), (8, 22), (9, 26), (10, 27), (11, 29), (12, 31), (13, 32), (14, 33), (15, 35), (16, 36), (17, 37), (18, 38), (19, 39), (20, 40), (100, 1), (101, 2), (102, 0), (103, 3), (59, 4), (61, 5), (40, 6), (41, 7), (43, 8), (45, 9), (42, 10), (47, 15), (60, 13)]
def KR (x y : Int) : Prop := (x, y) ∈ kt
instance (x y : Int) : Decidable (KR x y) := inferInstanceAs (Decidable ((x, y) ∈ kt))
theorem KR.iff {x y k k' : Int} (h : KR x y) (h' : KR k k') : x = k ↔ y = k' :=
  (by decide : ∀ p ∈ kt, ∀ q ∈ kt, (p.1 = q.1 ↔ p.2 = q.2)) _ h _ h'
/-- the same letters: eight bits each, or one of 27 -/
inductive TNi : Int → Int → Prop
  | nil : TNi 0 0
  | snoc {x y c : Int} : TNi x y → 97 ≤ c → c ≤ 122 → TNi (256 * x + c) (27 * y + (c - 96))
theorem TNi.pos {x y : Int} (h : TNi x y) : 0 ≤ x ∧ 0 ≤ y := by
  induction h with
  | nil => exact ⟨by decide, by decide⟩
  | snoc _ _ _ ih => omega
theorem TNi.iff {x y x' y' : Int} (h : TNi x y) (h' : TNi x' y') : x = x' ↔ y = y' := by
  induction h generalizing x' y' with
  | nil =>
    cases h' with
    | nil => exact ⟨fun _ => rfl, fun _ => rfl⟩
    | snoc g _ _ => have := g.pos; constructor <;> intro <;> omega
  | snoc g c1 c2 ih =>
    cases h' with
    | nil => have := g.pos; constructor <;> intro <;> omega
    | snoc g' d1 d2 =>
      have i := ih g'
      constructor
      · intro e
        have := i.mp (by omega)
        omega
      · intro e
        have := i.mpr (by omega)
        omega
def TS.lv (T : TS) (j : Nat) : Prop := (T.kr j).toInt ≠ 0 ∧ (T.kr j).toInt ≠ 3
structure TKs (T : TS) : Prop where
  kd : ∀ i : Nat, i ≤ 400 → (∀ j, j < i → T.lv j) → KR (T.kc i).toInt (T.kr i).toInt
  nu : ∀ i : Nat, i ≤ 400 → (∀ j, j < i → T.lv j) → (T.kr i).toInt = 2 → T.nc i = T.vr i
  nm : ∀ i : Nat, i ≤ 400 → (∀ j, j < i → T.lv j) → (T.kr i).toInt = 1 → TNi (T.jc i).toInt (T.jr i).toInt
  up : ∀ i : Nat, i < 400 → (∀ j, j ≤ i → T.lv j) → (T.pr i).toInt < (T.pr (i + 1)).toInt
/-- both sides hold these tokens -/
structure RX (T : TS) (A : Nat → Nat → Nat → Int32) (J : Nat → Nat → Nat → Int64) (Am : Nat → Nat → Int32) (Jm : Nat → Nat → Int64) : Prop where
  a2 : A 37 2 = T.kc
  a3 : A 37 3 = T.fc
  a4 : A 37 4 = T.nc
  j5 : J 37 5 = T.jc
  j6 : J 37 6 = T.jw
  m3 : Am 3 = T.kr
  m4 : Am 4 = T.pr
  m5 : Am 5 = T.vr
  k6 : Jm 6 = T.jr
  k7 : Jm 7 = T.jk
/-- both sides stand at the same token, without a fault of form -/
structure RT (T : TS) (F : Nat → Nat → Int32) (Fm : Nat → Int32) : Prop where
  f0 : (F 37 10).toInt = 0
  g0 : (Fm 13).toInt = 0
  tk : F 37 7 = Fm 11
  t0 : 0 ≤ (Fm 11).toInt
  t1 : (Fm 11).toInt ≤ 400
  lv : ∀ j : Nat, (j : Int) < (Fm 11).toInt → T.lv j
  lt : F 37 12 = Fm 15
  wp : (Fm 15).toInt ≠ 0 → (Fm 16).toInt < (T.pr (Fm 11).toInt.toNat).toInt
theorem RT.cg {T : TS} {F F' : Nat → Nat → Int32} {Fm Fm' : Nat → Int32} (R : RT T F Fm) (hF : ∀ k, k = 7 ∨ k = 10 ∨ k = 12 → F' 37 k = F 37 k) (hm : ∀ q, q = 11 ∨ q = 13 ∨ q = 15 ∨ q = 16 → Fm' q = Fm q) : RT T F' Fm' := by
  refine ⟨?_, ?_, ?_, ?_, ?_, ?_, ?_, ?_⟩
  · rw [hF 10 (by omega)]; exact R.f0
  · rw [hm 13 (by omega)]; exact R.g0
  · rw [hF 7 (by omega), hm 11 (by omega)]; exact R.tk
  · rw [hm 11 (by omega)]; exact R.t0
  · rw [hm 11 (by omega)]; exact R.t1
  · rw [hm 11 (by omega)]; exact R.lv
  · rw [hF 12 (by omega), hm 15 (by omega)]; exact R.lt
  · rw [hm 15 (by omega), hm 16 (by omega), hm 11 (by omega)]; exact R.wp
/-- both sides have found a fault of form, the same one -/
def FE (F : Nat → Nat → Int32) (Fm : Nat → Int32) : Prop := F 37 10 = Fm 13 ∧ 0 < (Fm 13).toInt
def FrC (F F' : Nat → Nat → Int32) : Prop := ∀ r k, ¬ (r = 37 ∧ 7 ≤ k ∧ k ≤ 13 ∧ k ≠ 9) → F' r k = F r k
def FrM (F F' : Nat → Int32) : Prop := ∀ q, q ≠ 11 → q ≠ 13 → q ≠ 14 → q ≠ 15 → q ≠ 16 → F' q = F q
theorem FrC.rfl' {F : Nat → Nat → Int32} : FrC F F := fun _ _ _ => rfl
theorem FrM.rfl' {F : Nat → Int32} : FrM F F := fun _ _ _ _ _ _ => rfl
theorem FrC.tr {F F1 F' : Nat → Nat → Int32} (h : FrC F F1) (h' : FrC F1 F') : FrC F F' := fun r k e => (h' r k e).trans (h r k e)
theorem FrM.tr {F F1 F' : Nat → Int32} (h : FrM F F1) (h' : FrM F1 F') : FrM F F' := fun q a b c d e => (h' q a b c d e).trans (h q a b c d e)
section LD
variable {f : Nat → Int32} {fJ : Nat → Int64} {n : Nat} {i : Int32}
theorem m_ld_in (h0 : 0 ≤ i.toInt) (h1 : i.toInt < (n : Int)) : m_ld f n i = some (f i.toInt.toNat) := by
  unfold m_ld
  rw [if_neg (i_in h0 h1)]
  rfl
theorem m_ldJ_in (h0 : 0 ≤ i.toInt) (h1 : i.toInt < (n : Int)) : m_ldJ fJ n i = some (fJ i.toInt.toNat) := by
  unfold m_ldJ
  rw [if_neg (i_in h0 h1)]
  rfl
end LD
theorem i_0 : (0 : Int32).toInt = 0 := by decide
theorem i_400 : (400 : Int32).toInt = 400 := by decide
theorem i_1 : (1 : Int32).toInt = 1 := by decide
section TKC
variable {P : Nat → Nat → Nat} {F : Nat → Nat → Int32} {A : Nat → Nat → Nat → Int32} {J : Nat → Nat → Nat → Int64} {k : Int32}
/-! the class's take, by what it finds -/
theorem e_take_ff (h : (F 37 10).toInt ≠ 0) : e_Reader_take P F A J k = some (0, P, F, A, J) := by
  unfold e_Reader_take
  rw [i_neq.mpr (by rw [i_0]; exact h), cond_false]
theorem e_next_ff (h : (F 37 10).toInt ≠ 0) : e_Reader_isNext P F A J k = some 0 := by
  unfold e_Reader_isNext
  rw [i_ne.mpr (by rw [i_0]; exact h), cond_true]
theorem e_next_0 (h : (F 37 10).toInt = 0) (t0 : 0 ≤ (F 37 7).toInt) (t1 : (F 37 7).toInt ≤ 400) (hk : (A 37 2 (F 37 7).toInt.toNat).toInt ≠ k.toInt) : e_Reader_isNext P F A J k = some 0 := by
  unfold e_Reader_isNext
  rw [i_nne.mpr (by rw [i_0]; exact h), cond_false, m_ld_in t0 (by omega), Option.bind_some, i_ne.mpr hk, cond_true]
theorem e_next_1 (h : (F 37 10).toInt = 0) (t0 : 0 ≤ (F 37 7).toInt) (t1 : (F 37 7).toInt ≤ 400) (hk : (A 37 2 (F 37 7).toInt.toNat).toInt = k.toInt) : e_Reader_isNext P F A J k = some 1 := by
  unfold e_Reader_isNext
  rw [i_nne.mpr (by rw [i_0]; exact h), cond_false, m_ld_in t0 (by omega), Option.bind_some, i_nne.mpr hk, cond_false]
theorem e_fail_0 {v : Int32} (h : (F 37 10).toInt = 0) : ∃ F', e_Reader_fail P F A J k v = some ((), P, F', A, J) ∧ F' 37 10 = k ∧ FrC F F' := by
  unfold e_Reader_fail
  rw [i_eq.mpr (by rw [i_0]; exact h), cond_true]
  unfold e_Reader_fail_15
  obtain ⟨F3, e3⟩ : ∃ F3, c_pf F 37 10 k = some F3 := ⟨_, rfl⟩
  rw [e3, Option.bind_some]
  obtain ⟨F4, e4⟩ : ∃ F4, c_pf F3 37 11 v = some F4 := ⟨_, rfl⟩
  rw [e4, Option.bind_some]
  have U3 := gg_cpf e3
  have U4 := gg_cpf e4
  exact ⟨F4, rfl, by rw [U4.2 37 10 (by decide), U3.1], fun r q hn => by rw [U4.2 r q (by omega), U3.2 r q (by omega)]⟩
theorem e_take_0 (h : (F 37 10).toInt = 0) (t0 : 0 ≤ (F 37 7).toInt) (t1 : (F 37 7).toInt ≤ 400) (hk : (A 37 2 (F 37 7).toInt.toNat).toInt ≠ k.toInt) : ∃ F', e_Reader_take P F A J k = some (0, P, F', A, J) ∧ F' 37 10 = 1 ∧ FrC F F' := by
  unfold e_Reader_take
  rw [i_eq.mpr (by rw [i_0]; exact h), cond_true, m_ld_in t0 (by omega), Option.bind_some, i_neq.mpr hk, cond_false, m_ld_in t0 (by omega), Option.bind_some]
  obtain ⟨F', e, h1, h2⟩ := e_fail_0 (P := P) (A := A) (J := J) (k := 1) (v := A 37 3 (F 37 7).toInt.toNat) h
  rw [e, Option.bind_some]
  exact ⟨F', rfl, h1, h2⟩
theorem e_take_2 (h : (F 37 10).toInt = 0) (t1 : (F 37 7).toInt = 400) (hk : (A 37 2 (F 37 7).toInt.toNat).toInt = k.toInt) : ∃ F', e_Reader_take P F A J k = some (0, P, F', A, J) ∧ F' 37 10 = 2 ∧ FrC F F' := by
  unfold e_Reader_take
  rw [i_eq.mpr (by rw [i_0]; exact h), cond_true, m_ld_in (by omega) (by omega), Option.bind_some, i_eq.mpr hk, cond_true, i_nlt.mpr (by rw [i_400]; omega), cond_false, m_ld_in (by omega) (by omega), Option.bind_some]
  obtain ⟨F', e, h1, h2⟩ := e_fail_0 (P := P) (A := A) (J := J) (k := 2) (v := A 37 3 (F 37 7).toInt.toNat) h
  rw [e, Option.bind_some]
  exact ⟨F', rfl, h1, h2⟩
theorem e_take_1 (h : (F 37 10).toInt = 0) (t0 : 0 ≤ (F 37 7).toInt) (t1 : (F 37 7).toInt < 400) (hk : (A 37 2 (F 37 7).toInt.toNat).toInt = k.toInt) : ∃ F', e_Reader_take P F A J k = some (1, P, F', A, J) ∧ F' 37 7 = F 37 7 + 1 ∧ F' 37 8 = F 37 7 ∧ (∀ r q, ¬ (r = 37 ∧ (q = 7 ∨ q = 8)) → F' r q = F r q) := by
  unfold e_Reader_take
  rw [i_eq.mpr (by rw [i_0]; exact h), cond_true, m_ld_in t0 (by omega), Option.bind_some, i_eq.mpr hk, cond_true, i_lt.mpr (by rw [i_400]; omega), cond_true]
  obtain ⟨F3, e3⟩ : ∃ F3, c_pf F 37 8 (F 37 7) = some F3 := ⟨_, rfl⟩
  rw [e3, Option.bind_some]
  obtain ⟨F4, e4⟩ : ∃ F4, c_pf F3 37 7 (F3 37 7 + 1) = some F4 := ⟨_, rfl⟩
  rw [e4, Option.bind_some]
  have U3 := gg_cpf e3
  have U4 := gg_cpf e4
  exact ⟨F4, rfl, by rw [U4.1, U3.2 37 7 (by decide)], by rw [U4.2 37 8 (by decide), U3.1], fun r q hn => by rw [U4.2 r q (by omega), U3.2 r q (by omega)]⟩
end TKC
section TKM
variable {F : Nat → Int32} {A : Nat → Nat → Int32} {J : Nat → Nat → Int64} {k : Int32}
/-! the reference's must, by what it finds -/
theorem d_fail_ff (h : 0 < (F 13).toInt) : d_fail F A J k = some ((), F, A, J) := by
  unfold d_fail
  rw [i_nle.mpr (by rw [i_0]; exact h), cond_false]
theorem d_is_ff (h : 0 < (F 13).toInt) : d_is F A J k = some 0 := by
  unfold d_is
  rw [i_ne.mpr (by rw [i_0]; omega), cond_true]
theorem d_must_ff (h : 0 < (F 13).toInt) : d_must F A J k = some ((), F, A, J) := by
  unfold d_must
  rw [d_is_ff h, Option.bind_some, i_eq.mpr rfl, cond_true, d_fail_ff h, Option.bind_some]
theorem d_is_0 (h : (F 13).toInt = 0) (t0 : 0 ≤ (F 11).toInt) (t1 : (F 11).toInt ≤ 400) (hk : (A 3 (F 11).toInt.toNat).toInt ≠ k.toInt) : d_is F A J k = some 0 := by
  unfold d_is
  rw [i_nne.mpr (by rw [i_0]; exact h), cond_false, m_ld_in t0 (by omega), Option.bind_some, i_ne.mpr hk, cond_true]
theorem d_is_1 (h : (F 13).toInt = 0) (t0 : 0 ≤ (F 11).toInt) (t1 : (F 11).toInt ≤ 400) (hk : (A 3 (F 11).toInt.toNat).toInt = k.toInt) : d_is F A J k = some 1 := by
  unfold d_is
  rw [i_nne.mpr (by rw [i_0]; exact h), cond_false, m_ld_in t0 (by omega), Option.bind_some, i_nne.mpr hk, cond_false]
theorem d_fail_0 (h : (F 13).toInt = 0) (t0 : 0 ≤ (F 11).toInt) (t1 : (F 11).toInt ≤ 400) : ∃ F', d_fail F A J k = some ((), F', A, J) ∧ F' 13 = k ∧ FrM F F' ∧ F' 11 = F 11 := by
  unfold d_fail
  rw [i_le.mpr (by rw [i_0]; omega), cond_true]
  obtain ⟨F3, e3⟩ : ∃ F3, m_pf F 13 k = some F3 := ⟨_, rfl⟩
  have U3 := gg_pf e3
  rw [e3, Option.bind_some]
  have e11 : F3 11 = F 11 := U3.2 11 (by decide)
  rw [e11, m_ld_in t0 (by omega), Option.bind_some]
  obtain ⟨F4, e4⟩ : ∃ F4, m_pf F3 14 (A 4 (F 11).toInt.toNat) = some F4 := ⟨_, rfl⟩
  rw [e4, Option.bind_some]
  have U4 := gg_pf e4
  exact ⟨F4, rfl, by rw [U4.2 13 (by decide), U3.1], fun q a b c d e => by rw [U4.2 q c, U3.2 q b], by rw [U4.2 11 (by decide), e11]⟩
theorem d_goes_1 (t0 : 0 ≤ (F 11).toInt) (t1 : (F 11).toInt < 400) : ∃ F', d_goesOn F A J = some ((), F', A, J) ∧ F' 11 = F 11 + 1 ∧ (∀ q, q ≠ 11 → F' q = F q) := by
  unfold d_goesOn
  rw [i_ne.mpr (by rw [i_400]; omega), cond_true]
  obtain ⟨F3, e3⟩ : ∃ F3, m_pf F 11 (F 11 + 1) = some F3 := ⟨_, rfl⟩
  have U3 := gg_pf e3
  rw [e3, Option.bind_some]
  exact ⟨F3, rfl, U3.1, U3.2⟩
theorem d_goes_2 (h : (F 13).toInt = 0) (t1 : (F 11).toInt = 400) : ∃ F', d_goesOn F A J = some ((), F', A, J) ∧ F' 13 = 2 ∧ FrM F F' := by
  unfold d_goesOn
  rw [i_nne.mpr (by rw [i_400]; omega), cond_false]
  obtain ⟨F', e, h1, h2, _⟩ := d_fail_0 (A := A) (J := J) (k := 2) h (by omega) (by omega)
  rw [e, Option.bind_some]
  exact ⟨F', rfl, h1, h2⟩
theorem d_goes_ff (h : 0 < (F 13).toInt) : ∃ F', d_goesOn F A J = some ((), F', A, J) ∧ F' 13 = F 13 ∧ FrM F F' := by
  unfold d_goesOn
  by_cases c : g_cnd .ne (F 11) 400 = true
  · rw [c, cond_true]
    obtain ⟨F3, e3⟩ : ∃ F3, m_pf F 11 (F 11 + 1) = some F3 := ⟨_, rfl⟩
    have U3 := gg_pf e3
    rw [e3, Option.bind_some]
    exact ⟨F3, rfl, U3.2 13 (by decide), fun q a _ _ _ _ => U3.2 q a⟩
  · rw [Bool.not_eq_true] at c
    rw [c, cond_false, d_fail_ff h, Option.bind_some]
    exact ⟨F, rfl, rfl, FrM.rfl'⟩
theorem d_must_0 (h : (F 13).toInt = 0) (t0 : 0 ≤ (F 11).toInt) (t1 : (F 11).toInt ≤ 400) (hk : (A 3 (F 11).toInt.toNat).toInt ≠ k.toInt) : ∃ F', d_must F A J k = some ((), F', A, J) ∧ F' 13 = 1 ∧ FrM F F' := by
  unfold d_must
  rw [d_is_0 h t0 t1 hk, Option.bind_some, i_eq.mpr rfl, cond_true]
  obtain ⟨F', e, h1, h2, _⟩ := d_fail_0 (A := A) (J := J) (k := 1) h t0 t1
  rw [e, Option.bind_some]
  exact ⟨F', rfl, h1, h2⟩
theorem d_must_1 (h : (F 13).toInt = 0) (t0 : 0 ≤ (F 11).toInt) (t1 : (F 11).toInt < 400) (hk : (A 3 (F 11).toInt.toNat).toInt = k.toInt) : ∃ F', d_must F A J k = some ((), F', A, J) ∧ F' 11 = F 11 + 1 ∧ (∀ q, q ≠ 11 → F' q = F q) := by
  unfold d_must
  rw [d_is_1 h t0 (by omega) hk, Option.bind_some, i_neq.mpr (by decide), cond_false]
  obtain ⟨F', e, h1, h2⟩ := d_goes_1 (F := F) (A := A) (J := J) t0 t1
  rw [e, Option.bind_some]
  exact ⟨F', rfl, h1, h2⟩
theorem d_must_2 (h : (F 13).toInt = 0) (t1 : (F 11).toInt = 400) (hk : (A 3 (F 11).toInt.toNat).toInt = k.toInt) : ∃ F', d_must F A J k = some ((), F', A, J) ∧ F' 13 = 2 ∧ FrM F F' := by
  unfold d_must
  rw [d_is_1 h (by omega) (by omega) hk, Option.bind_some, i_neq.mpr (by decide), cond_false]
  obtain ⟨F', e, h1, h2⟩ := d_goes_2 (A := A) (J := J) h t1
  rw [e, Option.bind_some]
  exact ⟨F', rfl, h1, h2⟩
end TKM
section TKR
variable {T : TS} {P : Nat → Nat → Nat} {F : Nat → Nat → Int32} {A : Nat → Nat → Nat → Int32} {J : Nat → Nat → Nat → Int64} {Fm : Nat → Int32} {Am : Nat → Nat → Int32} {Jm : Nat → Nat → Int64} {k k' : Int32}
/-- one token on -/
structure RU (T : TS) (F F' : Nat → Nat → Int32) (Fm Fm' : Nat → Int32) : Prop where
  rt : RT T F' Fm'
  c8 : F' 37 8 = Fm 11
  m1 : (Fm' 11).toInt = (Fm 11).toInt + 1
  fc : ∀ r q, ¬ (r = 37 ∧ (q = 7 ∨ q = 8)) → F' r q = F r q
  fm : ∀ q, q ≠ 11 → Fm' q = Fm q
theorem RU.c (U : RU T F F' Fm Fm') : FrC F F' := fun r q h => U.fc r q (by omega)
theorem RU.m (U : RU T F F' Fm Fm') : FrM Fm Fm' := fun q h _ _ _ _ => U.fm q h
theorem RT.on (K : TKs T) (R : RT T F Fm) (hl : T.lv (Fm 11).toInt.toNat) (t1 : (Fm 11).toInt < 400) {F' : Nat → Nat → Int32} {Fm' : Nat → Int32} (e7 : F' 37 7 = F 37 7 + 1) (e8 : F' 37 8 = F 37 7) (fc : ∀ r q, ¬ (r = 37 ∧ (q = 7 ∨ q = 8)) → F' r q = F r q) (e11 : Fm' 11 = Fm 11 + 1) (fm : ∀ q, q ≠ 11 → Fm' q = Fm q) : RU T F F' Fm Fm' := by
  have m1 : (Fm' 11).toInt = (Fm 11).toInt + 1 := by
    have t0 := R.t0
    have l1 := i_1
    rw [e11, i_add (by omega) (by omega), i_1]
  have lv : ∀ j : Nat, (j : Int) < (Fm' 11).toInt → T.lv j := by
    intro j hj
    by_cases e : (j : Int) < (Fm 11).toInt
    · exact R.lv j e
    · have : j = (Fm 11).toInt.toNat := by have t0 := R.t0; omega
      rw [this]; exact hl
  refine ⟨⟨?_, ?_, ?_, ?_, ?_, lv, ?_, ?_⟩, by rw [e8, R.tk], m1, fc, fm⟩
  · rw [fc 37 10 (by decide)]; exact R.f0
  · rw [fm 13 (by decide)]; exact R.g0
  · rw [e7, e11, R.tk]
  · have := R.t0; omega
  · omega
  · rw [fc 37 12 (by decide), fm 15 (by decide)]; exact R.lt
  · rw [fm 15 (by decide), fm 16 (by decide)]
    intro h
    have a := R.wp h
    have b := K.up (Fm 11).toInt.toNat (by have := R.t0; omega) (fun j hj => by
      by_cases e : (j : Int) < (Fm 11).toInt
      · exact R.lv j e
      · have : j = (Fm 11).toInt.toNat := by omega
        rw [this]; exact hl)
    have e : (Fm' 11).toInt.toNat = (Fm 11).toInt.toNat + 1 := by have := R.t0; omega
    rw [e]
    omega
theorem RT.kd (K : TKs T) (R : RT T F Fm) (X : RX T A J Am Jm) (hk : KR k.toInt k'.toInt) : (A 37 2 (F 37 7).toInt.toNat).toInt = k.toInt ↔ (Am 3 (Fm 11).toInt.toNat).toInt = k'.toInt := by
  rw [X.a2, X.m3, R.tk]
  exact (K.kd _ (by have := R.t0; have := R.t1; omega) (fun j hj => R.lv j (by omega))).iff hk
/-- take beside must -/
theorem p2_take {γ δ : Type} {Q : γ → δ → Prop} {f} {g} (K : TKs T) (R : RT T F Fm) (X : RX T A J Am Jm) (hk : KR k.toInt k'.toInt) (hl : k'.toInt ≠ 0 ∧ k'.toInt ≠ 3) (ks : ∀ F' Fm', RU T F F' Fm Fm' → (T.kr (Fm 11).toInt.toNat).toInt = k'.toInt → P2 (f (1, P, F', A, J)) (g ((), Fm', Am, Jm)) Q) (kf : ∀ F' Fm', FrC F F' → FrM Fm Fm' → FE F' Fm' → ((T.kr (Fm 11).toInt.toNat).toInt = k'.toInt → (Fm' 13).toInt = 2) → P2 (f (0, P, F', A, J)) (g ((), Fm', Am, Jm)) Q) : P2 (α := γ) (β := δ) ((e_Reader_take P F A J k).bind f) ((d_must Fm Am Jm k').bind g) Q := by
  have t0 := R.t0
  have t1 := R.t1
  have tk := R.tk
  have iff := R.kd K X hk
  by_cases hm : (Am 3 (Fm 11).toInt.toNat).toInt = k'.toInt
  · by_cases h4 : (Fm 11).toInt < 400
    · obtain ⟨F', e, h7, h8, fc⟩ := e_take_1 (P := P) (J := J) R.f0 (by rw [tk]; exact t0) (by rw [tk]; exact h4) (iff.mpr hm)
      obtain ⟨Fm', e', h11, fm⟩ := d_must_1 (J := Jm) R.g0 t0 h4 hm
      rw [e, e', Option.bind_some, Option.bind_some]
      have hm' : (T.kr (Fm 11).toInt.toNat).toInt = k'.toInt := by rw [← X.m3]; exact hm
      exact ks F' Fm' (R.on K (by unfold TS.lv; rw [hm']; exact hl) h4 h7 h8 fc h11 fm) hm'
    · obtain ⟨F', e, h1, h2⟩ := e_take_2 (P := P) (J := J) R.f0 (by rw [tk]; omega) (iff.mpr hm)
      obtain ⟨Fm', e', h1', h2'⟩ := d_must_2 (J := Jm) R.g0 (by omega) hm
      rw [e, e', Option.bind_some, Option.bind_some]
      exact kf F' Fm' h2 h2' ⟨by rw [h1, h1'], by rw [h1']; decide⟩ (fun _ => by rw [h1']; decide)
  · obtain ⟨F', e, h1, h2⟩ := e_take_0 (P := P) (J := J) R.f0 (by rw [tk]; exact t0) (by rw [tk]; exact t1) (fun h => hm (iff.mp h))
    obtain ⟨Fm', e', h1', h2'⟩ := d_must_0 (J := Jm) R.g0 t0 t1 hm
    rw [e, e', Option.bind_some, Option.bind_some]
    exact kf F' Fm' h2 h2' ⟨by rw [h1, h1'], by rw [h1']; decide⟩ (fun h => absurd (by rw [X.m3]; exact h) hm)
/-- take, where the kind has been looked at, beside goesOn -/
theorem p2_goes {γ δ : Type} {Q : γ → δ → Prop} {f} {g} (K : TKs T) (R : RT T F Fm) (X : RX T A J Am Jm) (hk : KR k.toInt k'.toInt) (hl : k'.toInt ≠ 0 ∧ k'.toInt ≠ 3) (hm : (Am 3 (Fm 11).toInt.toNat).toInt = k'.toInt) (ks : ∀ F' Fm', RU T F F' Fm Fm' → P2 (f (1, P, F', A, J)) (g ((), Fm', Am, Jm)) Q) (kf : ∀ F' Fm', FrC F F' → FrM Fm Fm' → FE F' Fm' → P2 (f (0, P, F', A, J)) (g ((), Fm', Am, Jm)) Q) : P2 (α := γ) (β := δ) ((e_Reader_take P F A J k).bind f) ((d_goesOn Fm Am Jm).bind g) Q := by
  have t0 := R.t0
  have t1 := R.t1
  have tk := R.tk
  have iff := R.kd K X hk
  by_cases h4 : (Fm 11).toInt < 400
  · obtain ⟨F', e, h7, h8, fc⟩ := e_take_1 (P := P) (J := J) R.f0 (by rw [tk]; exact t0) (by rw [tk]; exact h4) (iff.mpr hm)
    obtain ⟨Fm', e', h11, fm⟩ := d_goes_1 (A := Am) (J := Jm) t0 h4
    rw [e, e', Option.bind_some, Option.bind_some]
    have hm' : (T.kr (Fm 11).toInt.toNat).toInt = k'.toInt := by rw [← X.m3]; exact hm
    exact ks F' Fm' (R.on K (by unfold TS.lv; rw [hm']; exact hl) h4 h7 h8 fc h11 fm)
  · obtain ⟨F', e, h1, h2⟩ := e_take_2 (P := P) (J := J) R.f0 (by rw [tk]; omega) (iff.mpr hm)
    obtain ⟨Fm', e', h1', h2'⟩ := d_goes_2 (A := Am) (J := Jm) R.g0 (by omega)
    rw [e, e', Option.bind_some, Option.bind_some]
    exact kf F' Fm' h2 h2' ⟨by rw [h1, h1'], by rw [h1']; decide⟩
/-- isNext beside is -/
theorem p2_next {γ δ : Type} {Q : γ → δ → Prop} {f} {g} (K : TKs T) (R : RT T F Fm) (X : RX T A J Am Jm) (hk : KR k.toInt k'.toInt) (ky : (Am 3 (Fm 11).toInt.toNat).toInt = k'.toInt → P2 (f 1) (g 1) Q) (kn : (Am 3 (Fm 11).toInt.toNat).toInt ≠ k'.toInt → P2 (f 0) (g 0) Q) : P2 (α := γ) (β := δ) ((e_Reader_isNext P F A J k).bind f) ((d_is Fm Am Jm k').bind g) Q := by
  have t0 := R.t0
  have t1 := R.t1
  have tk := R.tk
  have iff := R.kd K X hk
  by_cases hm : (Am 3 (Fm 11).toInt.toNat).toInt = k'.toInt
  · rw [e_next_1 R.f0 (by rw [tk]; exact t0) (by rw [tk]; exact t1) (iff.mpr hm), d_is_1 R.g0 t0 t1 hm]
    exact ky hm
  · rw [e_next_0 R.f0 (by rw [tk]; exact t0) (by rw [tk]; exact t1) (fun h => hm (iff.mp h)), d_is_0 R.g0 t0 t1 hm]
    exact kn hm
end TKR
