/-! the tokens of a text, as both sides hold them -/
abbrev TS : Type := (Nat → Int32) × (Nat → Int32) × (Nat → Int32) × (Nat → Int64) × (Nat → Int32) × (Nat → Int32) × (Nat → Int32) × (Nat → Int64) × (Nat → Int64) × (Nat → Int64)
def TS.kc (T : TS) : Nat → Int32 := T.1
def TS.fc (T : TS) : Nat → Int32 := T.2.1
def TS.nc (T : TS) : Nat → Int32 := T.2.2.1
def TS.jc (T : TS) : Nat → Int64 := T.2.2.2.1
def TS.kr (T : TS) : Nat → Int32 := T.2.2.2.2.1
def TS.pr (T : TS) : Nat → Int32 := T.2.2.2.2.2.1
def TS.vr (T : TS) : Nat → Int32 := T.2.2.2.2.2.2.1
def TS.jr (T : TS) : Nat → Int64 := T.2.2.2.2.2.2.2.1
def TS.jw (T : TS) : Nat → Int64 := T.2.2.2.2.2.2.2.2.1
def TS.jk (T : TS) : Nat → Int64 := T.2.2.2.2.2.2.2.2.2
/-- kinds of tokens: the class's, the reference's -/
def kt : List (Int × Int) := [(0, 20), (1, 21), (2, 23), (3, 24), (4, 25), (5, 28), (6, 30), (7, 34), (8, 22), (9, 26), (10, 27), (11, 29), (12, 31), (13, 32), (14, 33), (15, 35), (16, 36), (17, 37), (18, 38), (19, 39), (20, 40), (100, 1), (101, 2), (102, 0), (103, 3), (59, 4), (61, 5), (40, 6), (41, 7), (43, 8), (45, 9), (42, 10), (47, 15), (60, 13)]
abbrev KR (x y : Int) : Prop := (x, y) ∈ kt
theorem KR.iff {x y k k' : Int} (h : KR x y) (h' : KR k k') : x = k ↔ y = k' :=
  (by decide : ∀ p ∈ kt, ∀ q ∈ kt, (p.1 = q.1 ↔ p.2 = q.2)) _ h _ h'
/-- the same letters: eight bits each, or one of 27 -/
def TNf : Nat → Int → Int → Prop
  | 0, x, y => x = 0 ∧ y = 0
  | n + 1, x, y => ∃ x' y' c : Int, TNf n x' y' ∧ 97 ≤ c ∧ c ≤ 122 ∧ x = 256 * x' + c ∧ y = 27 * y' + (c - 96)
def TNi (x y : Int) : Prop := ∃ n, TNf n x y
theorem TNi.nil : TNi 0 0 := ⟨0, rfl, rfl⟩
theorem TNi.snoc {x y c : Int} (h : TNi x y) (h1 : 97 ≤ c) (h2 : c ≤ 122) : TNi (256 * x + c) (27 * y + (c - 96)) := by
  obtain ⟨n, h⟩ := h
  exact ⟨n + 1, x, y, c, h, h1, h2, rfl, rfl⟩
theorem TNf.pos : ∀ {n : Nat} {x y : Int}, TNf n x y → 0 ≤ x ∧ 0 ≤ y := by
  intro n
  induction n with
  | zero => rintro x y ⟨rfl, rfl⟩; exact ⟨by decide, by decide⟩
  | succ n ih =>
    rintro x y ⟨x', y', c, h, h1, h2, rfl, rfl⟩
    have := ih h
    omega
theorem TNi.pos {x y : Int} (h : TNi x y) : 0 ≤ x ∧ 0 ≤ y := by
  obtain ⟨n, h⟩ := h
  exact h.pos
theorem TNf.iff : ∀ {n m : Nat} {x y x' y' : Int}, TNf n x y → TNf m x' y' → (x = x' ↔ y = y') := by
  intro n
  induction n with
  | zero =>
    rintro m x y x' y' ⟨rfl, rfl⟩ h'
    cases m with
    | zero => obtain ⟨rfl, rfl⟩ := h'; exact ⟨fun _ => rfl, fun _ => rfl⟩
    | succ m =>
      obtain ⟨u, v, c, g, h1, h2, rfl, rfl⟩ := h'
      have := g.pos
      constructor <;> intro <;> omega
  | succ n ih =>
    rintro m x y x' y' ⟨u, v, c, g, h1, h2, rfl, rfl⟩ h'
    cases m with
    | zero =>
      obtain ⟨rfl, rfl⟩ := h'
      have := g.pos
      constructor <;> intro <;> omega
    | succ m =>
      obtain ⟨u', v', c', g', h1', h2', rfl, rfl⟩ := h'
      have i := ih g g'
      constructor
      · intro e
        have := i.mp (by omega)
        omega
      · intro e
        have := i.mpr (by omega)
        omega
theorem TNi.iff {x y x' y' : Int} (h : TNi x y) (h' : TNi x' y') : x = x' ↔ y = y' := by
  obtain ⟨n, h⟩ := h
  obtain ⟨m, h'⟩ := h'
  exact h.iff h'
def TS.lv (T : TS) (j : Nat) : Prop := (T.kr j).toInt ≠ 0 ∧ (T.kr j).toInt ≠ 3
def TKs (T : TS) : Prop := (∀ i : Nat, i ≤ 400 → (∀ j, j < i → T.lv j) → KR (T.kc i).toInt (T.kr i).toInt) ∧ (∀ i : Nat, i ≤ 400 → (∀ j, j < i → T.lv j) → (T.kr i).toInt = 2 → T.nc i = T.vr i) ∧ (∀ i : Nat, i ≤ 400 → (∀ j, j < i → T.lv j) → (T.kr i).toInt = 1 → TNi (T.jc i).toInt (T.jr i).toInt) ∧ (∀ i : Nat, i < 400 → (∀ j, j ≤ i → T.lv j) → (T.pr i).toInt < (T.pr (i + 1)).toInt)
theorem TKs.kd {T : TS} (h_ : TKs T) : ∀ i : Nat, i ≤ 400 → (∀ j, j < i → T.lv j) → KR (T.kc i).toInt (T.kr i).toInt := h_.1
theorem TKs.nu {T : TS} (h_ : TKs T) : ∀ i : Nat, i ≤ 400 → (∀ j, j < i → T.lv j) → (T.kr i).toInt = 2 → T.nc i = T.vr i := h_.2.1
theorem TKs.nm {T : TS} (h_ : TKs T) : ∀ i : Nat, i ≤ 400 → (∀ j, j < i → T.lv j) → (T.kr i).toInt = 1 → TNi (T.jc i).toInt (T.jr i).toInt := h_.2.2.1
theorem TKs.up {T : TS} (h_ : TKs T) : ∀ i : Nat, i < 400 → (∀ j, j ≤ i → T.lv j) → (T.pr i).toInt < (T.pr (i + 1)).toInt := h_.2.2.2
/-- both sides hold these tokens -/
def RX (T : TS) (A : Nat → Nat → Nat → Int32) (J : Nat → Nat → Nat → Int64) (Am : Nat → Nat → Int32) (Jm : Nat → Nat → Int64) : Prop := (A 37 2 = T.kc) ∧ (A 37 3 = T.fc) ∧ (A 37 4 = T.nc) ∧ (J 37 5 = T.jc) ∧ (J 37 6 = T.jw) ∧ (Am 3 = T.kr) ∧ (Am 4 = T.pr) ∧ (Am 5 = T.vr) ∧ (Jm 6 = T.jr) ∧ (Jm 7 = T.jk)
theorem RX.a2 {T : TS} {A : Nat → Nat → Nat → Int32} {J : Nat → Nat → Nat → Int64} {Am : Nat → Nat → Int32} {Jm : Nat → Nat → Int64} (h_ : RX T A J Am Jm) : A 37 2 = T.kc := h_.1
theorem RX.a3 {T : TS} {A : Nat → Nat → Nat → Int32} {J : Nat → Nat → Nat → Int64} {Am : Nat → Nat → Int32} {Jm : Nat → Nat → Int64} (h_ : RX T A J Am Jm) : A 37 3 = T.fc := h_.2.1
theorem RX.a4 {T : TS} {A : Nat → Nat → Nat → Int32} {J : Nat → Nat → Nat → Int64} {Am : Nat → Nat → Int32} {Jm : Nat → Nat → Int64} (h_ : RX T A J Am Jm) : A 37 4 = T.nc := h_.2.2.1
theorem RX.j5 {T : TS} {A : Nat → Nat → Nat → Int32} {J : Nat → Nat → Nat → Int64} {Am : Nat → Nat → Int32} {Jm : Nat → Nat → Int64} (h_ : RX T A J Am Jm) : J 37 5 = T.jc := h_.2.2.2.1
theorem RX.j6 {T : TS} {A : Nat → Nat → Nat → Int32} {J : Nat → Nat → Nat → Int64} {Am : Nat → Nat → Int32} {Jm : Nat → Nat → Int64} (h_ : RX T A J Am Jm) : J 37 6 = T.jw := h_.2.2.2.2.1
theorem RX.m3 {T : TS} {A : Nat → Nat → Nat → Int32} {J : Nat → Nat → Nat → Int64} {Am : Nat → Nat → Int32} {Jm : Nat → Nat → Int64} (h_ : RX T A J Am Jm) : Am 3 = T.kr := h_.2.2.2.2.2.1
theorem RX.m4 {T : TS} {A : Nat → Nat → Nat → Int32} {J : Nat → Nat → Nat → Int64} {Am : Nat → Nat → Int32} {Jm : Nat → Nat → Int64} (h_ : RX T A J Am Jm) : Am 4 = T.pr := h_.2.2.2.2.2.2.1
theorem RX.m5 {T : TS} {A : Nat → Nat → Nat → Int32} {J : Nat → Nat → Nat → Int64} {Am : Nat → Nat → Int32} {Jm : Nat → Nat → Int64} (h_ : RX T A J Am Jm) : Am 5 = T.vr := h_.2.2.2.2.2.2.2.1
theorem RX.k6 {T : TS} {A : Nat → Nat → Nat → Int32} {J : Nat → Nat → Nat → Int64} {Am : Nat → Nat → Int32} {Jm : Nat → Nat → Int64} (h_ : RX T A J Am Jm) : Jm 6 = T.jr := h_.2.2.2.2.2.2.2.2.1
theorem RX.k7 {T : TS} {A : Nat → Nat → Nat → Int32} {J : Nat → Nat → Nat → Int64} {Am : Nat → Nat → Int32} {Jm : Nat → Nat → Int64} (h_ : RX T A J Am Jm) : Jm 7 = T.jk := h_.2.2.2.2.2.2.2.2.2
/-- both sides stand at the same token, without a fault of form -/
def RT (T : TS) (F : Nat → Nat → Int32) (Fm : Nat → Int32) : Prop := ((F 37 10).toInt = 0) ∧ ((Fm 13).toInt = 0) ∧ (F 37 7 = Fm 11) ∧ (0 ≤ (Fm 11).toInt) ∧ ((Fm 11).toInt ≤ 400) ∧ (∀ j : Nat, (j : Int) < (Fm 11).toInt → T.lv j) ∧ (F 37 12 = Fm 15) ∧ ((Fm 15).toInt ≠ 0 → (Fm 16).toInt < (T.pr (Fm 11).toInt.toNat).toInt)
theorem RT.f0 {T : TS} {F : Nat → Nat → Int32} {Fm : Nat → Int32} (h_ : RT T F Fm) : (F 37 10).toInt = 0 := h_.1
theorem RT.g0 {T : TS} {F : Nat → Nat → Int32} {Fm : Nat → Int32} (h_ : RT T F Fm) : (Fm 13).toInt = 0 := h_.2.1
theorem RT.tk {T : TS} {F : Nat → Nat → Int32} {Fm : Nat → Int32} (h_ : RT T F Fm) : F 37 7 = Fm 11 := h_.2.2.1
theorem RT.t0 {T : TS} {F : Nat → Nat → Int32} {Fm : Nat → Int32} (h_ : RT T F Fm) : 0 ≤ (Fm 11).toInt := h_.2.2.2.1
theorem RT.t1 {T : TS} {F : Nat → Nat → Int32} {Fm : Nat → Int32} (h_ : RT T F Fm) : (Fm 11).toInt ≤ 400 := h_.2.2.2.2.1
theorem RT.lv {T : TS} {F : Nat → Nat → Int32} {Fm : Nat → Int32} (h_ : RT T F Fm) : ∀ j : Nat, (j : Int) < (Fm 11).toInt → T.lv j := h_.2.2.2.2.2.1
theorem RT.lt {T : TS} {F : Nat → Nat → Int32} {Fm : Nat → Int32} (h_ : RT T F Fm) : F 37 12 = Fm 15 := h_.2.2.2.2.2.2.1
theorem RT.wp {T : TS} {F : Nat → Nat → Int32} {Fm : Nat → Int32} (h_ : RT T F Fm) : (Fm 15).toInt ≠ 0 → (Fm 16).toInt < (T.pr (Fm 11).toInt.toNat).toInt := h_.2.2.2.2.2.2.2
theorem RT.cg {T : TS} {F F' : Nat → Nat → Int32} {Fm Fm' : Nat → Int32} (R : RT T F Fm) (hF : ∀ k, k = 7 ∨ k = 10 ∨ k = 12 → F' 37 k = F 37 k) (hm : ∀ q, q = 11 ∨ q = 13 ∨ q = 15 ∨ q = 16 → Fm' q = Fm q) : RT T F' Fm' := by
  refine ⟨?_, ?_, ?_, ?_, ?_, ?_, ?_, ?_⟩
  · rw [hF 10 (by omega)]; exact R.f0
  · rw [hm 13 (by omega)]; exact R.g0
  · rw [hF 7 (by omega), hm 11 (by omega)]; exact R.tk
  · rw [hm 11 (by omega)]; exact R.t0
  · rw [hm 11 (by omega)]; exact R.t1
  · rw [hm 11 (by omega)]; exact R.lv
  · rw [hF 12 (by omega), hm 15 (by omega)]; exact R.lt
  · rw [hm 15 (by omega), hm 16 (by omega), hm 11 (by omega)]; exact R.wp
/-- both sides have found a fault of form, the same one -/
def FE (F : Nat → Nat → Int32) (Fm : Nat → Int32) : Prop := F 37 10 = Fm 13 ∧ 0 < (Fm 13).toInt
def FrC (F F' : Nat → Nat → Int32) : Prop := ∀ r k, ¬ (r = 37 ∧ 7 ≤ k ∧ k ≤ 13 ∧ k ≠ 9) → F' r k = F r k
def FrM (F F' : Nat → Int32) : Prop := ∀ q, q ≠ 11 → q ≠ 13 → q ≠ 14 → q ≠ 15 → q ≠ 16 → F' q = F q
theorem FrC.rfl' {F : Nat → Nat → Int32} : FrC F F := fun _ _ _ => rfl
theorem FrM.rfl' {F : Nat → Int32} : FrM F F := fun _ _ _ _ _ _ => rfl
theorem FrC.tr {F F1 F' : Nat → Nat → Int32} (h : FrC F F1) (h' : FrC F1 F') : FrC F F' := fun r k e => (h' r k e).trans (h r k e)
theorem FrM.tr {F F1 F' : Nat → Int32} (h : FrM F F1) (h' : FrM F1 F') : FrM F F' := fun q a b c d e => (h' q a b c d e).trans (h q a b c d e)
section LD
variable {f : Nat → Int32} {fJ : Nat → Int64} {n : Nat} {i : Int32}
theorem m_ld_in (h0 : 0 ≤ i.toInt) (h1 : i.toInt < (n : Int)) : m_ld f n i = some (f i.toInt.toNat) := by
  unfold m_ld
  rw [if_neg (i_in h0 h1)]
  rfl
theorem m_ldJ_in (h0 : 0 ≤ i.toInt) (h1 : i.toInt < (n : Int)) : m_ldJ fJ n i = some (fJ i.toInt.toNat) := by
  unfold m_ldJ
  rw [if_neg (i_in h0 h1)]
  rfl
end LD
theorem i_0 : (0 : Int32).toInt = 0 := by decide
theorem i_400 : (400 : Int32).toInt = 400 := by decide
theorem i_1 : (1 : Int32).toInt = 1 := by decide
section TKC
variable {P : Nat → Nat → Nat} {F : Nat → Nat → Int32} {A : Nat → Nat → Nat → Int32} {J : Nat → Nat → Nat → Int64} {k : Int32}
/-! the class's take, by what it finds -/
theorem e_take_ff (h : (F 37 10).toInt ≠ 0) : e_Reader_take P F A J k = some (0, P, F, A, J) := by
  unfold e_Reader_take
  rw [i_neq.mpr (by rw [i_0]; exact h), cond_false]
theorem e_next_ff (h : (F 37 10).toInt ≠ 0) : e_Reader_isNext P F A J k = some 0 := by
  unfold e_Reader_isNext
  rw [i_ne.mpr (by rw [i_0]; exact h), cond_true]
theorem e_next_0 (h : (F 37 10).toInt = 0) (t0 : 0 ≤ (F 37 7).toInt) (t1 : (F 37 7).toInt ≤ 400) (hk : (A 37 2 (F 37 7).toInt.toNat).toInt ≠ k.toInt) : e_Reader_isNext P F A J k = some 0 := by
  unfold e_Reader_isNext
  rw [i_nne.mpr (by rw [i_0]; exact h), cond_false, m_ld_in t0 (by omega), Option.bind_some, i_ne.mpr hk, cond_true]
theorem e_next_1 (h : (F 37 10).toInt = 0) (t0 : 0 ≤ (F 37 7).toInt) (t1 : (F 37 7).toInt ≤ 400) (hk : (A 37 2 (F 37 7).toInt.toNat).toInt = k.toInt) : e_Reader_isNext P F A J k = some 1 := by
  unfold e_Reader_isNext
  rw [i_nne.mpr (by rw [i_0]; exact h), cond_false, m_ld_in t0 (by omega), Option.bind_some, i_nne.mpr hk, cond_false]
theorem e_fail_0 {v : Int32} (h : (F 37 10).toInt = 0) : ∃ F', e_Reader_fail P F A J k v = some ((), P, F', A, J) ∧ F' 37 10 = k ∧ FrC F F' := by
  unfold e_Reader_fail
  rw [i_eq.mpr (by rw [i_0]; exact h), cond_true]
  unfold e_Reader_fail_15
  obtain ⟨F3, e3⟩ : ∃ F3, c_pf F 37 10 k = some F3 := ⟨_, rfl⟩
  rw [e3, Option.bind_some]
  obtain ⟨F4, e4⟩ : ∃ F4, c_pf F3 37 11 v = some F4 := ⟨_, rfl⟩
  rw [e4, Option.bind_some]
  have U3 := gg_cpf e3
  have U4 := gg_cpf e4
  exact ⟨F4, rfl, by rw [U4.2 37 10 (by decide), U3.1], fun r q hn => by rw [U4.2 r q (by omega), U3.2 r q (by omega)]⟩
theorem e_take_0 (h : (F 37 10).toInt = 0) (t0 : 0 ≤ (F 37 7).toInt) (t1 : (F 37 7).toInt ≤ 400) (hk : (A 37 2 (F 37 7).toInt.toNat).toInt ≠ k.toInt) : ∃ F', e_Reader_take P F A J k = some (0, P, F', A, J) ∧ F' 37 10 = 1 ∧ FrC F F' := by
  unfold e_Reader_take
  rw [i_eq.mpr (by rw [i_0]; exact h), cond_true, m_ld_in t0 (by omega), Option.bind_some, i_neq.mpr hk, cond_false, m_ld_in t0 (by omega), Option.bind_some]
  obtain ⟨F', e, h1, h2⟩ := e_fail_0 (P := P) (A := A) (J := J) (k := 1) (v := A 37 3 (F 37 7).toInt.toNat) h
  rw [e, Option.bind_some]
  exact ⟨F', rfl, h1, h2⟩
theorem e_take_2 (h : (F 37 10).toInt = 0) (t1 : (F 37 7).toInt = 400) (hk : (A 37 2 (F 37 7).toInt.toNat).toInt = k.toInt) : ∃ F', e_Reader_take P F A J k = some (0, P, F', A, J) ∧ F' 37 10 = 2 ∧ FrC F F' := by
  unfold e_Reader_take
  rw [i_eq.mpr (by rw [i_0]; exact h), cond_true, m_ld_in (by omega) (by omega), Option.bind_some, i_eq.mpr hk, cond_true, i_nlt.mpr (by rw [i_400]; omega), cond_false, m_ld_in (by omega) (by omega), Option.bind_some]
  obtain ⟨F', e, h1, h2⟩ := e_fail_0 (P := P) (A := A) (J := J) (k := 2) (v := A 37 3 (F 37 7).toInt.toNat) h
  rw [e, Option.bind_some]
  exact ⟨F', rfl, h1, h2⟩
theorem e_take_1 (h : (F 37 10).toInt = 0) (t0 : 0 ≤ (F 37 7).toInt) (t1 : (F 37 7).toInt < 400) (hk : (A 37 2 (F 37 7).toInt.toNat).toInt = k.toInt) : ∃ F', e_Reader_take P F A J k = some (1, P, F', A, J) ∧ F' 37 7 = F 37 7 + 1 ∧ F' 37 8 = F 37 7 ∧ (∀ r q, ¬ (r = 37 ∧ (q = 7 ∨ q = 8)) → F' r q = F r q) := by
  unfold e_Reader_take
  rw [i_eq.mpr (by rw [i_0]; exact h), cond_true, m_ld_in t0 (by omega), Option.bind_some, i_eq.mpr hk, cond_true, i_lt.mpr (by rw [i_400]; omega), cond_true]
  obtain ⟨F3, e3⟩ : ∃ F3, c_pf F 37 8 (F 37 7) = some F3 := ⟨_, rfl⟩
  rw [e3, Option.bind_some]
  obtain ⟨F4, e4⟩ : ∃ F4, c_pf F3 37 7 (F3 37 7 + 1) = some F4 := ⟨_, rfl⟩
  rw [e4, Option.bind_some]
  have U3 := gg_cpf e3
  have U4 := gg_cpf e4
  exact ⟨F4, rfl, by rw [U4.1, U3.2 37 7 (by decide)], by rw [U4.2 37 8 (by decide), U3.1], fun r q hn => by rw [U4.2 r q (by omega), U3.2 r q (by omega)]⟩
end TKC
section TKM
variable {F : Nat → Int32} {A : Nat → Nat → Int32} {J : Nat → Nat → Int64} {k : Int32}
/-! the reference's must, by what it finds -/
theorem d_fail_ff (h : 0 < (F 13).toInt) : d_fail F A J k = some ((), F, A, J) := by
  unfold d_fail
  rw [i_nle.mpr (by rw [i_0]; exact h), cond_false]
theorem d_is_ff (h : 0 < (F 13).toInt) : d_is F A J k = some 0 := by
  unfold d_is
  rw [i_ne.mpr (by rw [i_0]; omega), cond_true]
theorem d_must_ff (h : 0 < (F 13).toInt) : d_must F A J k = some ((), F, A, J) := by
  unfold d_must
  rw [d_is_ff h, Option.bind_some, i_eq.mpr rfl, cond_true, d_fail_ff h, Option.bind_some]
theorem d_is_0 (h : (F 13).toInt = 0) (t0 : 0 ≤ (F 11).toInt) (t1 : (F 11).toInt ≤ 400) (hk : (A 3 (F 11).toInt.toNat).toInt ≠ k.toInt) : d_is F A J k = some 0 := by
  unfold d_is
  rw [i_nne.mpr (by rw [i_0]; exact h), cond_false, m_ld_in t0 (by omega), Option.bind_some, i_ne.mpr hk, cond_true]
theorem d_is_1 (h : (F 13).toInt = 0) (t0 : 0 ≤ (F 11).toInt) (t1 : (F 11).toInt ≤ 400) (hk : (A 3 (F 11).toInt.toNat).toInt = k.toInt) : d_is F A J k = some 1 := by
  unfold d_is
  rw [i_nne.mpr (by rw [i_0]; exact h), cond_false, m_ld_in t0 (by omega), Option.bind_some, i_nne.mpr hk, cond_false]
theorem d_fail_0 (h : (F 13).toInt = 0) (t0 : 0 ≤ (F 11).toInt) (t1 : (F 11).toInt ≤ 400) : ∃ F', d_fail F A J k = some ((), F', A, J) ∧ F' 13 = k ∧ FrM F F' ∧ F' 11 = F 11 := by
  unfold d_fail
  rw [i_le.mpr (by rw [i_0]; omega), cond_true]
  obtain ⟨F3, e3⟩ : ∃ F3, m_pf F 13 k = some F3 := ⟨_, rfl⟩
  have U3 := gg_pf e3
  rw [e3, Option.bind_some]
  have e11 : F3 11 = F 11 := U3.2 11 (by decide)
  rw [e11, m_ld_in t0 (by omega), Option.bind_some]
  obtain ⟨F4, e4⟩ : ∃ F4, m_pf F3 14 (A 4 (F 11).toInt.toNat) = some F4 := ⟨_, rfl⟩
  rw [e4, Option.bind_some]
  have U4 := gg_pf e4
  exact ⟨F4, rfl, by rw [U4.2 13 (by decide), U3.1], fun q a b c d e => by rw [U4.2 q c, U3.2 q b], by rw [U4.2 11 (by decide), e11]⟩
theorem d_goes_1 (t0 : 0 ≤ (F 11).toInt) (t1 : (F 11).toInt < 400) : ∃ F', d_goesOn F A J = some ((), F', A, J) ∧ F' 11 = F 11 + 1 ∧ (∀ q, q ≠ 11 → F' q = F q) := by
  unfold d_goesOn
  rw [i_ne.mpr (by rw [i_400]; omega), cond_true]
  obtain ⟨F3, e3⟩ : ∃ F3, m_pf F 11 (F 11 + 1) = some F3 := ⟨_, rfl⟩
  have U3 := gg_pf e3
  rw [e3, Option.bind_some]
  exact ⟨F3, rfl, U3.1, U3.2⟩
theorem d_goes_2 (h : (F 13).toInt = 0) (t1 : (F 11).toInt = 400) : ∃ F', d_goesOn F A J = some ((), F', A, J) ∧ F' 13 = 2 ∧ FrM F F' := by
  unfold d_goesOn
  rw [i_nne.mpr (by rw [i_400]; omega), cond_false]
  obtain ⟨F', e, h1, h2, _⟩ := d_fail_0 (A := A) (J := J) (k := 2) h (by omega) (by omega)
  rw [e, Option.bind_some]
  exact ⟨F', rfl, h1, h2⟩
theorem d_goes_ff (h : 0 < (F 13).toInt) : ∃ F', d_goesOn F A J = some ((), F', A, J) ∧ F' 13 = F 13 ∧ FrM F F' := by
  unfold d_goesOn
  by_cases c : g_cnd .ne (F 11) 400 = true
  · rw [c, cond_true]
    obtain ⟨F3, e3⟩ : ∃ F3, m_pf F 11 (F 11 + 1) = some F3 := ⟨_, rfl⟩
    have U3 := gg_pf e3
    rw [e3, Option.bind_some]
    exact ⟨F3, rfl, U3.2 13 (by decide), fun q a _ _ _ _ => U3.2 q a⟩
  · rw [Bool.not_eq_true] at c
    rw [c, cond_false, d_fail_ff h, Option.bind_some]
    exact ⟨F, rfl, rfl, FrM.rfl'⟩
theorem d_must_0 (h : (F 13).toInt = 0) (t0 : 0 ≤ (F 11).toInt) (t1 : (F 11).toInt ≤ 400) (hk : (A 3 (F 11).toInt.toNat).toInt ≠ k.toInt) : ∃ F', d_must F A J k = some ((), F', A, J) ∧ F' 13 = 1 ∧ FrM F F' := by
  unfold d_must
  rw [d_is_0 h t0 t1 hk, Option.bind_some, i_eq.mpr rfl, cond_true]
  obtain ⟨F', e, h1, h2, _⟩ := d_fail_0 (A := A) (J := J) (k := 1) h t0 t1
  rw [e, Option.bind_some]
  exact ⟨F', rfl, h1, h2⟩
theorem d_must_1 (h : (F 13).toInt = 0) (t0 : 0 ≤ (F 11).toInt) (t1 : (F 11).toInt < 400) (hk : (A 3 (F 11).toInt.toNat).toInt = k.toInt) : ∃ F', d_must F A J k = some ((), F', A, J) ∧ F' 11 = F 11 + 1 ∧ (∀ q, q ≠ 11 → F' q = F q) := by
  unfold d_must
  rw [d_is_1 h t0 (by omega) hk, Option.bind_some, i_neq.mpr (by decide), cond_false]
  obtain ⟨F', e, h1, h2⟩ := d_goes_1 (F := F) (A := A) (J := J) t0 t1
  rw [e, Option.bind_some]
  exact ⟨F', rfl, h1, h2⟩
theorem d_must_2 (h : (F 13).toInt = 0) (t1 : (F 11).toInt = 400) (hk : (A 3 (F 11).toInt.toNat).toInt = k.toInt) : ∃ F', d_must F A J k = some ((), F', A, J) ∧ F' 13 = 2 ∧ FrM F F' := by
  unfold d_must
  rw [d_is_1 h (by omega) (by omega) hk, Option.bind_some, i_neq.mpr (by decide), cond_false]
  obtain ⟨F', e, h1, h2⟩ := d_goes_2 (A := A) (J := J) h t1
  rw [e, Option.bind_some]
  exact ⟨F', rfl, h1, h2⟩
end TKM
section TKR
variable {T : TS} {P : Nat → Nat → Nat} {F : Nat → Nat → Int32} {A : Nat → Nat → Nat → Int32} {J : Nat → Nat → Nat → Int64} {Fm : Nat → Int32} {Am : Nat → Nat → Int32} {Jm : Nat → Nat → Int64} {k k' : Int32}
/-- one token on -/
def RU (T : TS) (F F' : Nat → Nat → Int32) (Fm Fm' : Nat → Int32) : Prop := (RT T F' Fm') ∧ (F' 37 8 = Fm 11) ∧ ((Fm' 11).toInt = (Fm 11).toInt + 1) ∧ (∀ r q, ¬ (r = 37 ∧ (q = 7 ∨ q = 8)) → F' r q = F r q) ∧ (∀ q, q ≠ 11 → Fm' q = Fm q)
theorem RU.rt {T : TS} {F F' : Nat → Nat → Int32} {Fm Fm' : Nat → Int32} (h_ : RU T F F' Fm Fm') : RT T F' Fm' := h_.1
theorem RU.c8 {T : TS} {F F' : Nat → Nat → Int32} {Fm Fm' : Nat → Int32} (h_ : RU T F F' Fm Fm') : F' 37 8 = Fm 11 := h_.2.1
theorem RU.m1 {T : TS} {F F' : Nat → Nat → Int32} {Fm Fm' : Nat → Int32} (h_ : RU T F F' Fm Fm') : (Fm' 11).toInt = (Fm 11).toInt + 1 := h_.2.2.1
theorem RU.fc {T : TS} {F F' : Nat → Nat → Int32} {Fm Fm' : Nat → Int32} (h_ : RU T F F' Fm Fm') : ∀ r q, ¬ (r = 37 ∧ (q = 7 ∨ q = 8)) → F' r q = F r q := h_.2.2.2.1
theorem RU.fm {T : TS} {F F' : Nat → Nat → Int32} {Fm Fm' : Nat → Int32} (h_ : RU T F F' Fm Fm') : ∀ q, q ≠ 11 → Fm' q = Fm q := h_.2.2.2.2
theorem RU.c {F' : Nat → Nat → Int32} {Fm' : Nat → Int32} (U : RU T F F' Fm Fm') : FrC F F' := fun r q h => U.fc r q (by omega)
theorem RU.m {F' : Nat → Nat → Int32} {Fm' : Nat → Int32} (U : RU T F F' Fm Fm') : FrM Fm Fm' := fun q h _ _ _ _ => U.fm q h
theorem RT.on (K : TKs T) (R : RT T F Fm) (hl : T.lv (Fm 11).toInt.toNat) (t1 : (Fm 11).toInt < 400) {F' : Nat → Nat → Int32} {Fm' : Nat → Int32} (e7 : F' 37 7 = F 37 7 + 1) (e8 : F' 37 8 = F 37 7) (fc : ∀ r q, ¬ (r = 37 ∧ (q = 7 ∨ q = 8)) → F' r q = F r q) (e11 : Fm' 11 = Fm 11 + 1) (fm : ∀ q, q ≠ 11 → Fm' q = Fm q) : RU T F F' Fm Fm' := by
  have m1 : (Fm' 11).toInt = (Fm 11).toInt + 1 := by
    have t0 := R.t0
    have l1 := i_1
    rw [e11, i_add (by omega) (by omega), i_1]
  have lv : ∀ j : Nat, (j : Int) < (Fm' 11).toInt → T.lv j := by
    intro j hj
    by_cases e : (j : Int) < (Fm 11).toInt
    · exact R.lv j e
    · have : j = (Fm 11).toInt.toNat := by have t0 := R.t0; omega
      rw [this]; exact hl
  refine ⟨⟨?_, ?_, ?_, ?_, ?_, lv, ?_, ?_⟩, by rw [e8, R.tk], m1, fc, fm⟩
  · rw [fc 37 10 (by decide)]; exact R.f0
  · rw [fm 13 (by decide)]; exact R.g0
  · rw [e7, e11, R.tk]
  · have := R.t0; omega
  · omega
  · rw [fc 37 12 (by decide), fm 15 (by decide)]; exact R.lt
  · rw [fm 15 (by decide), fm 16 (by decide)]
    intro h
    have a := R.wp h
    have b := K.up (Fm 11).toInt.toNat (by have := R.t0; omega) (fun j hj => by
      by_cases e : (j : Int) < (Fm 11).toInt
      · exact R.lv j e
      · have : j = (Fm 11).toInt.toNat := by omega
        rw [this]; exact hl)
    have e : (Fm' 11).toInt.toNat = (Fm 11).toInt.toNat + 1 := by have := R.t0; omega
    rw [e]
    omega
theorem RT.kd (K : TKs T) (R : RT T F Fm) (X : RX T A J Am Jm) (hk : KR k.toInt k'.toInt) : (A 37 2 (F 37 7).toInt.toNat).toInt = k.toInt ↔ (Am 3 (Fm 11).toInt.toNat).toInt = k'.toInt := by
  rw [X.a2, X.m3, R.tk]
  exact (K.kd _ (by have := R.t0; have := R.t1; omega) (fun j hj => R.lv j (by omega))).iff hk
/-- take beside must -/
theorem p2_take {γ δ : Type} {Q : γ → δ → Prop} {f} {g} (K : TKs T) (R : RT T F Fm) (X : RX T A J Am Jm) (hk : KR k.toInt k'.toInt) (hl : k'.toInt ≠ 0 ∧ k'.toInt ≠ 3) (ks : ∀ F' Fm', RU T F F' Fm Fm' → (T.kr (Fm 11).toInt.toNat).toInt = k'.toInt → P2 (f (1, P, F', A, J)) (g ((), Fm', Am, Jm)) Q) (kf : ∀ F' Fm', FrC F F' → FrM Fm Fm' → FE F' Fm' → ((T.kr (Fm 11).toInt.toNat).toInt = k'.toInt → (Fm' 13).toInt = 2) → P2 (f (0, P, F', A, J)) (g ((), Fm', Am, Jm)) Q) : P2 (α := γ) (β := δ) ((e_Reader_take P F A J k).bind f) ((d_must Fm Am Jm k').bind g) Q := by
  have t0 := R.t0
  have t1 := R.t1
  have tk := R.tk
  have iff := R.kd K X hk
  by_cases hm : (Am 3 (Fm 11).toInt.toNat).toInt = k'.toInt
  · by_cases h4 : (Fm 11).toInt < 400
    · obtain ⟨F', e, h7, h8, fc⟩ := e_take_1 (P := P) (J := J) R.f0 (by rw [tk]; exact t0) (by rw [tk]; exact h4) (iff.mpr hm)
      obtain ⟨Fm', e', h11, fm⟩ := d_must_1 (J := Jm) R.g0 t0 h4 hm
      rw [e, e', Option.bind_some, Option.bind_some]
      have hm' : (T.kr (Fm 11).toInt.toNat).toInt = k'.toInt := by rw [← X.m3]; exact hm
      exact ks F' Fm' (R.on K (by unfold TS.lv; rw [hm']; exact hl) h4 h7 h8 fc h11 fm) hm'
    · obtain ⟨F', e, h1, h2⟩ := e_take_2 (P := P) (J := J) R.f0 (by rw [tk]; omega) (iff.mpr hm)
      obtain ⟨Fm', e', h1', h2'⟩ := d_must_2 (J := Jm) R.g0 (by omega) hm
      rw [e, e', Option.bind_some, Option.bind_some]
      exact kf F' Fm' h2 h2' ⟨by rw [h1, h1'], by rw [h1']; decide⟩ (fun _ => by rw [h1']; decide)
  · obtain ⟨F', e, h1, h2⟩ := e_take_0 (P := P) (J := J) R.f0 (by rw [tk]; exact t0) (by rw [tk]; exact t1) (fun h => hm (iff.mp h))
    obtain ⟨Fm', e', h1', h2'⟩ := d_must_0 (J := Jm) R.g0 t0 t1 hm
    rw [e, e', Option.bind_some, Option.bind_some]
    exact kf F' Fm' h2 h2' ⟨by rw [h1, h1'], by rw [h1']; decide⟩ (fun h => absurd (by rw [X.m3]; exact h) hm)
/-- take, where the kind has been looked at, beside goesOn -/
theorem p2_goes {γ δ : Type} {Q : γ → δ → Prop} {f} {g} (K : TKs T) (R : RT T F Fm) (X : RX T A J Am Jm) (hk : KR k.toInt k'.toInt) (hl : k'.toInt ≠ 0 ∧ k'.toInt ≠ 3) (hm : (Am 3 (Fm 11).toInt.toNat).toInt = k'.toInt) (ks : ∀ F' Fm', RU T F F' Fm Fm' → P2 (f (1, P, F', A, J)) (g ((), Fm', Am, Jm)) Q) (kf : ∀ F' Fm', FrC F F' → FrM Fm Fm' → FE F' Fm' → P2 (f (0, P, F', A, J)) (g ((), Fm', Am, Jm)) Q) : P2 (α := γ) (β := δ) ((e_Reader_take P F A J k).bind f) ((d_goesOn Fm Am Jm).bind g) Q := by
  have t0 := R.t0
  have t1 := R.t1
  have tk := R.tk
  have iff := R.kd K X hk
  by_cases h4 : (Fm 11).toInt < 400
  · obtain ⟨F', e, h7, h8, fc⟩ := e_take_1 (P := P) (J := J) R.f0 (by rw [tk]; exact t0) (by rw [tk]; exact h4) (iff.mpr hm)
    obtain ⟨Fm', e', h11, fm⟩ := d_goes_1 (A := Am) (J := Jm) t0 h4
    rw [e, e', Option.bind_some, Option.bind_some]
    have hm' : (T.kr (Fm 11).toInt.toNat).toInt = k'.toInt := by rw [← X.m3]; exact hm
    exact ks F' Fm' (R.on K (by unfold TS.lv; rw [hm']; exact hl) h4 h7 h8 fc h11 fm)
  · obtain ⟨F', e, h1, h2⟩ := e_take_2 (P := P) (J := J) R.f0 (by rw [tk]; omega) (iff.mpr hm)
    obtain ⟨Fm', e', h1', h2'⟩ := d_goes_2 (A := Am) (J := Jm) R.g0 (by omega)
    rw [e, e', Option.bind_some, Option.bind_some]
    exact kf F' Fm' h2 h2' ⟨by rw [h1, h1'], by rw [h1']; decide⟩
/-- isNext beside is -/
theorem p2_next {γ δ : Type} {Q : γ → δ → Prop} {f} {g} (K : TKs T) (R : RT T F Fm) (X : RX T A J Am Jm) (hk : KR k.toInt k'.toInt) (ky : (Am 3 (Fm 11).toInt.toNat).toInt = k'.toInt → P2 (f 1) (g 1) Q) (kn : (Am 3 (Fm 11).toInt.toNat).toInt ≠ k'.toInt → P2 (f 0) (g 0) Q) : P2 (α := γ) (β := δ) ((e_Reader_isNext P F A J k).bind f) ((d_is Fm Am Jm k').bind g) Q := by
  have t0 := R.t0
  have t1 := R.t1
  have tk := R.tk
  have iff := R.kd K X hk
  by_cases hm : (Am 3 (Fm 11).toInt.toNat).toInt = k'.toInt
  · rw [e_next_1 R.f0 (by rw [tk]; exact t0) (by rw [tk]; exact t1) (iff.mpr hm), d_is_1 R.g0 t0 t1 hm]
    exact ky hm
  · rw [e_next_0 R.f0 (by rw [tk]; exact t0) (by rw [tk]; exact t1) (fun h => hm (iff.mp h)), d_is_0 R.g0 t0 t1 hm]
    exact kn hm
end TKR
