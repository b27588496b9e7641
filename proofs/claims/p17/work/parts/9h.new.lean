/-! bars: the row is cleared; is a set's arrival new -/
section S9h
variable {t : gT} {d : Nat} {c : Nat × Nat} {B : Nat → List gE} {P : Nat → Nat → Nat} {F : Nat → Nat → Int32} {A : Nat → Nat → Nat → Int32} {J : Nat → Nat → Nat → Int64} {j e : Nat}
/-- nothing but the row's place was changed -/
def p39 (P P' : Nat → Nat → Nat) : Prop := ∀ r k, ¬ (r = 32 ∧ k = 9) → P' r k = P r k
theorem p39_up {a : Nat} : p39 P (va_up P 32 (va_up (P 32) 9 a)) := fun r k h => by
  by_cases e : r = 32
  · subst e
    rw [c_up_same, c_up_ne (fun e => h ⟨rfl, e⟩)]
  · rw [c_up_ne e]
theorem b_clear_16 {x : Int32} (S : SEb c B P j e) : kx t (d + 1) 15 16 [(0, .ref (32 * 1024)), (1, .int x)] [] (c_h c B P F A J) (fun z => ∃ B', z = (none, c_h c B' P F A J) ∧ SEb c B' P j e ∧ b39 B B') := by
  refine kxB (pc' := 17) (loc' := [(0, .ref (32 * 1024)), (1, .int x)]) (st' := [.ref (32 * 1024)]) 1 rfl ?_
  refine kx_seen rfl S.2.2.1 ?_
  refine kxB (pc' := 21) (loc' := [(0, .ref (32 * 1024)), (1, .int x)]) (st' := [.long 0, .ref (39936 + j)]) 1 rfl ?_
  refine kxC rfl rfl rfl rfl (b_fill S) ?_
  rintro v h1 ⟨B', e1, S', q⟩
  cases e1
  exact kxR (k_vret rfl rfl) ⟨B', rfl, S', q⟩
theorem b_clear {x : Int32} (ht : ∀ ci k, t.1 ci k = k_ty ci k) (S : SEc c B P) (e1 : 1 ≤ e) (e13 : e ≤ 13) (hx : x.toInt = (2 ^ e : Nat)) : kx t (d + 1) 15 0 [(0, .ref (32 * 1024)), (1, .int x)] [] (c_h c B P F A J) (fun z => ∃ c' B' P' j' e', z = (none, c_h c' B' P' F A J) ∧ SEb c' B' P' j' e' ∧ b39 B B' ∧ p39 P P') := by
  have x8 := two_e e13
  have x0 : 1 ≤ 2 ^ e := Nat.one_le_two_pow
  have xc : x.toNatClampNeg = 2 ^ e := by
    have : x.toNatClampNeg = x.toInt.toNat := rfl
    omega
  -- a new row
  have make : ∀ {k : Nat}, (B 39).length = k → c.1 = 340 + k → k + 1 ≤ e → c.2 ≤ 20126 + 2 ^ e → kx t (d + 1) 15 9 [(0, .ref (32 * 1024)), (1, .int x)] [] (c_h c B P F A J) (fun z => ∃ c' B' P' j' e', z = (none, c_h c' B' P' F A J) ∧ SEb c' B' P' j' e' ∧ b39 B B' ∧ p39 P P') := by
    intro k hk hc ke h2
    subst hk
    refine kxB (pc' := 11) (loc' := [(0, .ref (32 * 1024)), (1, .int x)]) (st' := [.int x, .ref (32 * 1024)]) 2 rfl ?_
    refine kx_new rfl hc (by omega) (by omega) (by omega) ?_
    refine kx_pseen ht rfl ?_
    have S' : SEb (c.1 + 1, c.2 + x.toNatClampNeg) (va_up B 39 (B 39 ++ [jC x.toNatClampNeg (fun _ => 0)])) (va_up P 32 (va_up (P 32) 9 (39936 + (B 39).length))) (B 39).length e := by
      refine ⟨?_, ?_, ?_, ke, e13, ⟨fun _ => 0, ?_⟩, ?_⟩
      · rw [c_up_same, List.length_append, hc]
        rfl
      · rw [c_up_same, List.length_append]
        rfl
      · rw [c_up_same, c_up_same]
      · rw [c_up_same, xc, List.getElem?_append_right (Nat.le_refl _), Nat.sub_self]
        rfl
      · show c.2 + x.toNatClampNeg ≤ _
        rw [xc]
        omega
    obtain ⟨z, a, B', rfl, S2, q⟩ := b_clear_16 (t := t) (d := d) (x := x) (F := F) (A := A) (J := J) S'
    exact ⟨_, a, _, B', _, _, _, rfl, S2, b39_up.tr q, p39_up⟩
  refine kxB (pc' := 1) (loc' := [(0, .ref (32 * 1024)), (1, .int x)]) (st' := [.ref (32 * 1024)]) 1 rfl ?_
  rcases S with ⟨s1, s2, s3, s4⟩ | ⟨j', e', S⟩
  · refine kx_seen rfl s3 ?_
    refine kxI (fun z hz => k_cln 34 0 (K := 8) rfl rfl rfl rfl hz) ?_
    refine kxB (pc' := 6) (loc' := [(0, .ref (32 * 1024)), (1, .int x)]) (st' := [.int x, .int (Int32.ofNat 0)]) 1 rfl ?_
    refine kxic rfl (fun hc => ?_) (fun _ => ?_)
    · rw [i_ge, show (Int32.ofNat 0).toInt = 0 by decide] at hc
      omega
    · exact make (k := 0) (by rw [s2]; rfl) s1 e1 (by omega)
  · refine kx_seen rfl S.2.2.1 ?_
    obtain ⟨f, hf⟩ := S.2.2.2.2.2.1
    have j1 := S.2.2.2.1
    have j2 := S.2.2.2.2.1
    have x9 := two_e j2
    have el : (Int32.ofNat (2 ^ e')).toInt = (2 ^ e' : Nat) := Int32.toInt_ofNat_of_lt (by omega)
    refine k39_len rfl hf (by omega) ?_
    refine kxB (pc' := 6) (loc' := [(0, .ref (32 * 1024)), (1, .int x)]) (st' := [.int x, .int (Int32.ofNat (2 ^ e'))]) 1 rfl ?_
    refine kxic rfl (fun _ => ?_) (fun hc => ?_)
    · obtain ⟨z, a, B', rfl, S2, q⟩ := b_clear_16 (t := t) (d := d) (x := x) (F := F) (A := A) (J := J) S
      exact ⟨_, a, _, B', _, _, _, rfl, S2, q, fun _ _ _ => rfl⟩
    · rw [i_nge] at hc
      have lt : e' < e := by
        rcases Nat.lt_or_ge e' e with w | w
        · exact w
        · have := Nat.pow_le_pow_right (n := 2) (by decide) w
          omega
      have dbl : 2 * 2 ^ e' ≤ 2 ^ e := by
        have := Nat.pow_le_pow_right (n := 2) (by decide) lt
        rw [Nat.pow_succ] at this
        omega
      have c2 := S.2.2.2.2.2.2
      exact make (k := j' + 1) S.2.1 (by rw [S.1, S.2.1]) (by omega) (by omega)
/-- what isNew leaves -/
def NWc (c : Nat × Nat) (B : Nat → List gE) (P : Nat → Nat → Nat) (F : Nat → Nat → Int32) (A : Nat → Nat → Nat → Int32) (J : Nat → Nat → Nat → Int64) (j e : Nat) (z : Option Value × gH) : Prop := ∃ (v : Int32) (B' : Nat → List gE), z = (some (.int v), c_h c B' P F A J) ∧ SEb c B' P j e ∧ b39 B B'
theorem b_new_30 {key m3 : Int64} {mask : Int32} (S : SEb c B P j e) (hm : mask.toInt = (2 ^ e : Nat) - 1) : ∀ {m : Nat} {s i : Int32}, 0 ≤ i.toInt → i.toInt + m = (2 ^ e : Nat) → 0 ≤ s.toInt → s.toInt < (2 ^ e : Nat) → kx t d 16 30 [(0, .ref (32 * 1024)), (1, .long key), (3, .long m3), (5, .int mask), (6, .int s), (7, .int i)] [] (c_h c B P F A J) (NWc c B P F A J j e) := by
  have x9 := two_e S.2.2.2.2.1
  have j1 := S.2.2.2.1
  have j2 := S.2.2.2.2.1
  have el : (Int32.ofNat (2 ^ e)).toInt = (2 ^ e : Nat) := Int32.toInt_ofNat_of_lt (by omega)
  have x0 : 1 ≤ 2 ^ e := Nat.one_le_two_pow
  obtain ⟨f, hf⟩ := S.2.2.2.2.2.1
  have hj : j < 1024 := by omega
  intro m
  induction m with
  | zero =>
    intro s i i0 hi s0 s1
    refine kxB (pc' := 33) (loc' := [(0, .ref (32 * 1024)), (1, .long key), (3, .long m3), (5, .int mask), (6, .int s), (7, .int i)]) (st' := [.ref (32 * 1024), .int i]) 2 rfl ?_
    refine kx_seen rfl S.2.2.1 ?_
    refine k39_len rfl hf hj ?_
    refine kxic rfl (fun _ => ?_) (fun hc => ?_)
    · refine kxB (pc' := 96) (loc' := [(0, .ref (32 * 1024)), (1, .long key), (3, .long m3), (5, .int mask), (6, .int s), (7, .int i)]) (st' := [.int 1]) 1 rfl ?_
      exact kxR (k_zret rfl rfl (.inr rfl)) ⟨1, B, rfl, S, fun _ _ => rfl⟩
    · rw [i_nge] at hc
      omega
  | succ m ih =>
    intro s i i0 hi s0 s1
    have l1 : (1 : Int32).toInt = 1 := by decide
    have ei : (i + 1).toInt = i.toInt + 1 := by rw [i_add (by omega) (by omega), l1]
    have ms := i_and (x := s + 1) (m := mask) (by omega)
    refine kxB (pc' := 33) (loc' := [(0, .ref (32 * 1024)), (1, .long key), (3, .long m3), (5, .int mask), (6, .int s), (7, .int i)]) (st' := [.ref (32 * 1024), .int i]) 2 rfl ?_
    refine kx_seen rfl S.2.2.1 ?_
    refine k39_len rfl hf hj ?_
    refine kxic rfl (fun hc => ?_) (fun hc => ?_)
    · rw [i_ge] at hc
      omega
    · refine kxB (pc' := 41) (loc' := [(0, .ref (32 * 1024)), (1, .long key), (3, .long m3), (5, .int mask), (6, .int s), (7, .int i)]) (st' := [.ref (32 * 1024)]) 1 rfl ?_
      refine kx_seen rfl S.2.2.1 ?_
      refine kxB (pc' := 46) (loc' := [(0, .ref (32 * 1024)), (1, .long key), (3, .long m3), (5, .int mask), (6, .int s), (7, .int i)]) (st' := [.int s, .ref (39936 + j)]) 1 rfl ?_
      refine k39_ld rfl hf hj s0 s1 (fun v => ?_)
      refine kxB (pc' := 51) (loc' := [(0, .ref (32 * 1024)), (1, .long key), (3, .long m3), (5, .int mask), (6, .int s), (7, .int i)]) (st' := [.int _]) 4 rfl ?_
      refine kxif rfl (fun _ => ?_) (fun _ => ?_)
      · refine kxB (pc' := 57) (loc' := [(0, .ref (32 * 1024)), (1, .long key), (3, .long m3), (5, .int mask), (6, .int s), (7, .int i)]) (st' := [.ref (32 * 1024)]) 1 rfl ?_
        refine kx_seen rfl S.2.2.1 ?_
        refine kxB (pc' := 62) (loc' := [(0, .ref (32 * 1024)), (1, .long key), (3, .long m3), (5, .int mask), (6, .int s), (7, .int i)]) (st' := [.int s, .ref (39936 + j)]) 1 rfl ?_
        refine k39_ld rfl hf hj s0 s1 (fun v => ?_)
        refine kxB (pc' := 65) (loc' := [(0, .ref (32 * 1024)), (1, .long key), (3, .long m3), (5, .int mask), (6, .int s), (7, .int i)]) (st' := [.int _]) 2 rfl ?_
        refine kxif rfl (fun _ => ?_) (fun _ => ?_)
        · refine kxB (pc' := 30) (loc' := [(0, .ref (32 * 1024)), (1, .long key), (3, .long m3), (5, .int mask), (6, .int ((s + 1) &&& mask)), (7, .int (i + 1))]) (st' := []) 8 rfl ?_
          exact ih (by omega) (by omega) (by omega) (by omega)
        · refine kxB (pc' := 69) (loc' := [(0, .ref (32 * 1024)), (1, .long key), (3, .long m3), (5, .int mask), (6, .int s), (7, .int i)]) (st' := [.ref (32 * 1024)]) 1 rfl ?_
          refine kx_seen rfl S.2.2.1 ?_
          refine kxB (pc' := 77) (loc' := [(0, .ref (32 * 1024)), (1, .long key), (3, .long m3), (5, .int mask), (6, .int s), (7, .int i)]) (st' := [.long _, .int s, .ref (39936 + j)]) 4 rfl ?_
          refine k39_st rfl hf hj s0 s1 (fun f' => ?_)
          refine kxB (pc' := 79) (loc' := [(0, .ref (32 * 1024)), (1, .long key), (3, .long m3), (5, .int mask), (6, .int s), (7, .int i)]) (st' := [.int 1]) 1 rfl ?_
          exact kxR (k_zret rfl rfl (.inr rfl)) ⟨1, _, rfl, S.set, b39_up⟩
      · refine kxB (pc' := 55) (loc' := [(0, .ref (32 * 1024)), (1, .long key), (3, .long m3), (5, .int mask), (6, .int s), (7, .int i)]) (st' := [.int 0]) 1 rfl ?_
        exact kxR (k_zret rfl rfl (.inl rfl)) ⟨0, B, rfl, S, fun _ _ => rfl⟩
theorem b_new {key : Int64} (S : SEb c B P j e) : kx t d 16 0 [(0, .ref (32 * 1024)), (1, .long key)] [] (c_h c B P F A J) (NWc c B P F A J j e) := by
  have x9 := two_e S.2.2.2.2.1
  have j1 := S.2.2.2.1
  have j2 := S.2.2.2.2.1
  have el : (Int32.ofNat (2 ^ e)).toInt = (2 ^ e : Nat) := Int32.toInt_ofNat_of_lt (by omega)
  have x0 : 1 ≤ 2 ^ e := Nat.one_le_two_pow
  have l1 : (1 : Int32).toInt = 1 := by decide
  have em : (Int32.ofNat (2 ^ e) - 1).toInt = (2 ^ e : Nat) - 1 := by rw [i_sub (by omega) (by omega), l1, el]
  obtain ⟨f, hf⟩ := S.2.2.2.2.2.1
  have hj : j < 1024 := by omega
  refine kxB (pc' := 9) (loc' := [(0, .ref (32 * 1024)), (1, .long key), (3, .long _)]) (st' := [.ref (32 * 1024)]) 7 rfl ?_
  refine kx_seen rfl S.2.2.1 ?_
  refine k39_len rfl hf hj ?_
  refine kxB (pc' := 22) (loc' := [(0, .ref (32 * 1024)), (1, .long key), (3, .long _), (5, .int (Int32.ofNat (2 ^ e) - 1))]) (st' := [.int _]) 7 rfl ?_
  refine kxB (pc' := 30) (loc' := [(0, .ref (32 * 1024)), (1, .long key), (3, .long _), (5, .int (Int32.ofNat (2 ^ e) - 1)), (6, .int (_ &&& (Int32.ofNat (2 ^ e) - 1))), (7, .int 0)]) (st' := []) 5 rfl ?_
  refine b_new_30 (m := 2 ^ e) S em (by decide) (by rw [show (0 : Int32).toInt = 0 by decide]; omega) ?_ ?_
  · exact (i_and (by omega)).1
  · exact Int.lt_of_le_of_lt (i_and (by omega)).2 (by omega)
end S9h
