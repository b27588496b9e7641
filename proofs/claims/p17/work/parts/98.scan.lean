/-! the class's scanner -/
section S98
variable {P : Nat → Nat → Nat} {J : Nat → Nat → Nat → Int64}
/-- what the scanner changes -/
def SCc (F F' : Nat → Nat → Int32) (A A' : Nat → Nat → Nat → Int32) : Prop := (∀ r k, ¬ (r = 37 ∧ k = 105) → F' r k = F r k) ∧ (∀ r o, ¬ (r = 37 ∧ (o = 2 ∨ o = 3 ∨ o = 4)) → A' r o = A r o) ∧ Rc F' A'
theorem SCc.tr {F F1 F' : Nat → Nat → Int32} {A A1 A' : Nat → Nat → Nat → Int32} (a : SCc F F1 A A1) (b : SCc F1 F' A1 A') : SCc F F' A A' := ⟨fun r k h => (b.1 r k h).trans (a.1 r k h), fun r o h => (b.2.1 r o h).trans (a.2.1 r o h), b.2.2⟩
theorem SCc.rfl' {F : Nat → Nat → Int32} {A : Nat → Nat → Nat → Int32} (R : Rc F A) : SCc F F A A := ⟨fun _ _ _ => rfl, fun _ _ _ => rfl, R⟩
theorem SCc.st {F F' : Nat → Nat → Int32} {A A1 A' : Nat → Nat → Nat → Int32} {o : Nat} {i v : Int} (a : SCc F F' A A1) (U : CUm A1 A' 37 o i v) (ho : o = 2 ∨ o = 3 ∨ o = 4) : SCc F F' A A' := ⟨a.1, fun r o' h => (U.2.2 r o' (by rintro ⟨rfl, rfl⟩; exact h ⟨rfl, ho⟩)).trans (a.2.1 r o' h), a.2.2.st U trivial⟩
def SPc (P : Nat → Nat → Nat) (F : Nat → Nat → Int32) (A : Nat → Nat → Nat → Int32) (r : Unit × (Nat → Nat → Nat) × (Nat → Nat → Int32) × (Nat → Nat → Nat → Int32) × (Nat → Nat → Nat → Int64)) : Prop := r.2.1 = P ∧ SCc F r.2.2.1 A r.2.2.2.1
theorem SPc.go {F F1 : Nat → Nat → Int32} {A A1 : Nat → Nat → Nat → Int32} {r : Unit × (Nat → Nat → Nat) × (Nat → Nat → Int32) × (Nat → Nat → Nat → Int32) × (Nat → Nat → Nat → Int64)} (a : SCc F F1 A A1) (b : SPc P F1 A1 r) : SPc P F A r := ⟨b.1, a.tr b.2⟩
theorem s_isBlank {F : Nat → Nat → Int32} {A : Nat → Nat → Nat → Int32} {x0 : Int32} : ok (e_Scanner_isBlank P F A J x0) (fun _ => True) := by
  unfold e_Scanner_isBlank
  exact ok_cond (fun _ => ok_some trivial) (fun _ => ok_cond (fun _ => ok_some trivial) (fun _ => ok_cond (fun _ => ok_some trivial) (fun _ => ok_cond (fun _ => ok_some trivial) (fun _ => ok_some trivial))))
theorem s_isLetter {F : Nat → Nat → Int32} {A : Nat → Nat → Nat → Int32} {x0 : Int32} : ok (e_Scanner_isLetter P F A J x0) (fun _ => True) := by
  unfold e_Scanner_isLetter
  exact ok_cond (fun _ => ok_some trivial) (fun _ => ok_cond (fun _ => ok_some trivial) (fun _ => ok_some trivial))
theorem s_isDigit {F : Nat → Nat → Int32} {A : Nat → Nat → Nat → Int32} {x0 : Int32} : ok (e_Scanner_isDigit P F A J x0) (fun _ => True) := by
  unfold e_Scanner_isDigit
  exact ok_cond (fun _ => ok_some trivial) (fun _ => ok_cond (fun _ => ok_some trivial) (fun _ => ok_some trivial))
theorem s_indexOfChar_7 {F : Nat → Nat → Int32} {A : Nat → Nat → Nat → Int32} {x3 x4 : Int32} (h3 : x3.toInt ≤ 9) : ∀ {n : Nat} {x5 : Int32}, 0 ≤ x5.toInt ∧ x5.toInt ≤ 9 → 10 - x5.toInt < (n : Int) → ok (e_StringLatin1_indexOfChar_7 n P F A J x3 x4 x5) (fun _ => True) := by
  intro n
  induction n with
  | zero => intro x5 hx hn; exact absurd hn (by omega)
  | succ n ih =>
    intro x5 hx hn
    have l1 : (1 : Int32).toInt = 1 := by decide
    unfold e_StringLatin1_indexOfChar_7
    refine ok_cond (fun _ => ok_some trivial) (fun c => ?_)
    rw [i_nge] at c
    have e := i_add (x := x5) (y := 1) (by omega) (by omega)
    refine ok_ldn (by omega) (by omega) (fun v => ?_)
    exact ok_cond (fun _ => ih (by omega) (by omega)) (fun _ => ok_some trivial)
theorem s_indexOf {n : Nat} {F : Nat → Nat → Int32} {A : Nat → Nat → Nat → Int32} {x1 : Int32} (hn : 12 ≤ n) : ok (e_String_indexOf n P F A J x1) (fun _ => True) := by
  unfold e_String_indexOf e_String_indexOf_v1 e_String_length
  have body : ok ((some ((9 : Int32) >>> ((0 : Int32) &&& 31))).bind fun v2 => (e_StringLatin1_indexOf n P F A J x1 0 v2).bind fun v3 => some v3) (fun _ => True) := by
    show ok ((e_StringLatin1_indexOf n P F A J x1 0 ((9 : Int32) >>> ((0 : Int32) &&& 31))).bind fun v3 => some v3) (fun _ => True)
    have e9 : ((9 : Int32) >>> ((0 : Int32) &&& 31)) = 9 := by decide
    rw [e9]
    have idx : ok (e_StringLatin1_indexOf n P F A J x1 0 9) (fun _ => True) := by
      unfold e_StringLatin1_indexOf e_StringLatin1_canEncode
      have enc : ok (cond (g_cnd .lt x1 0) (some (0 : Int32)) (cond (g_cnd .gt x1 255) (some 0) (some 1))) (fun _ => True) := ok_cond (fun _ => ok_some trivial) (fun _ => ok_cond (fun _ => ok_some trivial) (fun _ => ok_some trivial))
      refine ok_call enc ?_
      intro v1 _
      refine ok_cond (fun _ => ?_) (fun _ => ok_some trivial)
      refine ok_cond (fun _ => ?_) (fun _ => ok_some trivial)
      unfold e_StringLatin1_indexOfChar
      have t1 : (if (0 : Int32) < 0 then 0 else 0 : Int32).toInt = 0 := by decide
      have t2 : (if (9 : Int32) < 9 then 9 else 9 : Int32).toInt = 9 := by decide
      exact ok_call (s_indexOfChar_7 (by rw [t2]; decide) (by rw [t1]; decide) (by rw [t1]; omega)) (fun _ _ => ok_some trivial)
    exact ok_call idx (fun _ _ => ok_some trivial)
  exact ok_call body (fun _ _ => ok_some trivial)
/-- one byte on -/
theorem SCc.on {F F' : Nat → Nat → Int32} {A : Nat → Nat → Nat → Int32} (R : Rc F A) (U : FUm F F' 37 105 (F 37 105 + 1)) (h : (F 37 105).toInt < (F 1 1).toInt) : SCc F F' A A ∧ (F' 37 105).toInt = (F 37 105).toInt + 1 ∧ F' 1 1 = F 1 1 := by
  have a : 0 ≤ (F 37 105).toInt ∧ (F 37 105).toInt ≤ 2000 := R.1 37 105
  have b : 0 ≤ (F 1 1).toInt ∧ (F 1 1).toInt ≤ 2000 := R.1 1 1
  have l1 : (1 : Int32).toInt = 1 := by decide
  have e := i_add (x := F 37 105) (y := 1) (by omega) (by omega)
  exact ⟨⟨U.2, fun _ _ _ => rfl, R.pf U (show 0 ≤ (F 37 105 + 1).toInt ∧ (F 37 105 + 1).toInt ≤ 2000 by omega)⟩, by rw [U.1]; omega, U.2 1 1 (by simp)⟩
theorem s_scanDigits_2 {x1 : Int32} (h1 : 0 ≤ x1.toInt ∧ x1.toInt ≤ 400) : ∀ {n : Nat} {F : Nat → Nat → Int32} {A : Nat → Nat → Nat → Int32} {J : Nat → Nat → Nat → Int64} {x3 : Int32}, Rc F A → 2100 - cf F 37 105 < (n : Int) → ok (e_Scanner_scanDigits_2 n P F A J x1 x3) (SPc P F A) := by
  intro n
  induction n with
  | zero =>
    intro F A J x3 R hn
    have a : 0 ≤ (F 37 105).toInt ∧ (F 37 105).toInt ≤ 2000 := R.1 37 105
    unfold cf at hn
    exact absurd hn (by omega)
  | succ n ih =>
    intro F A J x3 R hn
    have a : 0 ≤ (F 37 105).toInt ∧ (F 37 105).toInt ≤ 2000 := R.1 37 105
    have b : 0 ≤ (F 1 1).toInt ∧ (F 1 1).toInt ≤ 2000 := R.1 1 1
    unfold cf at hn
    have f59 : ok (e_Scanner_scanDigits_59 n P F A J x1 x3) (SPc P F A) := by
      unfold e_Scanner_scanDigits_59
      refine ok_cst (by omega) (by omega) ?_
      intro A2 U2
      refine ok_ldn (by omega) (by omega) (fun v8 => ?_)
      have s2 := (SCc.rfl' R).st U2 (by omega)
      have f93 : ∀ s : Int32, ok (e_Scanner_scanDigits_93 n P F A2 J x1 s) (SPc P F A) := fun s => by
        unfold e_Scanner_scanDigits_93
        refine ok_cst (by omega) (by omega) ?_
        intro A3 U3
        exact ok_some ⟨rfl, s2.st U3 (by omega)⟩
      exact ok_cond (fun _ => f93 _) (fun _ => f93 _)
    unfold e_Scanner_scanDigits_2
    refine ok_cond (fun _ => f59) (fun c => ?_)
    rw [i_nge] at c
    refine ok_ldn (by omega) (by omega) (fun v2 => ?_)
    refine ok_call s_isDigit ?_
    intro v3 _
    refine ok_cond (fun _ => f59) (fun _ => ?_)
    refine ok_ldn (by omega) (by omega) (fun v5 => ?_)
    refine ok_cpf ?_
    intro F2 U2
    obtain ⟨s2, k2, _⟩ := SCc.on R U2 c
    exact ok_mono (ih s2.2.2 (by unfold cf; omega)) (fun r hr => hr.go s2)
theorem s_scanLetters_85 {x1 : Int32} {x3 : Int64} {F : Nat → Nat → Int32} {A : Nat → Nat → Nat → Int32} (h1 : 0 ≤ x1.toInt ∧ x1.toInt ≤ 400) (R : Rc F A) : ∀ {n : Nat} {J : Nat → Nat → Nat → Int64} {x5 x6 : Int32}, 0 ≤ x6.toInt ∧ x6.toInt ≤ 21 → 22 - x6.toInt < (n : Int) → ok (e_Scanner_scanLetters_85 n P F A J x1 x3 x5 x6) (SPc P F A) := by
  intro n
  induction n with
  | zero => intro J x5 x6 hx hn; exact absurd hn (by omega)
  | succ n ih =>
    intro J x5 x6 hx hn
    have l1 : (1 : Int32).toInt = 1 := by decide
    have l21 : (21 : Int32).toInt = 21 := by decide
    have f121 : ok (e_Scanner_scanLetters_121 n P F A J x1 x3 x5) (SPc P F A) := by
      unfold e_Scanner_scanLetters_121
      refine ok_cstJ (by omega) (by omega) (fun J' => ?_)
      refine ok_cst (by omega) (by omega) ?_
      intro A2 U2
      exact ok_some ⟨rfl, (SCc.rfl' R).st U2 (by omega)⟩
    unfold e_Scanner_scanLetters_85
    refine ok_cond (fun _ => f121) (fun c => ?_)
    rw [i_nge] at c
    refine ok_cond (fun _ => f121) (fun _ => ?_)
    have e := i_add (x := x6) (y := 1) (by omega) (by omega)
    refine ok_ldJc (by omega) (by omega) (fun v11 => ?_)
    refine ok_cond (fun _ => ?_) (fun _ => ?_)
    · unfold e_Scanner_scanLetters_115
      exact ih (by omega) (by omega)
    · unfold e_Scanner_scanLetters_115
      exact ih (by omega) (by omega)
theorem s_scanLetters_2 {x1 : Int32} (h1 : 0 ≤ x1.toInt ∧ x1.toInt ≤ 400) : ∀ {n : Nat} {F : Nat → Nat → Int32} {A : Nat → Nat → Nat → Int32} {J : Nat → Nat → Nat → Int64} {x3 : Int64}, Rc F A → 2100 - cf F 37 105 < (n : Int) → ok (e_Scanner_scanLetters_2 n P F A J x1 x3) (SPc P F A) := by
  intro n
  induction n with
  | zero =>
    intro F A J x3 R hn
    have a : 0 ≤ (F 37 105).toInt ∧ (F 37 105).toInt ≤ 2000 := R.1 37 105
    unfold cf at hn
    exact absurd hn (by omega)
  | succ n ih =>
    intro F A J x3 R hn
    have a : 0 ≤ (F 37 105).toInt ∧ (F 37 105).toInt ≤ 2000 := R.1 37 105
    have b : 0 ≤ (F 1 1).toInt ∧ (F 1 1).toInt ≤ 2000 := R.1 1 1
    have l0 : (0 : Int32).toInt = 0 := by decide
    unfold cf at hn
    have f57 : ok (e_Scanner_scanLetters_57 n P F A J x1 x3) (SPc P F A) := by
      unfold e_Scanner_scanLetters_57
      refine ok_ldn (by omega) (by omega) (fun v7 => ?_)
      refine ok_cond (fun _ => ?_) (fun _ => ?_)
      · unfold e_Scanner_scanLetters_80
        exact s_scanLetters_85 h1 R (by decide) (by omega)
      · unfold e_Scanner_scanLetters_80
        exact s_scanLetters_85 h1 R (by decide) (by omega)
    unfold e_Scanner_scanLetters_2
    refine ok_cond (fun _ => f57) (fun c => ?_)
    rw [i_nge] at c
    refine ok_ldn (by omega) (by omega) (fun v2 => ?_)
    refine ok_call s_isLetter ?_
    intro v3 _
    refine ok_cond (fun _ => f57) (fun _ => ?_)
    refine ok_ldn (by omega) (by omega) (fun v5 => ?_)
    refine ok_cpf ?_
    intro F2 U2
    obtain ⟨s2, k2, _⟩ := SCc.on R U2 c
    exact ok_mono (ih s2.2.2 (by unfold cf; omega)) (fun r hr => hr.go s2)
theorem s_scanNext_0 {x1 : Int32} (h1 : 0 ≤ x1.toInt ∧ x1.toInt ≤ 400) : ∀ {n : Nat} {F : Nat → Nat → Int32} {A : Nat → Nat → Nat → Int32} {J : Nat → Nat → Nat → Int64}, Rc F A → 4200 - cf F 37 105 < (n : Int) → ok (e_Scanner_scanNext_0 n P F A J x1) (SPc P F A) := by
  intro n
  induction n with
  | zero =>
    intro F A J R hn
    have a : 0 ≤ (F 37 105).toInt ∧ (F 37 105).toInt ≤ 2000 := R.1 37 105
    unfold cf at hn
    exact absurd hn (by omega)
  | succ n ih =>
    intro F A J R hn
    have a : 0 ≤ (F 37 105).toInt ∧ (F 37 105).toInt ≤ 2000 := R.1 37 105
    have b : 0 ≤ (F 1 1).toInt ∧ (F 1 1).toInt ≤ 2000 := R.1 1 1
    unfold cf at hn
    have f39 : ok (e_Scanner_scanNext_39 n P F A J x1) (SPc P F A) := by
      unfold e_Scanner_scanNext_39
      refine ok_cst (by omega) (by omega) ?_
      intro A2 U2
      have s2 := (SCc.rfl' R).st U2 (by omega)
      refine ok_cond (fun c => ?_) (fun _ => ?_)
      · rw [i_lt] at c
        refine ok_ldn (by omega) (by omega) (fun v8 => ?_)
        refine ok_call s_isLetter ?_
        intro v9 _
        refine ok_cond (fun _ => ?_) (fun _ => ?_)
        · refine ok_call s_isDigit ?_
          intro v11 _
          refine ok_cond (fun _ => ?_) (fun _ => ?_)
          · have f136 : ∀ s : Int32, ok (e_Scanner_scanNext_136 n P F A2 J x1 s) (SPc P F A) := fun s => by
              unfold e_Scanner_scanNext_136
              refine ok_cst (by omega) (by omega) ?_
              intro A3 U3
              have s3 := s2.st U3 (by omega)
              refine ok_cpf ?_
              intro F4 U4
              obtain ⟨s4, _, _⟩ := SCc.on s3.2.2 U4 c
              exact ok_some ⟨rfl, s3.tr s4⟩
            have f134 : ok (e_Scanner_scanNext_134 n P F A2 J x1) (SPc P F A) := by
              unfold e_Scanner_scanNext_134
              exact f136 _
            refine ok_cond (fun _ => f134) (fun _ => ?_)
            refine ok_call (s_indexOf (by omega)) ?_
            intro v14 _
            exact ok_cond (fun _ => f134) (fun _ => f136 _)
          · unfold e_Scanner_scanDigits
            refine ok_call (s_scanDigits_2 h1 s2.2.2 (by unfold cf; omega)) ?_
            rintro ⟨u, P2, F2, A3, J2⟩ hr
            exact ok_some (SPc.go s2 hr)
        · unfold e_Scanner_scanLetters
          refine ok_call (s_scanLetters_2 h1 s2.2.2 (by unfold cf; omega)) ?_
          rintro ⟨u, P2, F2, A3, J2⟩ hr
          exact ok_some (SPc.go s2 hr)
      · refine ok_cst (by omega) (by omega) ?_
        intro A3 U3
        exact ok_some ⟨rfl, s2.st U3 (by omega)⟩
    unfold e_Scanner_scanNext_0
    refine ok_cond (fun _ => f39) (fun c => ?_)
    rw [i_nge] at c
    refine ok_ldn (by omega) (by omega) (fun v2 => ?_)
    refine ok_call s_isBlank ?_
    intro v3 _
    refine ok_cond (fun _ => f39) (fun _ => ?_)
    refine ok_cpf ?_
    intro F2 U2
    obtain ⟨s2, k2, _⟩ := SCc.on R U2 c
    exact ok_mono (ih s2.2.2 (by unfold cf; omega)) (fun r hr => hr.go s2)
theorem s_scanAll_9 : ∀ {n : Nat} {F : Nat → Nat → Int32} {A : Nat → Nat → Nat → Int32} {J : Nat → Nat → Nat → Int64} {x2 x3 : Int32}, Rc F A → 0 ≤ x3.toInt ∧ x3.toInt ≤ 401 → 5000 - x3.toInt < (n : Int) → ok (e_Scanner_scanAll_9 n P F A J x2 x3) (SPc P F A) := by
  intro n
  induction n with
  | zero => intro F A J x2 x3 R hx hn; exact absurd hn (by omega)
  | succ n ih =>
    intro F A J x2 x3 R hx hn
    have a : 0 ≤ (F 37 105).toInt ∧ (F 37 105).toInt ≤ 2000 := R.1 37 105
    have l1 : (1 : Int32).toInt = 1 := by decide
    have l400 : (400 : Int32).toInt = 400 := by decide
    unfold e_Scanner_scanAll_9
    refine ok_cond (fun _ => ok_some ⟨rfl, SCc.rfl' R⟩) (fun c => ?_)
    rw [i_ngt] at c
    refine ok_cond (fun _ => ok_some ⟨rfl, SCc.rfl' R⟩) (fun _ => ?_)
    have e := i_add (x := x3) (y := 1) (by omega) (by omega)
    unfold e_Scanner_scanNext
    refine ok_call (s_scanNext_0 ⟨by omega, by omega⟩ R (by unfold cf; omega)) ?_
    rintro ⟨u, P2, F2, A2, J2⟩ ⟨g1, s2⟩
    dsimp only at g1 s2 ⊢
    subst g1
    have go : ∀ {y : Int32}, ok (e_Scanner_scanAll_9 n P2 F2 A2 J2 y (x3 + 1)) (SPc P2 F A) := fun {y} => ok_mono (ih s2.2.2 (by omega) (by omega)) (fun r hr => hr.go s2)
    refine ok_ldn (by omega) (by omega) (fun v9 => ?_)
    refine ok_cond (fun _ => ?_) (fun _ => ?_)
    · unfold e_Scanner_scanAll_52 e_Scanner_scanAll_53
      exact go
    · refine ok_ldn (by omega) (by omega) (fun v11 => ?_)
      refine ok_cond (fun _ => ?_) (fun _ => ?_)
      · unfold e_Scanner_scanAll_52 e_Scanner_scanAll_53
        exact go
      · unfold e_Scanner_scanAll_53
        exact go
theorem s_scanAll {n : Nat} {F : Nat → Nat → Int32} {A : Nat → Nat → Nat → Int32} (R : Rc F A) (hn : 5100 ≤ n) : ok (e_Scanner_scanAll n P F A J) (SPc P F A) := by
  have l0 : (0 : Int32).toInt = 0 := by decide
  unfold e_Scanner_scanAll
  refine ok_cpf ?_
  intro F2 U2
  have s2 : SCc F F2 A A := ⟨U2.2, fun _ _ _ => rfl, R.pf U2 (show 0 ≤ (0 : Int32).toInt ∧ (0 : Int32).toInt ≤ 2000 by decide)⟩
  exact ok_mono (s_scanAll_9 s2.2.2 (by decide) (by omega)) (fun r hr => hr.go s2)
end S98
