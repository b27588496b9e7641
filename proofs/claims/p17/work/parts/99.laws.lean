/-! the class's reader: laws -/
def CVc (F : Nat → Nat → Int32) (A : Nat → Nat → Nat → Int32) (d : Nat) : Prop := ∀ i, 0 ≤ i → i < cf F d 1304 → ci A d 15 i = 2 → 0 ≤ ci A d 16 i ∧ ci A d 16 i ≤ 5
/-- what the reading of a law changes -/
def QLc (d : Nat) (P P' : Nat → Nat → Nat) (F F' : Nat → Nat → Int32) (A A' : Nat → Nat → Nat → Int32) : Prop := P' = P ∧ (∀ r k, ¬ (r = 37 ∧ 7 ≤ k ∧ k ≤ 13 ∧ k ≠ 9) → ¬ (r = d ∧ k = 1304) → F' r k = F r k) ∧ (∀ r o, ¬ (r = d ∧ (o = 15 ∨ o = 16)) → A' r o = A r o) ∧ Rc F' A' ∧ cf F 37 7 ≤ cf F' 37 7 ∧ (cf F 37 10 ≠ 0 → cf F' 37 10 ≠ 0) ∧ (cf F 37 12 ≠ 0 → cf F' 37 12 ≠ 0) ∧ cf F d 1304 ≤ cf F' d 1304 ∧ (∀ i, 0 ≤ i → i < cf F d 1304 → ci A' d 15 i = ci A d 15 i) ∧ (cf F' 37 10 ≠ 0 ∨ (CVc F A d → CVc F' A' d))
section L99
variable {P P' P1 : Nat → Nat → Nat} {F F' F1 : Nat → Nat → Int32} {A A' A1 : Nat → Nat → Nat → Int32} {J : Nat → Nat → Nat → Int64} {n d : Nat}
theorem QLc.rfl' (R : Rc F A) : QLc d P P F F A A := ⟨rfl, fun _ _ _ _ => rfl, fun _ _ _ => rfl, R, Int.le_refl _, id, id, Int.le_refl _, fun _ _ _ => rfl, .inr id⟩
theorem QLc.tr (a : QLc d P P1 F F1 A A1) (b : QLc d P1 P' F1 F' A1 A') : QLc d P P' F F' A A' := by
  obtain ⟨a1, a2, a3, a4, a5, a6, a7, a8, a9, a10⟩ := a
  obtain ⟨b1, b2, b3, b4, b5, b6, b7, b8, b9, b10⟩ := b
  refine ⟨b1.trans a1, fun r k x y => (b2 r k x y).trans (a2 r k x y), fun r o x => (b3 r o x).trans (a3 r o x), b4, by omega, fun h => b6 (a6 h), fun h => b7 (a7 h), by omega, fun i x y => (b9 i x (by omega)).trans (a9 i x y), ?_⟩
  rcases b10 with h | h
  · exact .inl h
  · rcases a10 with g | g
    · exact .inl (b6 g)
    · exact .inr (fun z => h (g z))
theorem QRc.ql (q : QRc P P' F F' A A') (hd : d ≠ 37) : QLc d P P' F F' A A' := by
  obtain ⟨a1, a2, a3, a4, a5, a6, a7⟩ := q
  subst a2
  have e : F' d 1304 = F d 1304 := a3 d 1304 (fun h => hd h.1)
  refine ⟨a1, fun r k x _ => a3 r k x, fun _ _ _ => rfl, a4, a5, a6, a7, by unfold cf; rw [e]; omega, fun _ _ _ => rfl, .inr (fun z => ?_)⟩
  unfold CVc cf
  rw [e]
  exact z
theorem s_add {x1 x2 : Int32} (hk : c_kind d = 6) (R : Rc F A) (hx : x1.toInt = 2 → 0 ≤ x2.toInt ∧ x2.toInt ≤ 5) : ok (e_Laws_add P F A J d x1 x2) (fun r => QLc d P r.2.1 F r.2.2.1 A r.2.2.2.1 ∧ r.2.2.1 37 7 = F 37 7 ∧ r.2.2.1 37 10 = F 37 10 ∧ cf r.2.2.1 d 1304 ≤ cf F d 1304 + 1 ∧ (cf F d 1304 < 400 → r.1.toInt = cf F d 1304 ∧ cf r.2.2.1 d 1304 = cf F d 1304 + 1 ∧ ci r.2.2.2.1 d 15 (cf F d 1304) = x1.toInt)) := by
  have l1 : (1 : Int32).toInt = 1 := by decide
  have l4 : (400 : Int32).toInt = 400 := by decide
  have a : 0 ≤ (F d 1304).toInt ∧ (F d 1304).toInt ≤ 400 := by have := R.1 d 1304; rw [hk] at this; exact this
  have hd : d ≠ 37 := fun e => absurd hk (by rw [e]; decide)
  have nt : ∀ o v, o = 15 ∨ o = 16 → rRc (c_kind d) o v := fun o v ho => by
    rw [hk]
    rcases ho with rfl | rfl <;> exact trivial
  unfold e_Laws_add
  refine ok_cond (fun c => ?_) (fun c => ?_)
  · rw [i_ge] at c
    exact ok_some ⟨QLc.rfl' R, rfl, rfl, by show cf F d 1304 ≤ _; omega, fun h => absurd h (by unfold cf; omega)⟩
  · rw [i_nge] at c
    refine ok_cst (by omega) (by omega) ?_
    intro A2 U2
    refine ok_cst (by omega) (by omega) ?_
    intro A3 U3
    refine ok_cpf ?_
    intro F4 U4
    have e := i_add (x := F d 1304) (y := 1) (by omega) (by omega)
    have k4 : (F4 d 1304).toInt = (F d 1304).toInt + 1 := by rw [U4.1]; omega
    have e2 := i_sub (x := F4 d 1304) (y := 1) (by omega) (by omega)
    have k7 : F4 37 7 = F 37 7 := U4.2 37 7 (fun h => hd h.1.symm)
    have k10 : F4 37 10 = F 37 10 := U4.2 37 10 (fun h => hd h.1.symm)
    have k12 : F4 37 12 = F 37 12 := U4.2 37 12 (fun h => hd h.1.symm)
    have r15 : ci A3 d 15 = ci A2 d 15 := ci_fr (U3.2.2 d 15 (by simp))
    have b16 : ci A2 d 16 = ci A d 16 := ci_fr (U2.2.2 d 16 (by simp))
    refine ok_some ⟨⟨rfl, fun r k _ y => U4.2 r k y, fun r o x => (U3.2.2 r o (by omega)).trans (U2.2.2 r o (by omega)), ((R.st U2 (nt _ _ (.inl rfl))).st U3 (nt _ _ (.inr rfl))).pf U4 (by rw [hk]; exact (show 0 ≤ (F d 1304 + 1).toInt ∧ (F d 1304 + 1).toInt ≤ 400 by omega)), ?_, ?_, ?_, ?_, fun i i0 i1 => ?_, .inr (fun z i i0 i1 => ?_)⟩, k7, k10, ?_, fun _ => ⟨?_, ?_, ?_⟩⟩
    · show (F 37 7).toInt ≤ (F4 37 7).toInt
      rw [k7]; omega
    · show (F 37 10).toInt ≠ 0 → (F4 37 10).toInt ≠ 0
      rw [k10]; exact id
    · show (F 37 12).toInt ≠ 0 → (F4 37 12).toInt ≠ 0
      rw [k12]; exact id
    · show (F d 1304).toInt ≤ (F4 d 1304).toInt
      omega
    · unfold cf at i1
      show ci A3 d 15 i = _
      rw [r15, U2.2.1 i i0 (by omega)]
    · have i2 : i < (F4 d 1304).toInt := i1
      show ci A3 d 15 i = 2 → 0 ≤ ci A3 d 16 i ∧ ci A3 d 16 i ≤ 5
      rw [r15]
      by_cases e : i = (F d 1304).toInt
      · subst e
        rw [U2.1, U3.1]
        exact hx
      · rw [U2.2.1 i i0 e, U3.2.1 i i0 e, b16]
        exact z i i0 (by unfold cf; omega)
    · show (F4 d 1304).toInt ≤ (F d 1304).toInt + 1
      omega
    · show (F4 d 1304 - 1).toInt = (F d 1304).toInt
      omega
    · exact k4
    · show ci A3 d 15 (F d 1304).toInt = _
      rw [r15, U2.1]
/-- a law's part: what it leaves, and no more instructions than tokens -/
def LNc (d : Nat) (P : Nat → Nat → Nat) (F : Nat → Nat → Int32) (A : Nat → Nat → Nat → Int32) (r : Unit × (Nat → Nat → Nat) × (Nat → Nat → Int32) × (Nat → Nat → Nat → Int32) × (Nat → Nat → Nat → Int64)) : Prop := QLc d P r.2.1 F r.2.2.1 A r.2.2.2.1 ∧ (cf r.2.2.1 37 10 ≠ 0 ∨ cf r.2.2.1 d 1304 + cf F 37 7 ≤ cf F d 1304 + cf r.2.2.1 37 7)
theorem s_addSign {x1 : Int32} (e5 : P 37 5 = d) (hk : c_kind d = 6) (R : Rc F A) (hx : x1.toInt ≠ 2) : ok (e_Reader_addSign P F A J x1) (fun r => QLc d P r.2.1 F r.2.2.1 A r.2.2.2.1 ∧ r.2.2.1 37 7 = F 37 7 ∧ r.2.2.1 37 10 = F 37 10 ∧ cf r.2.2.1 d 1304 ≤ cf F d 1304 + 1 ∧ (x1.toInt = 0 → cf r.2.2.1 d 1304 = cf F d 1304)) := by
  have l0 : (0 : Int32).toInt = 0 := by decide
  unfold e_Reader_addSign
  refine ok_cond (fun c => ?_) (fun c => ?_)
  · exact ok_some ⟨QLc.rfl' R, rfl, rfl, by show cf F d 1304 ≤ _; omega, fun _ => rfl⟩
  · rw [i_neq, l0] at c
    rw [e5]
    refine ok_chk hk ?_
    refine ok_call (s_add hk R (fun h => absurd h hx)) ?_
    rintro ⟨v, P2, F2, A2, J2⟩ ⟨q, a, b, c', _⟩
    exact ok_some ⟨q, a, b, c', fun h => absurd h c⟩
theorem s_takeEither {x1 x2 : Int32} (R : Rc F A) : ok (e_Reader_takeEither P F A J x1 x2) (fun r => QRc P r.2.1 F r.2.2.1 A r.2.2.2.1 ∧ (r.1.toInt = 0 ∨ r.1 = x1 ∨ r.1 = x2) ∧ (cf r.2.2.1 37 10 ≠ 0 ∨ r.1.toInt = 0 ∨ cf F 37 7 + 1 ≤ cf r.2.2.1 37 7)) := by
  have l0 : (0 : Int32).toInt = 0 := by decide
  have f18 : ∀ {P1 F1 A1 J1}, QRc P P1 F F1 A A1 → ok (e_Reader_takeEither_18 P1 F1 A1 J1 x2) (fun r => QRc P r.2.1 F r.2.2.1 A r.2.2.2.1 ∧ (r.1.toInt = 0 ∨ r.1 = x1 ∨ r.1 = x2) ∧ (cf r.2.2.1 37 10 ≠ 0 ∨ r.1.toInt = 0 ∨ cf F 37 7 + 1 ≤ cf r.2.2.1 37 7)) := by
    intro P1 F1 A1 J1 q1
    unfold e_Reader_takeEither_18
    refine ok_call (s_isNext q1.2.2.2.1) ?_
    intro v9 p9
    refine ok_cond (fun _ => ok_some ⟨q1, .inl l0, .inr (.inl l0)⟩) (fun c9 => ?_)
    rw [i_neq, l0] at c9
    have z := p9.resolve_left c9
    refine ok_call (s_take q1.2.2.2.1) ?_
    rintro ⟨v, P2, F2, A2, J2⟩ ⟨q, h⟩
    dsimp only at q h ⊢
    refine ok_cond (fun _ => ok_some ⟨q1.tr q, .inl l0, .inr (.inl l0)⟩) (fun c => ?_)
    rw [i_neq, l0] at c
    have z1 := q1.2.2.2.2.1
    refine ok_some ⟨q1.tr q, .inr (.inr rfl), .inr (.inr (show cf F 37 7 + 1 ≤ cf F2 37 7 by omega))⟩
  unfold e_Reader_takeEither
  refine ok_call (s_isNext R) ?_
  intro v1 p1
  refine ok_cond (fun _ => f18 (QRc.rfl' R)) (fun c1 => ?_)
  refine ok_call (s_take R) ?_
  rintro ⟨v, P2, F2, A2, J2⟩ ⟨q, h⟩
  dsimp only at q h ⊢
  refine ok_cond (fun _ => f18 q) (fun c => ?_)
  rw [i_neq, l0] at c
  exact ok_some ⟨q, .inr (.inl rfl), .inr (.inr (show cf F 37 7 + 1 ≤ cf F2 37 7 by omega))⟩
/-- what a sum leaves, for every depth -/
def KSc (d : Nat) (P : Nat → Nat → Nat) (KS : (Nat → Nat → Nat) → (Nat → Nat → Int32) → (Nat → Nat → Nat → Int32) → (Nat → Nat → Nat → Int64) → Int32 → Option (Unit × (Nat → Nat → Nat) × (Nat → Nat → Int32) × (Nat → Nat → Nat → Int32) × (Nat → Nat → Nat → Int64))) (y : Int) : Prop := ∀ F A J (x : Int32), Rc F A → 0 ≤ x.toInt ∧ x.toInt ≤ 6 → x.toInt = y → ok (KS P F A J x) (LNc d P F A)
theorem LNc.go {r : Unit × (Nat → Nat → Nat) × (Nat → Nat → Int32) × (Nat → Nat → Nat → Int32) × (Nat → Nat → Nat → Int64)} (q : QLc d P P F F1 A A1) (h : cf F1 37 10 ≠ 0 ∨ cf F1 d 1304 + cf F 37 7 ≤ cf F d 1304 + cf F1 37 7) (b : LNc d P F1 A1 r) : LNc d P F A r := by
  refine ⟨q.tr b.1, ?_⟩
  have m := b.1.2.2.2.2.2.1
  rcases b.2 with z | z
  · exact .inl z
  · rcases h with w | w
    · exact .inl (m w)
    · exact .inr (by omega)
theorem s_readUnit_58 {KS : (Nat → Nat → Nat) → (Nat → Nat → Int32) → (Nat → Nat → Nat → Int32) → (Nat → Nat → Nat → Int64) → Int32 → Option (Unit × (Nat → Nat → Nat) × (Nat → Nat → Int32) × (Nat → Nat → Nat → Int32) × (Nat → Nat → Nat → Int64))} (e5 : P 37 5 = d) (hk : c_kind d = 6) : ∀ {n : Nat} {F : Nat → Nat → Int32} {A : Nat → Nat → Nat → Int32} {J : Nat → Nat → Nat → Int64} {x2 : Int32}, Rc F A → 15 ≤ x2.toInt ∧ x2.toInt ≤ 21 → 22 - x2.toInt < (n : Int) → ok (e_Reader_readUnit_58 KS n P F A J x2) (LNc d P F A) := by
  have hd : d ≠ 37 := fun e => absurd hk (by rw [e]; decide)
  intro n
  induction n with
  | zero => intro F A J x2 R hx hn; exact absurd hn (by omega)
  | succ n ih =>
    intro F A J x2 R hx hn
    have l0 : (0 : Int32).toInt = 0 := by decide
    have l1 : (1 : Int32).toInt = 1 := by decide
    have l15 : (15 : Int32).toInt = 15 := by decide
    have l20 : (20 : Int32).toInt = 20 := by decide
    have e2 : (x2 + 1).toInt = x2.toInt + 1 := by rw [i_add (by omega) (by omega), l1]
    -- a token is taken, an instruction is added
    have addOn : ∀ {P2 F2 A2 J2} {c v : Int32}, QRc P P2 F F2 A A2 → cf F2 37 10 = 0 → cf F2 37 7 = cf F 37 7 + 1 → (c.toInt = 2 → 0 ≤ v.toInt ∧ v.toInt ≤ 5) → ok ((e_Laws_add P2 F2 A2 J2 d c v).bind fun (v34, P35, F36, A37, J38) => some ((), P35, F36, A37, J38)) (LNc d P F A) := by
      intro P2 F2 A2 J2 c v q h0 h7 hc
      refine ok_call (s_add hk q.2.2.2.1 hc) ?_
      rintro ⟨w, P3, F3, A3, J3⟩ ⟨q3, a, b, c', _⟩
      dsimp only at q3 a b c' ⊢
      have ed : F2 d 1304 = F d 1304 := q.2.2.1 d 1304 (fun h => hd h.1)
      refine ok_some ⟨(q.ql hd).tr q3, .inr ?_⟩
      show cf F3 d 1304 + cf F 37 7 ≤ cf F d 1304 + cf F3 37 7
      unfold cf at c' h7 ⊢
      rw [a]
      rw [ed] at c'
      omega
    unfold e_Reader_readUnit_58
    refine ok_cond (fun c => ?_) (fun c => ?_)
    · refine ok_call (s_take R) ?_
      rintro ⟨v, P2, F2, A2, J2⟩ ⟨q, h⟩
      dsimp only at q h ⊢
      refine ok_cond (fun c2 => ?_) (fun c2 => ?_)
      · rw [i_eq, l0] at c2
        exact ok_some ⟨q.ql hd, .inl (show cf F2 37 10 ≠ 0 by omega)⟩
      · rw [i_neq, l0] at c2
        have e5' : P2 37 5 = d := by rw [q.1]; exact e5
        rw [e5']
        refine ok_chk hk ?_
        have a := q.2.2.2.1.tkn
        refine ok_ldn (by omega) (by omega) (fun v33 => ?_)
        exact addOn q (by omega) (by omega) (fun h => absurd h (by decide))
    · rw [i_ngt] at c
      refine ok_call (s_isNext R) ?_
      intro v39 p39
      refine ok_cond (fun _ => ?_) (fun _ => ?_)
      · unfold e_Reader_readUnit_97
        exact ih R (by omega) (by omega)
      · refine ok_call (s_take R) ?_
        rintro ⟨v, P2, F2, A2, J2⟩ ⟨q, h⟩
        dsimp only at q h ⊢
        have e5' : P2 37 5 = d := by rw [q.1]; exact e5
        refine ok_cond (fun c2 => ?_) (fun c2 => ?_)
        · rw [i_eq, l0] at c2
          unfold e_Reader_readUnit_97
          have ep := q.1
          subst ep
          exact ok_mono (ih q.2.2.2.1 (by omega) (by omega)) (fun r hr => hr.go (q.ql hd) (.inl (by omega)))
        · rw [i_neq, l0] at c2
          rw [e5']
          refine ok_chk hk ?_
          have es := i_sub (x := x2) (y := 15) (by omega) (by omega)
          exact addOn q (by omega) (by omega) (fun _ => by omega)
theorem s_readUnit {KS : (Nat → Nat → Nat) → (Nat → Nat → Int32) → (Nat → Nat → Nat → Int32) → (Nat → Nat → Nat → Int64) → Int32 → Option (Unit × (Nat → Nat → Nat) × (Nat → Nat → Int32) × (Nat → Nat → Nat → Int32) × (Nat → Nat → Nat → Int64))} {x1 : Int32} (e5 : P 37 5 = d) (hk : c_kind d = 6) (R : Rc F A) (h1 : 0 ≤ x1.toInt ∧ x1.toInt ≤ 6) (hK : x1.toInt < 6 → KSc d P KS (x1.toInt + 1)) (hn : 10 ≤ n) : ok (e_Reader_readUnit KS n P F A J x1) (LNc d P F A) := by
  have hd : d ≠ 37 := fun e => absurd hk (by rw [e]; decide)
  have l0 : (0 : Int32).toInt = 0 := by decide
  have l1 : (1 : Int32).toInt = 1 := by decide
  have l6 : (6 : Int32).toInt = 6 := by decide
  have l15 : (15 : Int32).toInt = 15 := by decide
  have a := R.tok
  unfold e_Reader_readUnit
  refine ok_call (s_isNext R) ?_
  intro v1 p1
  refine ok_cond (fun _ => s_readUnit_58 e5 hk R (by decide) (by omega)) (fun _ => ?_)
  refine ok_cond (fun c => ?_) (fun _ => ?_)
  · rw [i_lt] at c
    refine ok_call (s_take R) ?_
    rintro ⟨v, P2, F2, A2, J2⟩ ⟨q, h⟩
    dsimp only at q h ⊢
    have ep := q.1
    subst ep
    have e := i_add (x := x1) (y := 1) (by omega) (by omega)
    refine ok_call (hK (by omega) F2 A2 J2 (x1 + 1) q.2.2.2.1 (by omega) (by omega)) ?_
    rintro ⟨u, P3, F3, A3, J3⟩ hr
    have hr' := hr
    obtain ⟨q3, h3⟩ := hr'
    dsimp only at q3 h3 ⊢
    refine ok_call (s_take q3.2.2.2.1) ?_
    rintro ⟨v4, P4, F4, A4, J4⟩ ⟨q4, h4⟩
    dsimp only at q4 h4 ⊢
    have ed2 : F2 d 1304 = F d 1304 := q.2.2.1 d 1304 (fun h => hd h.1)
    have ed4 : F4 d 1304 = F3 d 1304 := q4.2.2.1 d 1304 (fun h => hd h.1)
    have m4 := q4.2.2.2.2.1
    have m2 := q.2.2.2.2.1
    refine ok_some ⟨((q.ql hd).tr q3).tr (q4.ql hd), ?_⟩
    show cf F4 37 10 ≠ 0 ∨ cf F4 d 1304 + cf F 37 7 ≤ cf F d 1304 + cf F4 37 7
    rcases h3 with z | z
    · exact .inl (q4.2.2.2.2.2.1 z)
    · right
      unfold cf at z m4 m2 ⊢
      rw [ed4]
      rw [ed2] at z
      omega
  · refine ok_ldn (by omega) (by omega) (fun v19 => ?_)
    refine ok_call (s_fail R (by decide)) ?_
    rintro ⟨u, P2, F2, A2, J2⟩ ⟨q, h⟩
    exact ok_some ⟨q.ql hd, .inl h⟩
theorem s_readSum_10 {KS : (Nat → Nat → Nat) → (Nat → Nat → Int32) → (Nat → Nat → Nat → Int32) → (Nat → Nat → Nat → Int64) → Int32 → Option (Unit × (Nat → Nat → Nat) × (Nat → Nat → Int32) × (Nat → Nat → Nat → Int32) × (Nat → Nat → Nat → Int64))} {x1 : Int32} {F0 : Nat → Nat → Int32} {A0 : Nat → Nat → Nat → Int32} (e5 : P 37 5 = d) (hk : c_kind d = 6) (h1 : 0 ≤ x1.toInt ∧ x1.toInt ≤ 6) (hK : x1.toInt < 6 → KSc d P KS (x1.toInt + 1)) : ∀ {n : Nat} {F : Nat → Nat → Int32} {A : Nat → Nat → Nat → Int32} {J : Nat → Nat → Nat → Int64} {x2 x3 x4 x5 : Int32} {p2 p3 : Int}, QLc d P P F0 F A0 A → 0 ≤ p2 ∧ (x2.toInt = 0 ∨ 1 ≤ p2) → 0 ≤ p3 ∧ (x3.toInt = 0 ∨ 1 ≤ p3) → x2.toInt ≠ 2 ∧ x3.toInt ≠ 2 → (cf F 37 10 ≠ 0 ∨ cf F d 1304 + p2 + p3 + cf F0 37 7 ≤ cf F0 d 1304 + cf F 37 7) → 0 ≤ x5.toInt ∧ x5.toInt ≤ 401 → 450 - x5.toInt < (n : Int) → ok (e_Reader_readSum_10 KS n P F A J x1 x2 x3 x4 x5) (LNc d P F0 A0) := by
  have hd : d ≠ 37 := fun e => absurd hk (by rw [e]; decide)
  intro n
  induction n with
  | zero => intro F A J x2 x3 x4 x5 p2 p3 q h2 h3 h22 hb hx hn; exact absurd hn (by omega)
  | succ n ih =>
    intro F A J x2 x3 x4 x5 p2 p3 q h2 h3 h22 hb hx hn
    have l0 : (0 : Int32).toInt = 0 := by decide
    have l1 : (1 : Int32).toInt = 1 := by decide
    have l400 : (400 : Int32).toInt = 400 := by decide
    have fin : ok (some ((), P, F, A, J)) (LNc d P F0 A0) := ok_some ⟨q, hb.imp id (fun z => by show cf F d 1304 + cf F0 37 7 ≤ cf F0 d 1304 + cf F 37 7; omega)⟩
    unfold e_Reader_readSum_10
    refine ok_cond (fun _ => fin) (fun c => ?_)
    rw [i_ngt] at c
    refine ok_cond (fun _ => fin) (fun _ => ?_)
    have e5' := i_add (x := x5) (y := 1) (by omega) (by omega)
    refine ok_call (s_readUnit e5 hk q.2.2.2.1 h1 hK (by omega)) ?_
    rintro ⟨u, P2, F2, A2, J2⟩ ⟨q2, w2⟩
    dsimp only at q2 w2 ⊢
    have ep := q2.1
    subst ep
    refine ok_call (s_addSign e5 hk q2.2.2.2.1 h22.2) ?_
    rintro ⟨u3, P3, F3, A3, J3⟩ ⟨q3, a3, b3, c3, d3⟩
    dsimp only at q3 a3 b3 c3 d3 ⊢
    have ep := q3.1
    subst ep
    refine ok_call (s_takeEither q3.2.2.2.1) ?_
    rintro ⟨v, P4, F4, A4, J4⟩ ⟨q4, v4, w4⟩
    dsimp only at q4 v4 w4 ⊢
    have ep := q4.1
    subst ep
    have ed4 : F4 d 1304 = F3 d 1304 := q4.2.2.1 d 1304 (fun h => hd h.1)
    have m2 := q2.2.2.2.2.2.1
    have m4 := q4.2.2.2.2.2.1
    have t4 := q4.2.2.2.2.1
    have qa := ((q.tr q2).tr q3).tr (q4.ql hd)
    have B3 : cf F3 37 10 ≠ 0 ∨ cf F3 d 1304 + p2 + cf F0 37 7 ≤ cf F0 d 1304 + cf F3 37 7 := by
      unfold cf at *
      rw [a3, b3]
      rcases w2 with z | z
      · exact .inl z
      · rcases hb with y | y
        · exact .inl (m2 y)
        · right
          rcases h3.2 with g | g
          · have := d3 g; omega
          · omega
    have l42 : (42 : Int32).toInt = 42 := by decide
    have l47 : (47 : Int32).toInt = 47 := by decide
    have l43 : (43 : Int32).toInt = 43 := by decide
    have l45 : (45 : Int32).toInt = 45 := by decide
    have v2 : v.toInt ≠ 2 := by
      rcases v4 with z | z | z
      · omega
      · rw [z, l42]; decide
      · rw [z, l47]; decide
    refine ok_cond (fun c5 => ?_) (fun c5 => ?_)
    · rw [i_ne, l0] at c5
      unfold e_Reader_readSum_71
      refine ih (p2 := p2) (p3 := 1) qa h2 ⟨by decide, .inr (by decide)⟩ ⟨h22.1, v2⟩ ?_ (by omega) (by omega)
      unfold cf at *
      rw [ed4]
      rcases w4 with z | z | z
      · exact .inl z
      · exact absurd z c5
      · rcases B3 with y | y
        · exact .inl (m4 y)
        · right; omega
    · rw [i_nne, l0] at c5
      refine ok_call (s_addSign e5 hk q4.2.2.2.1 h22.1) ?_
      rintro ⟨u5, P5, F5, A5, J5⟩ ⟨q5, a5, b5, c5', d5⟩
      dsimp only at q5 a5 b5 c5' d5 ⊢
      have ep := q5.1
      subst ep
      refine ok_call (s_takeEither q5.2.2.2.1) ?_
      rintro ⟨w, P6, F6, A6, J6⟩ ⟨q6, v6, w6⟩
      dsimp only at q6 v6 w6 ⊢
      have ep := q6.1
      subst ep
      have ed6 : F6 d 1304 = F5 d 1304 := q6.2.2.1 d 1304 (fun h => hd h.1)
      have m6 := q6.2.2.2.2.2.1
      have t6 := q6.2.2.2.2.1
      have qb := (qa.tr q5).tr (q6.ql hd)
      have B5 : cf F5 37 10 ≠ 0 ∨ cf F5 d 1304 + cf F0 37 7 ≤ cf F0 d 1304 + cf F5 37 7 := by
        unfold cf at *
        rw [a5, b5]
        rw [ed4] at c5' d5
        rcases B3 with y | y
        · exact .inl (m4 y)
        · right
          rcases h2.2 with g | g
          · have := d5 g; omega
          · omega
      have w2' : w.toInt ≠ 2 := by
        rcases v6 with z | z | z
        · omega
        · rw [z, l43]; decide
        · rw [z, l45]; decide
      have go : ∀ {s0 : Int32}, ok (e_Reader_readSum_10 KS n P6 F6 A6 J6 x1 w v s0 (x5 + 1)) (LNc d P6 F0 A0) := by
        intro s0
        refine ih (p2 := if w.toInt = 0 then 0 else 1) (p3 := 0) qb ?_ ⟨by decide, .inl c5⟩ ⟨w2', v2⟩ ?_ (by omega) (by omega)
        · by_cases z : w.toInt = 0
          · rw [if_pos z]; exact ⟨by decide, .inl z⟩
          · rw [if_neg z]; exact ⟨by decide, .inr (by decide)⟩
        · unfold cf at *
          rw [ed6]
          rcases w6 with z | z | z
          · exact .inl z
          · rw [if_pos z]
            rcases B5 with y | y
            · exact .inl (m6 y)
            · right; omega
          · rcases B5 with y | y
            · exact .inl (m6 y)
            · right
              split <;> omega
      refine ok_cond (fun _ => ?_) (fun _ => ?_)
      · unfold e_Reader_readSum_69 e_Reader_readSum_71
        exact go
      · unfold e_Reader_readSum_69 e_Reader_readSum_71
        exact go
theorem s_readSum (e5 : P 37 5 = d) (hk : c_kind d = 6) (hn : 500 ≤ n) : ∀ {m : Nat} {F : Nat → Nat → Int32} {A : Nat → Nat → Nat → Int32} {J : Nat → Nat → Nat → Int64} {x1 : Int32}, Rc F A → 0 ≤ x1.toInt ∧ x1.toInt ≤ 6 → 7 - x1.toInt ≤ (m : Int) → ok (e_Reader_readSum m n P F A J x1) (LNc d P F A) := by
  intro m
  induction m with
  | zero => intro F A J x1 R hx hm; exact absurd hm (by omega)
  | succ m ih =>
    intro F A J x1 R hx hm
    have l0 : (0 : Int32).toInt = 0 := by decide
    unfold e_Reader_readSum e_Reader_readSumB
    exact s_readSum_10 (p2 := 0) (p3 := 0) e5 hk hx (fun h F A J x R hx' hy => ih R hx' (by omega)) (QLc.rfl' R) (by decide) (by decide) (by decide) (.inr (by omega)) (by decide) (by omega)
end L99
