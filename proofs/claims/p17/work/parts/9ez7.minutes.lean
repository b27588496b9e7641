section H9ez7
variable {h q : Nat} {k l k' l' N x E : Int} {ex : Prop} {P : Nat → Nat → Nat} {F F' : Nat → Nat → Int32} {A A' A1 : Nat → Nat → Nat → Int32} {J : Nat → Nat → Nat → Int64} {Fm Fm' : Nat → Int32} {Am Am' Am1 : Nat → Nat → Int32} {Jm : Nat → Nat → Int64} {x1 x2 x4 x5 y1 y2 y3 : Int32} {β γ δ : Type}
/-- the reference passes over a minute in which nothing happens -/
theorem r_idle75 {K27 : (Nat → Int32) → (Nat → Nat → Int32) → (Nat → Nat → Int64) → Int32 → Int32 → Option (mR Unit)} {z : Option γ} {Q : γ → mR Unit → Prop} (h1 : ∀ m, 0 ≤ m → m < ai Am 29 (Fm 18).toInt → y2.toInt < ai Am 41 (Fm 18).toInt → ai Am 50 m = 1 → y2.toInt < ai Am 51 m) (kk : P2 z (K27 Fm Am Jm y1 (y2 + 1)) Q) : ∀ {m : Nat} {y3 : Int32}, 0 ≤ y3.toInt → P2 z (d_goesTill_75 K27 m Fm Am Jm y1 y2 y3) Q := by
  intro m
  induction m with
  | zero => intro y3 _ a b _ hb; cases hb
  | succ m ih =>
    intro y3 h0
    unfold d_goesTill_75
    refine p2_r v_menNow ?_
    intro v22 e22
    refine p2_cr (fun _ => ?_) (fun c => ?_)
    · unfold d_goesTill_128
      exact kk
    rw [i_nge] at c
    refine p2_br (fun v24 h24 => ?_)
    have g24 := (gm h24).2.2
    refine p2_cr (fun _ => ?_) (fun c2 => ?_)
    · unfold d_goesTill_128
      exact kk
    rw [i_nge] at c2
    have e31 := i_p1 (x := y3) (by have rg : ai Am 29 (Fm 18).toInt < 2147483648 := (i_rng _).2; omega)
    refine p2_br (fun v26 h26 => ?_)
    have g26 := (gm h26).2.2
    refine p2_cr (fun _ => ?_) (fun c3 => ?_)
    · unfold d_goesTill_122
      exact ih (by omega)
    rw [i_nne, i_1] at c3
    refine p2_br (fun v28 h28 => ?_)
    have g28 := (gm h28).2.2
    refine p2_cr (fun _ => ?_) (fun c4 => ?_)
    · unfold d_goesTill_122
      exact ih (by omega)
    rw [i_ngt] at c4
    have := h1 y3.toInt h0 (by omega) (by omega) (by omega)
    omega
theorem r_idle34 {K27 : (Nat → Int32) → (Nat → Nat → Int32) → (Nat → Nat → Int64) → Int32 → Int32 → Option (mR Unit)} {z : Option γ} {Q : γ → mR Unit → Prop} (h2 : ∀ m, 0 ≤ m → m < ai Am 29 (Fm 18).toInt → ai Am 50 m = 2 → ai Am 52 m ≠ y2.toInt) (kk : ∀ {m : Nat}, P2 z (d_goesTill_75 K27 m Fm Am Jm y1 y2 0) Q) : ∀ {m : Nat} {y3 : Int32}, 0 ≤ y3.toInt → P2 z (d_goesTill_34 K27 m Fm Am Jm y1 y2 y3) Q := by
  intro m
  induction m with
  | zero => intro y3 _ a b _ hb; cases hb
  | succ m ih =>
    intro y3 h0
    unfold d_goesTill_34
    refine p2_r v_menNow ?_
    intro v12 e12
    refine p2_cr (fun _ => kk) (fun c => ?_)
    rw [i_nge] at c
    have e31 := i_p1 (x := y3) (by have rg : ai Am 29 (Fm 18).toInt < 2147483648 := (i_rng _).2; omega)
    refine p2_br (fun v14 h14 => ?_)
    have g14 := (gm h14).2.2
    refine p2_cr (fun _ => ?_) (fun c3 => ?_)
    · unfold d_goesTill_67
      exact ih (by omega)
    rw [i_nne, show (2 : Int32).toInt = 2 by decide] at c3
    refine p2_br (fun v16 h16 => ?_)
    have g16 := (gm h16).2.2
    refine p2_cr (fun _ => ?_) (fun c4 => ?_)
    · unfold d_goesTill_67
      exact ih (by omega)
    rw [i_nne] at c4
    exact absurd (by omega) (h2 y3.toInt h0 (by omega) (by omega))
/-- the least of all due minutes -/
theorem v_next5 (e8 : P 36 8 = h) : ∀ {n : Nat} {x1 x2 : Int32}, 0 ≤ x2.toInt → po (e_Sleep_nextMinute_5 n P F A J x1 x2) (fun r => (r.2.1 = P ∧ r.2.2.1 = F ∧ r.2.2.2.1 = A) ∧ r.1.toInt ≤ x1.toInt ∧ (∀ m, x2.toInt ≤ m → m < (F h 17).toInt → r.1.toInt ≤ ci A 36 3 m) ∧ (r.1.toInt = x1.toInt ∨ ∃ m, x2.toInt ≤ m ∧ m < (F h 17).toInt ∧ r.1.toInt = ci A 36 3 m)) := by
  intro n
  induction n with
  | zero => intro x1 x2 _ r hr; cases hr
  | succ n ih =>
    intro x1 x2 h0
    unfold e_Sleep_nextMinute_5
    refine po_bl (fun _ hk => ?_)
    obtain rfl := (gg_chk hk).2.symm
    try rw [e8]
    refine po_cond (fun c => po_some ⟨⟨rfl, rfl, rfl⟩, Int.le_refl _, fun m m0 m1 => ?_, .inl rfl⟩) (fun c => ?_)
    · rw [i_ge] at c
      omega
    rw [i_nge] at c
    refine po_bl (fun v3 h3 => ?_)
    have g3 := (gl h3).2.2
    have e21 := i_p1 (x := x2) (by have rg := i_rng (F h 17); omega)
    have mn : (if v3 < x1 then v3 else x1).toInt ≤ x1.toInt ∧ (if v3 < x1 then v3 else x1).toInt ≤ v3.toInt ∧ ((if v3 < x1 then v3 else x1).toInt = x1.toInt ∨ (if v3 < x1 then v3 else x1).toInt = v3.toInt) := by
      by_cases hl : v3 < x1
      · rw [if_pos hl]
        rw [Int32.lt_iff_toInt_lt] at hl
        exact ⟨by omega, Int.le_refl _, .inr rfl⟩
      · rw [if_neg hl]
        rw [Int32.lt_iff_toInt_lt] at hl
        exact ⟨Int.le_refl _, by omega, .inl rfl⟩
    generalize (if v3 < x1 then v3 else x1) = w at mn ⊢
    refine po_mono (ih (x1 := w) (x2 := x2 + 1) (by omega)) (fun r hr => ?_)
    obtain ⟨r1, r2, r3, r4⟩ := hr
    refine ⟨r1, by omega, fun m m0 m1 => ?_, ?_⟩
    · by_cases e : m = x2.toInt
      · rw [e]
        omega
      · exact r3 m (by omega) m1
    · rcases r4 with r4 | ⟨m, m0, m1, r4⟩
      · rcases mn.2.2 with e | e
        · exact .inl (by omega)
        · exact .inr ⟨x2.toInt, Int.le_refl _, c, by omega⟩
      · exact .inr ⟨m, by omega, m1, r4⟩
theorem v_next (e8 : P 36 8 = h) {n : Nat} : po (e_Sleep_nextMinute n P F A J) (fun r => (r.2.1 = P ∧ r.2.2.1 = F ∧ r.2.2.2.1 = A) ∧ r.1.toInt ≤ 1000000 ∧ (∀ m, 0 ≤ m → m < (F h 17).toInt → r.1.toInt ≤ ci A 36 3 m) ∧ (r.1.toInt = 1000000 ∨ ∃ m, 0 ≤ m ∧ m < (F h 17).toInt ∧ r.1.toInt = ci A 36 3 m)) := by
  unfold e_Sleep_nextMinute
  refine po_mono (v_next5 e8 (x1 := 1000000) (x2 := 0) (by decide)) (fun r hr => ?_)
  rw [show (1000000 : Int32).toInt = 1000000 by decide, i_0] at hr
  exact hr
theorem r_75_55 {K27 : (Nat → Int32) → (Nat → Nat → Int32) → (Nat → Nat → Int64) → Int32 → Int32 → Option (mR Unit)} {A0 : Nat → Nat → Int32} {R : mR Unit → Prop} (kk : ∀ F A J, A 55 = A0 55 → po (K27 F A J y1 (y2 + 1)) R) : ∀ {m : Nat} {F : Nat → Int32} {A : Nat → Nat → Int32} {J : Nat → Nat → Int64} {y3 : Int32}, A 55 = A0 55 → po (d_goesTill_75 K27 m F A J y1 y2 y3) R := by
  intro m
  induction m with
  | zero => intro F A J y3 _ r hr; cases hr
  | succ m ih =>
    intro F A J y3 hA
    unfold d_goesTill_75 d_goesTill_128 d_goesTill_122
    refine po_call (R := fun _ => True) (fun _ _ => trivial) (fun v22 _ => ?_)
    refine po_cond (fun _ => kk F A J hA) (fun _ => po_bl (fun v24 _ => ?_))
    refine po_cond (fun _ => kk F A J hA) (fun _ => po_bl (fun v26 _ => ?_))
    refine po_cond (fun _ => ih hA) (fun _ => po_bl (fun v28 _ => ?_))
    refine po_cond (fun _ => ih hA) (fun _ => ?_)
    refine po_call (rn_d_begins1 (Ar := A0) hA) ?_
    rintro ⟨_, F31, A32, J33⟩ h
    exact ih h
theorem NBx.to {k'' l'' : Int} (B : NBx ex h q N F A Fm Am k l k' l' 0) : NBx ex h q N F A Fm Am k l k'' l'' (0 : Int32).toInt :=
  ⟨B.1, B.2.1, B.2.2.1, B.2.2.2.1, fun m m0 m1 => ⟨fun h => by rw [i_0] at h; omega, fun _ => (B.2.2.2.2 m m0 m1).2 m0⟩⟩
/-- what men did this night, put down -/
theorem v_wake2 (hq : c_kind q = 2) (hk : c_kind h = 6) (e8 : P 36 8 = h) (e9 : P 36 9 = q) : ∀ {n : Nat} {A : Nat → Nat → Nat → Int32} {J : Nat → Nat → Nat → Int64} {x1 : Int32}, 0 ≤ x1.toInt → po (e_Sleep_wakeUp_2 n P F A J x1) (fun r => (r.2.1 = P ∧ r.2.2.1 = F) ∧ (∀ r' o, ¬ (r' = q ∧ (o = 3 ∨ o = 5 ∨ o = 6)) → r.2.2.2.1 r' o = A r' o) ∧ ∀ m : Int, 0 ≤ m → (m < x1.toInt → ci r.2.2.2.1 q 3 m = ci A q 3 m ∧ ci r.2.2.2.1 q 5 m = ci A q 5 m ∧ ci r.2.2.2.1 q 6 m = ci A q 6 m) ∧ (x1.toInt ≤ m → m < (F h 17).toInt → ci r.2.2.2.1 q 5 m = ci A 36 6 m ∧ r.2.2.2.1 q 6 m.toNat = A q 6 m.toNat + A 36 6 m.toNat ∧ (ci A q 3 m < 0 → ci r.2.2.2.1 q 3 m = ci A q 3 m) ∧ (0 ≤ ci A q 3 m → ci A 36 7 m = 1 → ci r.2.2.2.1 q 3 m = -1) ∧ (0 ≤ ci A q 3 m → ci A 36 7 m ≠ 1 → 0 ≤ ci A 36 5 m → ci A 36 5 m < 6 → ci A q 3 m < 36 → ci r.2.2.2.1 q 3 m = ci A q 3 m / 6 * 6 + ci A 36 5 m))) := by
  intro n
  have q36 : q ≠ 36 := k2ne hq
  have hne : h ≠ q := k62 hk hq
  induction n with
  | zero => intro A J x1 _ r hr; cases hr
  | succ n ih =>
    intro A J x1 h0
    unfold e_Sleep_wakeUp_2
    refine po_bl (fun _ hk => ?_)
    obtain rfl := (gg_chk hk).2.symm
    try rw [e8]
    refine po_cond (fun c => po_some ⟨⟨rfl, rfl⟩, fun _ _ _ => rfl, fun m m0 => ⟨fun _ => ⟨rfl, rfl, rfl⟩, fun m1 m2 => ?_⟩⟩) (fun c => ?_)
    · rw [i_ge] at c
      omega
    rw [i_nge] at c
    have e11 := i_p1 (x := x1) (by have rg := i_rng (F h 17); omega)
    refine po_bl (fun _ hk => ?_)
    obtain rfl := (gg_chk hk).2.symm
    try rw [e9]
    refine po_bl (fun v4 h4 => po_bl (fun _ hk => ?_))
    obtain rfl := (gg_chk hk).2.symm
    try rw [e9]
    refine po_bl (fun v6 h6 => po_bl (fun A7 h7 => po_bl (fun _ hk => ?_)))
    obtain rfl := (gg_chk hk).2.symm
    try rw [e9]
    refine po_bl (fun v9 h9 => po_bl (fun v10 h10 => po_bl (fun A11 h11 => ?_)))
    have g4 := (gl h4).2.2
    have g6 := gg_ld h6
    have U7 := (gg_cst h7).2.2
    have g9 := gg_ld h9
    have g10 := gg_ld h10
    have U11 := (gg_cst h11).2.2
    have z6 : A7 36 6 = A 36 6 := U7.2.2 36 6 (fun e => q36 e.1.symm)
    have y6 : A7 q 6 = A q 6 := U7.2.2 q 6 (fun e => absurd e.2 (by decide))
    have o11 : ∀ r o, ¬ (r = q ∧ (o = 5 ∨ o = 6)) → A11 r o = A r o := fun r o e => by rw [U11.2.2 r o (fun e' => e ⟨e'.1, .inr e'.2⟩), U7.2.2 r o (fun e' => e ⟨e'.1, .inl e'.2⟩)]
    have c5 : ci A11 q 5 x1.toInt = ci A 36 6 x1.toInt := by rw [ci_fr (U11.2.2 q 5 (fun e => absurd e.2 (by decide))), U7.1, g6.2.2]; rfl
    have c6 : A11 q 6 x1.toInt.toNat = A q 6 x1.toInt.toNat + A 36 6 x1.toInt.toNat := i_ext (by
      have e : ci A11 q 6 x1.toInt = (v9 + v10).toInt := U11.1
      rw [g9.2.2, g10.2.2, z6, y6] at e
      exact e)
    have m5 : ∀ m, 0 ≤ m → m ≠ x1.toInt → ci A11 q 5 m = ci A q 5 m := fun m m0 hm => by rw [ci_fr (U11.2.2 q 5 (fun e => absurd e.2 (by decide))), U7.2.1 m m0 hm]
    have m6 : ∀ m, 0 ≤ m → m ≠ x1.toInt → ci A11 q 6 m = ci A q 6 m := fun m m0 hm => by rw [U11.2.1 m m0 hm, ci_fr y6]
    have n6 : ∀ m : Int, 0 ≤ m → m ≠ x1.toInt → A11 q 6 m.toNat = A q 6 m.toNat := fun m m0 hm => i_ext (m6 m m0 hm)
    -- going on, with the row of what men left as it may be
    have go : ∀ {A' : Nat → Nat → Nat → Int32} {J : Nat → Nat → Nat → Int64}, (∀ r o, ¬ (r = q ∧ o = 3) → A' r o = A11 r o) → (∀ m, 0 ≤ m → m ≠ x1.toInt → ci A' q 3 m = ci A q 3 m) → ((ci A q 3 x1.toInt < 0 → ci A' q 3 x1.toInt = ci A q 3 x1.toInt) ∧ (0 ≤ ci A q 3 x1.toInt → ci A 36 7 x1.toInt = 1 → ci A' q 3 x1.toInt = -1) ∧ (0 ≤ ci A q 3 x1.toInt → ci A 36 7 x1.toInt ≠ 1 → 0 ≤ ci A 36 5 x1.toInt → ci A 36 5 x1.toInt < 6 → ci A q 3 x1.toInt < 36 → ci A' q 3 x1.toInt = ci A q 3 x1.toInt / 6 * 6 + ci A 36 5 x1.toInt)) → po (e_Sleep_wakeUp_2 n P F A' J (x1 + 1)) (fun r => (r.2.1 = P ∧ r.2.2.1 = F) ∧ (∀ r' o, ¬ (r' = q ∧ (o = 3 ∨ o = 5 ∨ o = 6)) → r.2.2.2.1 r' o = A r' o) ∧ ∀ m : Int, 0 ≤ m → (m < x1.toInt → ci r.2.2.2.1 q 3 m = ci A q 3 m ∧ ci r.2.2.2.1 q 5 m = ci A q 5 m ∧ ci r.2.2.2.1 q 6 m = ci A q 6 m) ∧ (x1.toInt ≤ m → m < (F h 17).toInt → ci r.2.2.2.1 q 5 m = ci A 36 6 m ∧ r.2.2.2.1 q 6 m.toNat = A q 6 m.toNat + A 36 6 m.toNat ∧ (ci A q 3 m < 0 → ci r.2.2.2.1 q 3 m = ci A q 3 m) ∧ (0 ≤ ci A q 3 m → ci A 36 7 m = 1 → ci r.2.2.2.1 q 3 m = -1) ∧ (0 ≤ ci A q 3 m → ci A 36 7 m ≠ 1 → 0 ≤ ci A 36 5 m → ci A 36 5 m < 6 → ci A q 3 m < 36 → ci r.2.2.2.1 q 3 m = ci A q 3 m / 6 * 6 + ci A 36 5 m))) := fun {A' J} o3 l3 lx => by
      refine po_mono (ih (A := A') (x1 := x1 + 1) (by omega)) (fun r hr => ?_)
      obtain ⟨r1, r2, r3⟩ := hr
      have q5 : A' q 5 = A11 q 5 := o3 q 5 (fun e => absurd e.2 (by decide))
      have q6 : A' q 6 = A11 q 6 := o3 q 6 (fun e => absurd e.2 (by decide))
      have w : ∀ o, A' 36 o = A 36 o := fun o => (o3 36 o (fun e => q36 e.1.symm)).trans (o11 36 o (fun e => q36 e.1.symm))
      refine ⟨r1, fun r' o e => by rw [r2 r' o e, o3 r' o (fun e' => e ⟨e'.1, .inl e'.2⟩), o11 r' o (fun e' => e ⟨e'.1, .inr e'.2⟩)], fun m m0 => ⟨fun m1 => ?_, fun m1 m2 => ?_⟩⟩
      · obtain ⟨a, b, d⟩ := (r3 m m0).1 (by omega)
        rw [a, b, d, ci_fr q5, ci_fr q6, m5 m m0 (by omega), m6 m m0 (by omega), l3 m m0 (by omega)]
        exact ⟨rfl, rfl, rfl⟩
      · by_cases e : m = x1.toInt
        · subst e
          obtain ⟨a, b, d⟩ := (r3 x1.toInt m0).1 (by omega)
          refine ⟨by rw [b, ci_fr q5]; exact c5, ?_, by rw [a]; exact lx.1, by rw [a]; exact lx.2.1, by rw [a]; exact lx.2.2⟩
          rw [← c6, ← q6]
          exact i_ext d
        · obtain ⟨a, b, d⟩ := (r3 m m0).2 (by omega) m2
          rw [ci_fr (w 6)] at a
          rw [w 6, q6, n6 m m0 e] at b
          rw [ci_fr (w 7), ci_fr (w 5), l3 m m0 e] at d
          exact ⟨a, b, d⟩
    refine po_cond (fun c4 => ?_) (fun c4 => ?_)
    · rw [i_lt, i_0] at c4
      unfold e_Sleep_wakeUp_99
      refine go (fun _ _ _ => rfl) (fun m m0 hm => by rw [ci_fr (o11 q 3 (by omega))]) ⟨fun _ => by rw [ci_fr (o11 q 3 (by omega))], fun h => by omega, fun h => by omega⟩
    · rw [i_nlt, i_0] at c4
      refine po_bl (fun v13 h13 => po_bl (fun _ hk => ?_))
      obtain rfl := (gg_chk hk).2.symm
      try rw [e9]
      refine po_bl (fun v15 h15 => ?_)
      have g15 := (gl h15).2.2
      rw [ci_fr (o11 36 7 (fun e => q36 e.1.symm))] at g15
      have st : ∀ {s : Int32} {A18 : Nat → Nat → Nat → Int32}, c_st A11 q 3 6 x1 s = some A18 → (∀ r o, ¬ (r = q ∧ o = 3) → A18 r o = A11 r o) ∧ (∀ m, 0 ≤ m → m ≠ x1.toInt → ci A18 q 3 m = ci A q 3 m) ∧ ci A18 q 3 x1.toInt = s.toInt := fun {s A18} h18 => by
        have U := (gg_cst h18).2.2
        exact ⟨U.2.2, fun m m0 hm => by rw [U.2.1 m m0 hm, ci_fr (o11 q 3 (by omega))], U.1⟩
      refine po_cond (fun c5 => ?_) (fun c5 => ?_)
      · rw [i_ne, i_1] at c5
        refine po_bl (fun v17 h17 => ?_)
        unfold e_Sleep_wakeUp_98
        refine po_bl (fun A18 h18 => ?_)
        obtain ⟨s1, s2, s3⟩ := st h18
        refine go s1 s2 ⟨fun h => by omega, fun _ h => by omega, fun _ _ z0 z1 z2 => ?_⟩
        have g17 := (gl h17).2.2
        rw [ci_fr (o11 36 5 (fun e => q36 e.1.symm))] at g17
        have g13 : v13.toInt = ci A q 3 x1.toInt / 6 := by rw [gg_div6 h13, i_div6 (by omega), g4]
        rw [s3, cx6 (by omega) (by omega), g13, g17]
      · rw [i_nne, i_1] at c5
        unfold e_Sleep_wakeUp_98
        refine po_bl (fun A18 h18 => ?_)
        obtain ⟨s1, s2, s3⟩ := st h18
        exact go s1 s2 ⟨fun h => by omega, fun _ _ => s3.trans (by decide), fun _ h => by omega⟩
/-- what both have when the night is over: the class has put it down -/
def WEx (ex : Prop) (h q : Nat) (F : Nat → Nat → Int32) (A' : Nat → Nat → Nat → Int32) (Am : Nat → Nat → Int32) : Prop := SHx ex q F Am ∧ (∀ k : Int, 0 ≤ k → k < 36 → ci A' q 1 k = ai Am 48 (6 + k)) ∧ (∀ k : Int, 0 ≤ k → k < 6 → ci A' q 2 k = ai Am 48 k ∧ 0 ≤ ci A' q 2 k) ∧ (∀ k : Int, 0 ≤ k → k < 6 → ci A' q 4 k = ai Am 48 (72 + k)) ∧ (∀ m : Int, 0 ≤ m → m < (F h 17).toInt → A' q 6 m.toNat = Am 48 (60 + m).toNat + Am 55 m.toNat ∧ (ex → ci A' q 7 m = ai Am 48 (66 + m)) ∧ ((ai Am 56 m = 1 ∧ ci A' q 3 m = -1) ∨ (ai Am 56 m = 0 ∧ LQx h F A' (ci A' q 3 m) (ai Am 48 (42 + m)) (ai Am 54 m))))
/-- what both have when the night is over -/
def QTx (ex : Prop) (h q : Nat) (N E : Int) (P : Nat → Nat → Nat) (F : Nat → Nat → Int32) (a : cR Unit) (b : mR Unit) : Prop := (a.2.1 = P ∧ a.2.2.1 = F) ∧ (∀ m : Int, 0 ≤ m → m < (F h 17).toInt → ci a.2.2.2.1 q 5 m = ai b.2.2.1 55 m) ∧ (E = N → NHx h F a.2.2.2.1 b.2.1 b.2.2.1 ∧ WCx h F a.2.2.2.1 ∧ WEx ex h q F a.2.2.2.1 b.2.2.1)
/-- the end of the night -/
theorem p2_end {n : Nat} (hq : c_kind q = 2) (e8 : P 36 8 = h) (e9 : P 36 9 = q) (B : NBx ex h q N F A Fm Am k l k' l' x) : P2 (e_Sleep_goTill_119 n P F A J) (some ((), Fm, Am, Jm)) (QTx ex h q N E P F) := by
  obtain ⟨H, S, C, W, NP⟩ := B
  have q36 : q ≠ 36 := k2ne hq
  have hne : h ≠ q := k62 H.kd hq
  have h36 : h ≠ 36 := k6ne H.kd
  have ct := H.ct
  unfold e_Sleep_goTill_119 e_Sleep_wakeUp
  refine p2_l (v_wake2 hq H.kd e8 e9 (x1 := 0) (by decide)) ?_
  rintro ⟨_, P22, F23, A24, J25⟩ ⟨⟨rfl, rfl⟩, o, w⟩
  dsimp only at o w ⊢
  have w : ∀ m : Int, 0 ≤ m → m < (F23 h 17).toInt → ci A24 q 5 m = ci A 36 6 m ∧ A24 q 6 m.toNat = A q 6 m.toNat + A 36 6 m.toNat ∧ (ci A q 3 m < 0 → ci A24 q 3 m = ci A q 3 m) ∧ (0 ≤ ci A q 3 m → ci A 36 7 m = 1 → ci A24 q 3 m = -1) ∧ (0 ≤ ci A q 3 m → ci A 36 7 m ≠ 1 → 0 ≤ ci A 36 5 m → ci A 36 5 m < 6 → ci A q 3 m < 36 → ci A24 q 3 m = ci A q 3 m / 6 * 6 + ci A 36 5 m) := fun m m0 m1 => (w m m0).2 (by rw [i_0]; exact m0) m1
  have MM : ∀ m : Int, 0 ≤ m → m < (F23 h 17).toInt → ∃ k l, MNx N h A Am k l m := fun m m0 m1 => by
    by_cases e : m < x
    · exact ⟨_, _, (NP m m0 m1).1 e⟩
    · exact ⟨_, _, (NP m m0 m1).2 (by omega)⟩
  refine p2_some ⟨⟨rfl, rfl⟩, fun m m0 m1 => ?_, fun _ => ⟨?_, ?_, ?_⟩⟩
  · obtain ⟨k, l, M6, -⟩ := MM m m0 m1
    show ci A24 q 5 m = ai Am 55 m
    rw [(w m m0 m1).1, M6]
  · exact H.fr (fun _ => rfl) (fun p _ => o h p (fun e => hne e.1)) rfl (fun _ _ _ => rfl)
  · exact W.1.cg (fun _ => rfl) (fun p _ => o h p (fun e => hne e.1)) rfl (o 36 2 (fun e => q36 e.1.symm))
  · show WEx ex h q F23 A24 Am
    refine ⟨W.2, fun k k0 k1 => ?_, fun k k0 k1 => ?_, fun k k0 k1 => ?_, fun m m0 m1 => ?_⟩
    · rw [ci_fr (o q 1 (by omega))]; exact S.dn k0 k1
    · rw [ci_fr (o q 2 (by omega))]; exact S.sf k0 k1
    · rw [ci_fr (o q 4 (by omega))]; exact S.tl k0 k1
    · obtain ⟨k, l, M6, ⟨M7, M7'⟩, M⟩ := MM m m0 m1
      obtain ⟨s1, s2, s3, s4⟩ := S.mn m0 m1
      obtain ⟨w1, w2, w3, w4, w5⟩ := w m m0 m1
      refine ⟨?_, by rw [ci_fr (o q 7 (by omega))]; exact s4, ?_⟩
      · rw [w2, i_ext (show (A q 6 m.toNat).toInt = (Am 48 (60 + m).toNat).toInt from s3), i_ext (show (A 36 6 m.toNat).toInt = (Am 55 m.toNat).toInt from M6)]
      · have lq : ∀ {a t u : Int}, LQx h F23 A a t u → LQx h F23 A24 a t u := fun L => L.cg rfl (o h 5 (fun e => hne e.1))
        rcases M with ⟨m1', m2, m3, m4, m5, m6⟩ | ⟨m1', m2, m3, m4, M⟩
        · refine .inr ⟨m6, lq ?_⟩
          have neg : ci A q 3 m < 0 := by
            rcases s1 with ⟨e, -, -⟩ | ⟨e, -, -, -, -⟩ <;> omega
          rw [w3 neg, m1', m2]
          rcases s1 with ⟨e, -, -⟩ | ⟨e, -, -, -, -⟩
          · exact .inl ⟨e, rfl, rfl⟩
          · omega
        · rcases s1 with ⟨-, e, -⟩ | ⟨t0, t1, u0, u1, e⟩
          · omega
          have s6 := H.s6 t0
          rcases M7' with z | z
          · refine .inr ⟨z, lq ?_⟩
            rw [w5 (by omega) (by omega) (by omega) (by omega) (by omega)]
            exact .inr ⟨t0, t1, m3, m4, by omega⟩
          · exact .inl ⟨z, w4 (by omega) (by omega)⟩
/-- the minutes of a night, one by one -/
theorem p2_31 (hq : c_kind q = 2) (e8 : P 36 8 = h) (e9 : P 36 9 = q) (EN : E ≤ N) (hN : N ≤ 600) (eN : N = (F h 18).toInt) (ex1 : x1.toInt = E) (ey1 : y1.toInt = E) : ∀ {m n : Nat} {A : Nat → Nat → Nat → Int32} {J : Nat → Nat → Nat → Int64} {Fm : Nat → Int32} {Am : Nat → Nat → Int32} {Jm : Nat → Nat → Int64} {x4 x5 y2 : Int32}, NBx ex h q N F A Fm Am y2.toInt y2.toInt y2.toInt y2.toInt 0 → 0 ≤ y2.toInt → y2.toInt ≤ x4.toInt → x5.toInt ≤ y2.toInt → 0 ≤ x5.toInt → (y2.toInt ≤ E → ∀ m, 0 ≤ m → m < (F h 17).toInt → x4.toInt ≤ ci A 36 3 m) → P2 (e_Sleep_goTill_31 n P F A J x1 x4 x5) (d_goesTill_27 m Fm Am Jm y1 y2) (QTx ex h q N E P F) := by
  have lF : (1000000 : Int32).toInt = 1000000 := by decide
  intro m
  induction m with
  | zero => intro n A J Fm Am Jm x4 x5 y2 _ _ _ _ _ _ a b _ hb; cases hb
  | succ m ih =>
    intro n A J Fm Am Jm x4 x5 y2 B y0 yx x5y x50 du
    obtain ⟨H, S, C, W, NP⟩ := B
    have ct := H.ct
    have hm := H.men
    have hn := H.nn
    unfold d_goesTill_27
    refine p2_cr (fun c => ?_) (fun c => ?_)
    · -- the night is over
      rw [i_gt] at c
      cases n with
      | zero => intro a b ha; cases ha
      | succ n =>
        unfold e_Sleep_goTill_31
        refine p2_cl (fun _ => p2_end hq e8 e9 ⟨H, S, C, W, NP⟩) (fun _ => p2_cl (fun _ => p2_end hq e8 e9 ⟨H, S, C, W, NP⟩) (fun c2 => ?_))
        rw [i_ngt] at c2
        omega
    rw [i_ngt] at c
    have e21 := i_p1 (x := y2) (by omega)
    have du := du (by omega)
    have MM : ∀ m, 0 ≤ m → m < (F h 17).toInt → MNx N h A Am y2.toInt y2.toInt m := fun m m0 m1 => (NP m m0 m1).2 m0
    by_cases idle : y2.toInt < x4.toInt
    · -- nothing happens in this minute
      have over : ∀ m, 0 ≤ m → m < (F h 17).toInt → ¬ (ai Am 50 m = 2 ∧ ai Am 52 m = y2.toInt) := fun m m0 m1 h => by
        have := (MM m m0 m1).over.mpr h
        have := du m m0 m1
        omega
      have MN1 : ∀ m, 0 ≤ m → m < (F h 17).toInt → MNx N h A Am y2.toInt (y2.toInt + 1) m := fun m m0 m1 => (MM m m0 m1).nof (.inl (by have := du m m0 m1; omega))
      refine r_idle34 (fun m m0 m1 h50 h52 => over m m0 (by omega) ⟨h50, h52⟩) (fun {m'} => ?_) (by decide)
      refine r_idle75 (fun m m0 m1 hN' h50 => ?_) ?_ (by decide)
      · have dd := (MN1 m m0 (by omega)).due (by omega)
        have := du m m0 (by omega)
        omega
      · refine ih ⟨H, S, C, W, fun m m0 m1 => ⟨fun h => by omega, fun _ => ?_⟩⟩ (by omega) (by omega) (by omega) x50 (fun _ => du)
        rw [e21]
        exact (MN1 m m0 m1).next (by have := du m m0 m1; omega)
    · -- something is over, or begins
      have x4e : x4.toInt = y2.toInt := by omega
      cases n with
      | zero => intro a b ha; cases ha
      | succ n =>
        unfold e_Sleep_goTill_31
        refine p2_cl (fun c2 => ?_) (fun _ => p2_cl (fun c2 => ?_) (fun _ => ?_))
        · rw [i_gt] at c2
          omega
        · rw [i_gt] at c2
          omega
        have e51 := i_p1 (x := x5) (by omega)
        unfold e_Sleep_finishAll
        refine p2_34 (k := y2.toInt) (N := N) hq e8 e9 x4e rfl (fun {m' A J Fm Am Jm} B => ?_) ⟨H, S, C, W, fun m m0 m1 => ⟨fun h => by rw [i_0] at h; omega, fun _ => MM m m0 m1⟩⟩ rfl (by decide)
        dsimp only
        by_cases kE : y2.toInt < E
        · refine p2_52 (k := y2.toInt) (E := E) (N := N) hq e8 e9 y0 kE EN hN eN ex1 x4e rfl (fun {n' m' A J Fm Am Jm} B => ?_) (NBx.to B) rfl (by decide)
          unfold e_Sleep_goTill_96 d_goesTill_128
          refine p2_cl (fun c2 => ?_) (fun _ => ?_)
          · rw [i_ge] at c2
            omega
          refine p2_l (v_next e8) ?_
          rintro ⟨v37, P38, F39, A40, J41⟩ ⟨⟨w1, w2, w3⟩, n1, n2, n3⟩
          dsimp only at w1 w2 w3 n1 n2 n3 ⊢
          subst w1 w2 w3
          unfold e_Sleep_goTill_111
          refine ih (by rw [e21]; exact B) (by omega) ?_ (by omega) (by omega) (fun _ => n2)
          rcases n3 with n3 | ⟨m', m0, m1, n3⟩
          · omega
          · have M := (B.2.2.2.2 m' m0 m1).2 m0
            obtain ⟨-, -, M⟩ := M
            rcases M with ⟨c1, c2, c3, c4, c5, c6⟩ | ⟨c1, c2, c3, c4, M⟩
            · omega
            · rcases M with ⟨d1, d2, d3, d4⟩ | ⟨d1, d2, d3, d4, d5, d6, d7, d8⟩ | ⟨d1, d2, d3⟩
              · omega
              · omega
              · omega
        · -- the last minute
          have kE : y2.toInt = E := by omega
          obtain ⟨H', S', C', W', NP'⟩ := B
          have hm' := H'.men
          have hn' := H'.nn
          have cls : ∀ {n' n'' : Nat} {z : Option (mR Unit)}, P2 (e_Sleep_goTill_119 n' P F A J) z (QTx ex h q N E P F) → P2 (e_Sleep_goTill_96 (e_Sleep_goTill_31 (n' + 1)) n'' P F A J x1 x4 x5) z (QTx ex h q N E P F) := fun {n' n'' z} hz => by
            unfold e_Sleep_goTill_96
            refine p2_cl (fun _ => ?_) (fun c2 => ?_)
            · unfold e_Sleep_goTill_111 e_Sleep_goTill_31
              refine p2_cl (fun _ => hz) (fun _ => p2_cl (fun _ => hz) (fun c2 => ?_))
              rw [i_ngt, lF] at c2
              omega
            · rw [i_nge] at c2
              omega
          have cls52 : ∀ {n' n'' : Nat} {z : Option (mR Unit)}, P2 (e_Sleep_goTill_119 n' P F A J) z (QTx ex h q N E P F) → P2 (e_Sleep_goTill_52 (e_Sleep_goTill_31 (n' + 1)) n'' P F A J x1 x4 x5 0) z (QTx ex h q N E P F) := fun {n' n'' z} hz => by
            cases n'' with
            | zero => intro a b ha; cases ha
            | succ n'' =>
              unfold e_Sleep_goTill_52
              refine p2_bl (fun _ hk => ?_)
              refine p2_cl (fun _ => cls hz) (fun _ => p2_cl (fun _ => cls hz) (fun c2 => ?_))
              rw [i_nge] at c2
              omega
          cases n with
          | zero => intro a b ha; cases ha
          | succ n =>
            refine cls52 ?_
            by_cases eEN : E = N
            · -- no step begins any more
              refine r_idle75 (fun m m0 m1 hN' h50 => by omega) ?_ (by decide)
              cases m with
              | zero => intro a b _ hb; cases hb
              | succ m =>
                unfold d_goesTill_27
                refine p2_cr (fun _ => p2_end hq e8 e9 ⟨H', S', C', W', NP'⟩) (fun c2 => ?_)
                rw [i_ngt] at c2
                omega
            · -- what the reference begins in it doesn't count
              have pe := p2_end (n := n) (J := J) (Jm := Jm) (E := E) hq e8 e9 ⟨H', S', C', W', NP'⟩
              have pr : po (d_goesTill_75 (d_goesTill_27 m) m' Fm Am Jm y1 y2 0) (fun b => b.2.2.1 55 = Am 55) := by
                refine r_75_55 (A0 := Am) (fun F' A' J' hA => ?_) rfl
                cases m with
                | zero => intro b hb; cases hb
                | succ m =>
                  unfold d_goesTill_27
                  refine po_cond (fun _ => po_some hA) (fun c2 => ?_)
                  rw [i_ngt] at c2
                  omega
              intro a b ha hb
              obtain ⟨r1, r2, -⟩ := pe a _ ha rfl
              exact ⟨r1, fun m m0 m1 => by rw [r2 m m0 m1, ai_fr (pr b hb)], fun h => absurd h eEN⟩
end H9ez7
