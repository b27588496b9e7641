section S90
variable {P : Nat → Nat → Nat} {F : Nat → Nat → Int32} {A : Nat → Nat → Nat → Int32} {J : Nat → Nat → Nat → Int64} {h q : Nat} {k : Int}
theorem NMc.cnt {m : Int} (n : NMc A h q m) (l : 0 ≤ ci A q 3 m) : ci A q 3 m < 36 ∧ 0 < ci A h 5 (ci A q 3 m / 6) := by
  rcases n.1 with e | ⟨_, e1, e2⟩
  · omega
  · exact ⟨e1, by omega⟩
/-- a step begins: doing and due of a man are written -/
theorem NVc.beg {A1 A2 : Nat → Nat → Nat → Int32} {x : Int} {s d : Int} (N : NVc A h q k) (U1 : CUm A A1 36 4 x s) (U2 : CUm A1 A2 36 3 x d) (hk : c_kind h = 6) (hq : c_kind q = 2) (hl : 0 ≤ ci A q 3 x) (hs : s < ci A h 5 (ci A q 3 x / 6)) : NVc A2 h q k := fun m m0 m1 => by
  have n1 := k2ne hq
  have n2 := k6ne hk
  have a5 : A2 h 5 = A h 5 := (U2.2.2 h 5 (fun e => n2 e.1)).trans (U1.2.2 h 5 (fun e => n2 e.1))
  have a3 : A2 q 3 = A q 3 := (U2.2.2 q 3 (fun e => n1 e.1)).trans (U1.2.2 q 3 (fun e => n1 e.1))
  have b5 : A2 36 5 = A 36 5 := (U2.2.2 36 5 (by simp)).trans (U1.2.2 36 5 (by simp))
  by_cases e : m = x
  · subst e
    obtain ⟨y1, y2, y3⟩ := N m m0 m1
    unfold NMc
    rw [ci_fr a5, ci_fr a3, ci_fr b5, ci_fr (U2.2.2 36 4 (by simp)), U1.1]
    exact ⟨y1.cg a5, fun z => ⟨(y2 z).1, fun _ => hs⟩, fun z => absurd hl (by omega)⟩
  · refine (N m m0 m1).cg a5 a3 ?_ ?_ (by rw [ci_fr b5])
    · rw [U2.2.1 m m0 e, ci_fr (U1.2.2 36 3 (by simp))]
    · rw [ci_fr (U2.2.2 36 4 (by simp)), U1.2.1 m m0 e]
theorem s_begin {n : Nat} {x1 x2 : Int32} (e8 : P 36 8 = h) (e9 : P 36 9 = q) (hk : c_kind h = 6) (hq : c_kind q = 2) (R : Rc F A) (H : HVc F A h) (N : NVc A h q k) (h1 : 0 ≤ x1.toInt ∧ x1.toInt < k) (hk6 : k ≤ 6) (hl : 0 ≤ ci A q 3 x1.toInt) (hn : 430 ≤ n) : ok (e_Sleep_begin n P F A J x1 x2) (NPc P F A h q k) := by
  have l0 : (0 : Int32).toInt = 0 := by decide
  have n1 := k2ne hq
  have n2 := k6ne hk
  have nh := k62 hk hq
  have nm := N x1.toInt h1.1 h1.2
  have cn := nm.cnt hl
  have lie : ∀ {F A A' J}, NFc h q F F A A' → Rc F A' → NVc A' h q k → ok (e_Sleep_lieDown P F A' J x1 x2) (NPc P F A h q k) := fun w R N => ok_mono (s_lieDown e9 hk hq R N ⟨by omega, by omega⟩) (fun r hr => hr.go w)
  unfold e_Sleep_begin
  rw [e8, e9]
  refine ok_chk hq ?_
  refine ok_ldc R hq (by omega) (by omega) ?_
  intro v2 v2e _
  refine ok_div1 (by decide) ?_
  intro v3 e3
  have d3 : v3.toInt = v2.toInt / 6 := by rw [e3]; exact i_div6 (by omega)
  refine ok_chk hk ?_
  refine ok_chk hq ?_
  refine ok_call (s_isEnded hk R (by omega) (by omega)) ?_
  intro v6 _
  have f44 : ok (e_Sleep_begin_44 n P F A J x1 x2 v6) (NPc P F A h q k) := by
    have f59 : ∀ s : Int32, ok (e_Sleep_begin_59 n P F A J x1 x2 x1 s) (NPc P F A h q k) := fun s => by
      unfold e_Sleep_begin_59
      refine ok_cst (by omega) (by omega) ?_
      intro A2 U2
      have w2 : NFc h q F F A A2 := NFc.st U2 (.inl rfl)
      refine ok_call (lie w2 (R.st U2 trivial) (N.cg (w2.h5 hk hq) (w2.q3 hk hq) (fun o ho => U2.2.2 36 o (by omega)))) ?_
      rintro ⟨u, P2, F2, A3, J3⟩ hr
      exact ok_some hr
    unfold e_Sleep_begin_44
    exact ok_cond (fun _ => f59 0) (fun _ => f59 1)
  refine ok_cond (fun _ => f44) (fun _ => ?_)
  refine ok_chk hq ?_
  refine ok_ldn (by omega) (by omega) (fun v9 => ?_)
  refine ok_cond (fun _ => ?_) (fun _ => f44)
  refine ok_call (s_chosenStep e8 e9 hk hq R H ⟨by omega, by omega⟩ (x2 := v3) (by omega) (by omega)) ?_
  rintro ⟨v11, P2, F2, A2, J2⟩ ⟨g1, g2, g3, R2, g5, g6, g7⟩
  dsimp only at g1 g2 g3 R2 g5 g6 g7 ⊢
  subst g1
  subst g2
  have w2 : NFc h q F2 F2 A A2 := ⟨fun r o a b c => g3 r o (fun e => a e.1) (fun e => c e.1 e.2), fun _ _ _ => rfl⟩
  have N2 : NVc A2 h q k := N.cg (w2.h5 hk hq) (w2.q3 hk hq) (fun o ho => g3 36 o (by omega) (fun e => n2 e.1.symm))
  have k5 : A2 h 5 = A h 5 := w2.h5 hk hq
  have k3 : A2 q 3 = A q 3 := w2.q3 hk hq
  have hl2 : 0 ≤ ci A2 q 3 x1.toInt := by rw [ci_fr k3]; exact hl
  rw [e8, e9]
  refine ok_chk hk ?_
  have m3 := i_mulR (c := 6) (k := 6) (x := v3) (by decide) (by omega) (by omega)
  have a3 := i_add (x := v3 * 6) (y := v11) (by omega) (by omega)
  have hs : v11.toInt < ci A2 h 5 (ci A2 q 3 x1.toInt / 6) := by
    rw [ci_fr k5, ci_fr k3, ← v2e, ← d3]
    exact g7 (by rw [d3, v2e]; exact cn.2)
  -- the last strokes: doing and due
  have last : ∀ {A3 : Nat → Nat → Nat → Int32} {y : Int32}, NFc h q F2 F2 A2 A3 → Rc F2 A3 → (∀ o, o = 3 ∨ o = 4 ∨ o = 5 → A3 36 o = A2 36 o) → ok ((c_st A3 36 4 6 x1 v11).bind fun A34 => (c_chk 6 h).bind fun q35 => (m_ld (A34 q35 6) 36 ((v3 * 6) + v11)).bind fun v36 => (c_st A34 36 3 6 x1 (x2 + v36)).bind fun A37 => some ((), P2, F2, A37, J2)) (NPc P2 F2 A h q k) := by
    intro A3 y w3 R3 o3
    refine ok_cst (by omega) (by omega) ?_
    intro A4 U4
    refine ok_chk hk ?_
    refine ok_ldn (by omega) (by omega) (fun v36 => ?_)
    refine ok_cst (by omega) (by omega) ?_
    intro A5 U5
    have N3 := N2.cg (w3.h5 hk hq) (w3.q3 hk hq) o3
    refine ok_some ⟨rfl, (R3.st U4 (show -1 ≤ v11.toInt ∧ v11.toInt ≤ 5 by omega)).st U5 trivial, (w2.tr w3).tr ((NFc.st U4 (.inl rfl)).tr (NFc.st U5 (.inl rfl))), N3.beg U4 U5 hk hq (by rw [ci_fr (w3.q3 hk hq)]; exact hl2) (by rw [ci_fr (w3.h5 hk hq), ci_fr (w3.q3 hk hq)]; exact hs)⟩
  have f168 : ok (e_Sleep_begin_168 n P2 F2 A2 J2 x1 x2 v3 v11) (NPc P2 F2 A h q k) := by
    unfold e_Sleep_begin_168
    rw [e8, e9]
    refine ok_chk hq ?_
    refine ok_ldn (by omega) (by omega) (fun v32 => ?_)
    refine ok_cst (by omega) (by omega) ?_
    intro A3 U3
    exact last (y := x1) (NFc.st U3 (.inr ⟨rfl, by decide⟩)) (R2.st U3 (nt2 hq _ _)) (fun o _ => U3.2.2 36 o (fun e => n1 e.1.symm))
  refine ok_ldc R2 hk (by omega) (by omega) ?_
  intro v17 _ v17r
  change -2 ≤ v17.toInt ∧ v17.toInt ≤ 5 at v17r
  refine ok_cond (fun _ => f168) (fun c4 => ?_)
  rw [i_nlt] at c4
  have f140 : ok (e_Sleep_begin_140 n P2 F2 A2 J2 x1 x2 v3 v11 v17) (NPc P2 F2 A h q k) := by
    unfold e_Sleep_begin_140
    rw [e8, e9]
    refine ok_ldn (by omega) (by omega) (fun v38 => ?_)
    refine ok_cond (fun _ => ?_) (fun _ => ?_)
    · refine ok_cst (by omega) (by omega) ?_
      intro A3 U3
      refine ok_chk hq ?_
      refine ok_ldn (by omega) (by omega) (fun v42 => ?_)
      refine ok_cst (by omega) (by omega) ?_
      intro A4 U4
      exact last (y := x1) ((NFc.st U3 (.inl rfl)).tr (NFc.st U4 (.inr ⟨rfl, by decide⟩))) ((R2.st U3 trivial).st U4 (nt2 hq _ _)) (fun o ho => (U4.2.2 36 o (fun e => n1 e.1.symm)).trans (U3.2.2 36 o (by omega)))
    · refine ok_cst (by omega) (by omega) ?_
      intro A3 U3
      have w3 : NFc h q F2 F2 A2 A3 := NFc.st U3 (.inl rfl)
      refine ok_some ⟨rfl, R2.st U3 trivial, w2.tr w3, fun m m0 m1 => ?_⟩
      by_cases e : m = x1.toInt
      · subst e
        obtain ⟨y1, y2, y3⟩ := N2 _ m0 m1
        unfold NMc
        rw [show ((), P2, F2, A3, J2).2.2.2.1 = A3 from rfl, ci_fr (w3.h5 hk hq), ci_fr (w3.q3 hk hq), ci_fr (U3.2.2 36 4 (by simp)), ci_fr (U3.2.2 36 5 (by simp))]
        exact ⟨y1.cg (w3.h5 hk hq), y2, fun z => absurd hl2 (by omega)⟩
      · exact (N2 m m0 m1).cg (w3.h5 hk hq) (w3.q3 hk hq) (U3.2.1 m m0 e) (by rw [show ((), P2, F2, A3, J2).2.2.2.1 = A3 from rfl, ci_fr (U3.2.2 36 4 (by simp))]) (by rw [show ((), P2, F2, A3, J2).2.2.2.1 = A3 from rfl, ci_fr (U3.2.2 36 5 (by simp))])
  refine ok_chk hq ?_
  refine ok_ldn (by omega) (by omega) (fun v20 => ?_)
  refine ok_cond (fun _ => f140) (fun _ => ?_)
  refine ok_chk hk ?_
  refine ok_ldn (by omega) (by omega) (fun v23 => ?_)
  refine ok_cond (fun _ => f140) (fun _ => ?_)
  refine ok_call (lie w2 R2 N2) ?_
  rintro ⟨u, P3, F3, A3, J3⟩ hr
  exact ok_some hr
/-- steps that are over -/
theorem s_finishAll_2 {x1 : Int32} (e8 : P 36 8 = h) (e9 : P 36 9 = q) (hk : c_kind h = 6) (hq : c_kind q = 2) (hm : k = cf F h 17) (h1 : x1.toInt < 1000000) : ∀ {n : Nat} {A : Nat → Nat → Nat → Int32} {J : Nat → Nat → Nat → Int64} {x2 : Int32}, Rc F A → HVc F A h → NVc A h q k → 0 ≤ x2.toInt ∧ x2.toInt ≤ 6 → 7 - x2.toInt < (n : Int) → ok (e_Sleep_finishAll_2 n P F A J x1 x2) (fun r => r.2.2.1 = F ∧ NPc P F A h q k r) := by
  intro n
  induction n with
  | zero => intro A J x2 R H N hx hn; exact absurd hn (by omega)
  | succ n ih =>
    intro A J x2 R H N hx hn
    have l0 : (0 : Int32).toInt = 0 := by decide
    have l1 : (1 : Int32).toInt = 1 := by decide
    have n1 := k2ne hq
    have n2 := k6ne hk
    have rm : 0 ≤ (F h 17).toInt ∧ (F h 17).toInt ≤ 6 := by have := R.1 h 17; rw [hk] at this; exact this
    unfold cf at hm
    unfold e_Sleep_finishAll_2
    rw [e8, e9]
    refine ok_chk hk ?_
    refine ok_cond (fun _ => ok_some ⟨rfl, rfl, R, NFc.rfl', N⟩) (fun c => ?_)
    rw [i_nge] at c
    have e2 := i_add (x := x2) (y := 1) (by omega) (by omega)
    have next : ok (e_Sleep_finishAll_122 (e_Sleep_finishAll_2 n) n P F A J x1 x2) (fun r => r.2.2.1 = F ∧ NPc P F A h q k r) := by
      unfold e_Sleep_finishAll_122
      exact ih R H N (by omega) (by omega)
    refine ok_ldc (K := 10) R (by decide) (by omega) (by omega) ?_
    intro v3 v3e _
    refine ok_cond (fun _ => next) (fun c3 => ?_)
    rw [i_nne] at c3
    refine ok_ldc (K := 10) R (by decide) (by omega) (by omega) ?_
    intro v5 v5e v5r
    change -1 ≤ v5.toInt ∧ v5.toInt ≤ 5 at v5r
    refine ok_cond (fun _ => next) (fun c5 => ?_)
    rw [i_nlt] at c5
    have nm := N x2.toInt hx.1 (by omega)
    have hl : 0 ≤ ci A q 3 x2.toInt := by
      by_cases z : ci A q 3 x2.toInt < 0
      · have := nm.2.2 z; omega
      · omega
    have cn := nm.cnt hl
    have dg := (nm.2.1 hl).2 (by omega)
    refine ok_chk hq ?_
    refine ok_ldc R hq (by omega) (by omega) ?_
    intro v8 v8e _
    refine ok_div1 (by decide) ?_
    intro v9 e9'
    have d9 : v9.toInt = v8.toInt / 6 := by rw [e9']; exact i_div6 (by omega)
    refine ok_ldc (K := 10) R (by decide) (by omega) (by omega) ?_
    intro v10 v10e v10r
    change -1 ≤ v10.toInt ∧ v10.toInt ≤ 5 at v10r
    refine ok_chk hk ?_
    refine ok_chk hq ?_
    have hu := H.2.2.2.1 v9.toInt v10.toInt (by omega) (by omega) (by omega) (by rw [d9, v8e]; omega)
    refine ok_call (s_finish hk hq R (by omega) (by omega) hu) ?_
    rintro ⟨u, P2, F2, A2, J2⟩ ⟨g1, g2, g3, R2⟩
    dsimp only at g1 g2 g3 R2 ⊢
    subst g1
    subst g2
    have w2 : NFc h q F2 F2 A A2 := ⟨fun r o a b c => g3 r o (fun e => absurd (b e.1) (by rw [e.2]; decide)), fun _ _ _ => rfl⟩
    have N2 : NVc A2 h q k := N.cg (w2.h5 hk hq) (w2.q3 hk hq) (fun o _ => g3 36 o (fun e => n1 e.1.symm))
    rw [e8]
    refine ok_chk hk ?_
    have m9 := i_mulR (c := 6) (k := 6) (x := v9) (by decide) (by omega) (by omega)
    have a9 := i_add (x := v9 * 6) (y := v10) (by omega) (by omega)
    refine ok_ldc R2 hk (by omega) (by omega) ?_
    intro v19 _ v19r
    change -2 ≤ v19.toInt ∧ v19.toInt ≤ 5 at v19r
    have tl : ∀ {A3}, NFc h q F2 F2 A2 A3 → Rc F2 A3 → (∀ o, o = 3 ∨ o = 4 ∨ o = 5 → A3 36 o = A2 36 o) → ok ((c_st A3 36 5 6 x2 v10).bind fun A26 => (m_ld (A26 36 6) 6 x2).bind fun v27 => (c_st A26 36 6 6 x2 (v27 + 1)).bind fun A28 => (c_st A28 36 4 6 x2 ((-1))).bind fun A29 => e_Sleep_finishAll_2 n P2 F2 A29 J2 x1 (x2 + 1)) (fun r => r.2.2.1 = F2 ∧ NPc P2 F2 A h q k r) := by
      intro A3 w3 R3 o3
      have N3 := N2.cg (w3.h5 hk hq) (w3.q3 hk hq) o3
      refine ok_cst (by omega) (by omega) ?_
      intro A4 U4
      refine ok_ldn (by omega) (by omega) (fun v27 => ?_)
      refine ok_cst (by omega) (by omega) ?_
      intro A5 U5
      refine ok_cst (by omega) (by omega) ?_
      intro A6 U6
      have w6 : NFc h q F2 F2 A3 A6 := (NFc.st U4 (.inl rfl)).tr ((NFc.st U5 (.inl rfl)).tr (NFc.st U6 (.inl rfl)))
      have R6 : Rc F2 A6 := ((R3.st U4 (show 0 ≤ v10.toInt ∧ v10.toInt ≤ 5 by omega)).st U5 trivial).st U6 (show -1 ≤ (-1 : Int32).toInt ∧ (-1 : Int32).toInt ≤ 5 by decide)
      have wa := (w2.tr w3).tr w6
      have N6 : NVc A6 h q k := fun m m0 m1 => by
        have b3 : ci A6 36 3 m = ci A3 36 3 m := by rw [ci_fr (U6.2.2 36 3 (by simp)), ci_fr (U5.2.2 36 3 (by simp)), ci_fr (U4.2.2 36 3 (by simp))]
        have b5 : ci A6 36 5 = ci A4 36 5 := by rw [ci_fr (U6.2.2 36 5 (by simp)), ci_fr (U5.2.2 36 5 (by simp))]
        by_cases e : m = x2.toInt
        · subst e
          obtain ⟨y1, y2, y3⟩ := N3 _ m0 m1
          have lm : (-1 : Int32).toInt = -1 := by decide
          unfold NMc
          rw [ci_fr (w6.h5 hk hq), ci_fr (w6.q3 hk hq), b3, b5, U4.1, U6.1]
          refine ⟨y1.cg (w6.h5 hk hq), fun z => ⟨?_, fun t => absurd t (by omega)⟩, y3⟩
          rw [ci_fr (w3.h5 hk hq), ci_fr (w3.q3 hk hq), ci_fr (w2.h5 hk hq), ci_fr (w2.q3 hk hq)]
          omega
        · exact (N3 m m0 m1).cg (w6.h5 hk hq) (w6.q3 hk hq) b3 (by rw [U6.2.1 m m0 e, ci_fr (U5.2.2 36 4 (by simp)), ci_fr (U4.2.2 36 4 (by simp))]) (by rw [b5, U4.2.1 m m0 e])
      exact ok_mono (ih R6 (wa.hv hk hq H) N6 (by omega) (by omega)) (fun r hr => ⟨hr.1, hr.2.go wa⟩)
    refine ok_cond (fun _ => ?_) (fun c6 => ?_)
    · unfold e_Sleep_finishAll_97
      exact tl NFc.rfl' R2 (fun _ _ => rfl)
    · rw [i_nlt] at c6
      refine ok_cst (by omega) (by omega) ?_
      intro A3 U3
      exact tl (NFc.st U3 (.inl rfl)) (R2.st U3 trivial) (fun o ho => U3.2.2 36 o (by omega))
theorem s_nextMinute_5 (e8 : P 36 8 = h) (hk : c_kind h = 6) (R : Rc F A) : ∀ {n : Nat} {x1 x2 : Int32}, 0 ≤ x2.toInt ∧ x2.toInt ≤ 6 → 7 - x2.toInt < (n : Int) → ok (e_Sleep_nextMinute_5 n P F A J x1 x2) (fun r => r.2 = (P, F, A, J)) := by
  intro n
  induction n with
  | zero => intro x1 x2 hx hn; exact absurd hn (by omega)
  | succ n ih =>
    intro x1 x2 hx hn
    have l1 : (1 : Int32).toInt = 1 := by decide
    have rm : 0 ≤ (F h 17).toInt ∧ (F h 17).toInt ≤ 6 := by have := R.1 h 17; rw [hk] at this; exact this
    unfold e_Sleep_nextMinute_5
    rw [e8]
    refine ok_chk hk ?_
    refine ok_cond (fun _ => ok_some rfl) (fun c => ?_)
    rw [i_nge] at c
    have e2 := i_add (x := x2) (y := 1) (by omega) (by omega)
    refine ok_ldn (by omega) (by omega) (fun v3 => ?_)
    exact ih (by omega) (by omega)
theorem s_nextMinute {n : Nat} (e8 : P 36 8 = h) (hk : c_kind h = 6) (R : Rc F A) (hn : 10 ≤ n) : ok (e_Sleep_nextMinute n P F A J) (fun r => r.2 = (P, F, A, J)) := by
  have l0 : (0 : Int32).toInt = 0 := by decide
  unfold e_Sleep_nextMinute
  exact s_nextMinute_5 e8 hk R (by decide) (by omega)
end S90
