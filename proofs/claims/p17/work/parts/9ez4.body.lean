section H9ez4
variable {n m : Nat} {h q r r' j : Nat} {t s b k l N x nm : Int} {ex : Prop} {P : Nat → Nat → Nat} {F F' : Nat → Nat → Int32} {A A' A1 A2 : Nat → Nat → Nat → Int32} {J : Nat → Nat → Nat → Int64} {Fm Fm' Fm1 : Nat → Int32} {Am Am' Am1 Am2 : Nat → Nat → Int32} {Jm : Nat → Nat → Int64} {x1 x2 x3 x4 x5 y1 y2 y3 y4 : Int32}
/-- the tool of the step that a man does, in the reference -/
def TUm (Fm : Nat → Int32) (Am : Nat → Nat → Int32) (m : Int) : Int := ai Am 27 (6 * (6 * (Fm 18).toInt + ai Am 48 (42 + m)) + ai Am 53 m)
theorem v_inUse2 (hs : 0 ≤ (Fm 18).toInt ∧ (Fm 18).toInt ≤ 1) (hm : ai Am 29 (Fm 18).toInt ≤ 6) (hB : ∀ m, 0 ≤ m → m < ai Am 29 (Fm 18).toInt → ai Am 50 m = 2 → (0 ≤ ai Am 48 (42 + m) ∧ ai Am 48 (42 + m) ≤ 6) ∧ (0 ≤ ai Am 53 m ∧ ai Am 53 m ≤ 6)) : ∀ {n : Nat} {x3 : Int32}, 0 ≤ x3.toInt → po (d_isInUse_2 n Fm Am Jm x1 x2 x3) (fun v => (v.toInt = 1 ∧ ∃ m, 0 ≤ m ∧ m < ai Am 29 (Fm 18).toInt ∧ m ≠ x2.toInt ∧ ai Am 50 m = 2 ∧ TUm Fm Am m = x1.toInt) ∨ (v.toInt = 0 ∧ ∀ m, x3.toInt ≤ m → m < ai Am 29 (Fm 18).toInt → m ≠ x2.toInt → ai Am 50 m = 2 → TUm Fm Am m ≠ x1.toInt)) := by
  intro n
  induction n with
  | zero => intro x3 _ r hr; cases hr
  | succ n ih =>
    intro x3 h0
    unfold d_isInUse_2
    refine po_call v_menNow ?_
    intro v1 e1
    refine po_cond (fun c => po_some (.inr ⟨i_0, fun m m0 m1 => ?_⟩)) (fun c => ?_)
    · rw [i_ge] at c
      omega
    rw [i_nge] at c
    have e3 := i_add (x := x3) (y := 1) (by rw [i_1]; omega) (by rw [i_1]; omega)
    rw [i_1] at e3
    have go : ∀ (p : (x3.toInt ≠ x2.toInt → ai Am 50 x3.toInt = 2 → TUm Fm Am x3.toInt ≠ x1.toInt)), po (d_isInUse_55 (d_isInUse_2 n) n Fm Am Jm x1 x2 x3) (fun v => (v.toInt = 1 ∧ ∃ m, 0 ≤ m ∧ m < ai Am 29 (Fm 18).toInt ∧ m ≠ x2.toInt ∧ ai Am 50 m = 2 ∧ TUm Fm Am m = x1.toInt) ∨ (v.toInt = 0 ∧ ∀ m, x3.toInt ≤ m → m < ai Am 29 (Fm 18).toInt → m ≠ x2.toInt → ai Am 50 m = 2 → TUm Fm Am m ≠ x1.toInt)) := fun p => by
      unfold d_isInUse_55
      refine po_mono (ih (by omega)) (fun v hv => hv.imp id (fun hv => ⟨hv.1, fun m m0 m1 => ?_⟩))
      by_cases e : m = x3.toInt
      · rw [e]
        exact p
      · exact hv.2 m (by omega) m1
    refine po_cond (fun c2 => ?_) (fun c2 => ?_)
    · rw [i_eq] at c2
      exact go (fun h => absurd c2 h)
    rw [i_neq] at c2
    refine po_bl (fun v4 h4 => ?_)
    have g4 := (gm h4).2.2
    refine po_cond (fun c4 => ?_) (fun c4 => ?_)
    · rw [i_ne, show (2 : Int32).toInt = 2 by decide] at c4
      exact go (fun _ h => by omega)
    rw [i_nne, show (2 : Int32).toInt = 2 by decide] at c4
    refine po_bl (fun v6 h6 => po_bl (fun v7 h7 => ?_))
    have i42 := kx1 (c := 42) (x := x3) (k := 42) (by decide) (by decide) (by omega)
    have g6 := (gm h6).2.2
    have g7 := (gm h7).2.2
    rw [i42] at g6
    obtain ⟨b1, b2⟩ := hB x3.toInt h0 (by omega) (by omega)
    refine po_call (v_stepAt hs (by omega) (by omega)) ?_
    intro v8 e8
    refine po_bl (fun v9 h9 => ?_)
    have g9 := (gm h9).2.2
    have tl : v9.toInt = TUm Fm Am x3.toInt := by
      unfold TUm
      rw [g9, e8, g6, g7]
    refine po_cond (fun c9 => ?_) (fun c9 => ?_)
    · rw [i_ne] at c9
      exact go (fun _ _ h => c9 (by omega))
    · rw [i_nne] at c9
      exact po_some (.inl ⟨i_1, x3.toInt, h0, by omega, c2, by omega, by omega⟩)
/-- who does a step, on both sides -/
theorem MNx.d2 {m : Int} (M : MNx N h A Am k l m) : (ai Am 50 m = 2 → 0 ≤ ai Am 48 (42 + m) ∧ ci A 36 4 m = ai Am 53 m ∧ 0 ≤ ai Am 53 m ∧ ai Am 53 m < ci A h 5 (ai Am 48 (42 + m))) ∧ (0 ≤ ci A 36 4 m → ai Am 50 m = 2) := by
  obtain ⟨-, -, M⟩ := M
  rcases M with ⟨m1, m2, m3, m4, m5, m6⟩ | ⟨m1, m2, m3, m4, M⟩
  · exact ⟨fun h => by omega, fun h => by omega⟩
  · rcases M with ⟨a, b, c, d⟩ | ⟨a, b, c, d, e, f⟩ | ⟨a, b, c⟩
    · exact ⟨fun h => by omega, fun h => by omega⟩
    · exact ⟨fun _ => ⟨m1, c, d, e⟩, fun _ => a⟩
    · exact ⟨fun h => by omega, fun h => by omega⟩
/-- the tool of a man's step, on both sides -/
theorem tl_eq {m : Int} (H : NHx h F A Fm Am) (S : SBx ex h q F A Am 48 0) (m0 : 0 ≤ m) (m1 : m < (F h 17).toInt) (D : 0 ≤ ai Am 48 (42 + m) ∧ ci A 36 4 m = ai Am 53 m ∧ 0 ≤ ai Am 53 m ∧ ai Am 53 m < ci A h 5 (ai Am 48 (42 + m))) : ai Am 48 (42 + m) < (F h 16).toInt ∧ ci A q 3 m / 6 = ai Am 48 (42 + m) ∧ NNx (TUc h q A m) (TUm Fm Am m) := by
  obtain ⟨d1, d2, d3, d4⟩ := D
  obtain ⟨s1, -⟩ := S.mn m0 m1
  rcases s1 with ⟨-, e, -⟩ | ⟨t0, t1, u0, u1, e⟩
  · omega
  have s6 := H.s6 t0
  have e6 : ci A q 3 m / 6 = ai Am 48 (42 + m) := by omega
  refine ⟨t1, e6, ?_⟩
  unfold TUc TUm
  rw [e6, d2]
  exact (H.row t0 t1 d3 d4).2.2.2.2.1
/-- both sides ask whether a tool is in use -/
theorem in_use {v : Int} (H : NHx h F A Fm Am) (S : SBx ex h q F A Am 48 0) (C : CVx h q (F h 17).toInt A) (D : ∀ m, 0 ≤ m → m < (F h 17).toInt → (ai Am 50 m = 2 → 0 ≤ ai Am 48 (42 + m) ∧ ci A 36 4 m = ai Am 53 m ∧ 0 ≤ ai Am 53 m ∧ ai Am 53 m < ci A h 5 (ai Am 48 (42 + m))) ∧ (0 ≤ ci A 36 4 m → ai Am 50 m = 2)) (v0 : 0 ≤ v) (v6 : v < 6) (d0 : ci A 36 4 x = -1) : ci A 36 8 v ≠ 0 ↔ ∃ m, 0 ≤ m ∧ m < (F h 17).toInt ∧ m ≠ x ∧ ai Am 50 m = 2 ∧ TUm Fm Am m = v := by
  constructor
  · intro hne
    rcases C.1 v v0 v6 with e | ⟨m, m0, m1, hd, ht⟩
    · exact absurd e hne
    · obtain ⟨D1, D2⟩ := D m m0 m1
      have e2 := D2 hd
      obtain ⟨-, -, nn⟩ := tl_eq H S m0 m1 (D1 e2)
      refine ⟨m, m0, m1, fun e => by rw [e, d0] at hd; omega, e2, ?_⟩
      rcases nn with e | ⟨e, -⟩ <;> omega
  · rintro ⟨m, m0, m1, hm, e2, ht⟩
    obtain ⟨D1, D2⟩ := D m m0 m1
    have dd := D1 e2
    obtain ⟨-, -, nn⟩ := tl_eq H S m0 m1 dd
    have e : TUc h q A m = v := by rcases nn with e | ⟨-, e⟩ <;> omega
    have := (C.2.1 m m0 m1 (by omega) (by omega)).1
    rw [e] at this
    exact this
/-- a man who is there and does nothing, at minute k -/
theorem p2_begin (H : NHx h F A Fm Am) (hq : c_kind q = 2) (e8 : P 36 8 = h) (e9 : P 36 9 = q) (S : SBx ex h q F A Am 48 0) (C : CVx h q (F h 17).toInt A) (MM : ∀ m, 0 ≤ m → m < (F h 17).toInt → ∃ k', MNx N h A Am k' (k + 1) m) (M : MNx N h A Am k (k + 1) x) (x0 : 0 ≤ x) (x6 : x < (F h 17).toInt) (h50 : ai Am 50 x = 1) (hf : ai Am 51 x ≤ k) (k0 : 0 ≤ k) (kN : k < N) (hN : N ≤ 600) (e1 : x1.toInt = x) (f1 : y1.toInt = x) (e2 : x2.toInt = k) (f2 : y2.toInt = k) : P2 (e_Sleep_begin n P F A J x1 x2) (d_begins1 m Fm Am Jm y1 y2) (BGx ex h q N k x P F A Fm Am) := by
  have ct := H.ct
  have hs := H.sd
  have hk := H.kd
  have hne : h ≠ q := k62 hk hq
  have h36 : h ≠ 36 := k6ne hk
  have q36 : q ≠ 36 := k2ne hq
  have exy : x2 = y2 := i_ext (by omega)
  obtain ⟨M6, M7, M⟩ := M
  have MA : 0 ≤ ai Am 48 (42 + x) ∧ ci A 36 5 x = ai Am 54 x ∧ 0 ≤ ai Am 54 x ∧ ai Am 54 x < ci A h 5 (ai Am 48 (42 + x)) ∧ ai Am 56 x = 0 ∧ ci A 36 4 x = -1 ∧ ci A 36 3 x = k := by
    rcases M with ⟨m1, m2, m3, m4, m5, m6⟩ | ⟨m1, m2, m3, m4, M⟩
    · omega
    · rcases M with ⟨a, b, c, d⟩ | ⟨a, b, c, d, e, f⟩ | ⟨a, b, c⟩
      · exact ⟨m1, m2, m3, m4, b, c, by omega⟩
      · omega
      · omega
  obtain ⟨t0, el5, u0, u1, be0, d0, due⟩ := MA
  obtain ⟨t, et⟩ : ∃ t, ai Am 48 (42 + x) = t := ⟨_, rfl⟩
  obtain ⟨u, eu⟩ : ∃ u, ai Am 54 x = u := ⟨_, rfl⟩
  rw [et] at t0 u1
  rw [eu] at u0 u1 el5
  have LY : LYx h A Am x := ⟨M6, M7, by omega, by omega, by omega, by rw [et]; omega, d0⟩
  have t1 : t < (F h 16).toInt ∧ ci A q 3 x / 6 = t ∧ 0 ≤ ci A q 3 x := by
    obtain ⟨s1, -⟩ := S.mn x0 x6
    rw [et] at s1
    rcases s1 with ⟨-, e, -⟩ | ⟨_, t1, w0, w1, e⟩
    · omega
    · have s6 := H.s6 t0
      exact ⟨t1, by omega, by omega⟩
  obtain ⟨t1, eq6, eq0⟩ := t1
  have s6 := H.s6 t0
  have DD : ∀ m, 0 ≤ m → m < (F h 17).toInt → (ai Am 50 m = 2 → 0 ≤ ai Am 48 (42 + m) ∧ ci A 36 4 m = ai Am 53 m ∧ 0 ≤ ai Am 53 m ∧ ai Am 53 m < ci A h 5 (ai Am 48 (42 + m))) ∧ (0 ≤ ci A 36 4 m → ai Am 50 m = 2) := fun m m0 m1 => by
    obtain ⟨k', w⟩ := MM m m0 m1
    exact w.d2
  have i42 := kx1 (c := 42) (x := y1) (k := 42) (by decide) (by decide) (by omega)
  unfold e_Sleep_begin d_begins1
  refine p2_bl (fun _ hk => ?_)
  obtain rfl := (gg_chk hk).2.symm
  try rw [e9]
  refine p2_bl (fun v2 h2 => p2_bl (fun v3 h3 => p2_bl (fun _ hk => ?_)))
  obtain rfl := (gg_chk hk).2.symm
  try rw [e8]
  refine p2_bl (fun _ hk => ?_)
  obtain rfl := (gg_chk hk).2.symm
  try rw [e9]
  refine p2_br (fun w1 k1 => ?_)
  have g2 := (gl h2).2.2
  rw [e1] at g2
  have g3 : v3.toInt = t := by rw [gg_div6 h3, i_div6 (by omega), g2, eq6]
  have a1 := (gm k1).2.2
  rw [i42, f1, et] at a1
  refine p2_call (p2_ended H S t0 t1 a1 g3) ?_
  rintro v6 _ ⟨rfl, alt⟩
  rcases alt with hv | ⟨hv, -⟩
  · -- the task is ended
    obtain rfl : v6 = 1 := i_ext (by rw [hv]; decide)
    refine p2_cl (fun _ => ?_) (fun c => absurd c (by decide))
    refine p2_cr (fun c => absurd c (by decide)) (fun _ => ?_)
    unfold e_Sleep_begin_44
    refine p2_cl (fun c => absurd c (by decide)) (fun _ => ?_)
    unfold e_Sleep_begin_59
    refine p2_bl (fun A49 h49 => ?_)
    refine p2_br (fun B13 k13 => ?_)
    have U := (gg_cst h49).2.2
    have M := gg_st k13
    rw [e1] at U
    rw [f1] at M
    have v1 : (vp_nar .boolean 1).toInt = 1 := by decide
    rw [v1] at M
    rw [i_1] at U
    have H' : NHx h F A49 Fm B13 := H.fr (fun _ => rfl) (fun o _ => U.2.2 h o (fun e => h36 e.1)) rfl (fun q _ _ => M.2.2.1 q (by omega))
    have S' : SBx ex h q F A49 B13 48 0 := S.cg rfl rfl (U.2.2 h 5 (fun e => h36 e.1)) (fun o _ _ => U.2.2 q o (fun e => q36 e.1)) (M.2.2.1 48 (by decide))
    have C' : CVx h q (F h 17).toInt A49 := C.cg (U.2.2 h 10 (fun e => h36 e.1)) (U.2.2 h 4 (fun e => h36 e.1)) (U.2.2 q 3 (fun e => q36 e.1)) (U.2.2 q 4 (fun e => q36 e.1)) (U.2.2 36 4 (fun e => absurd e.2 (by decide))) (U.2.2 36 8 (fun e => absurd e.2 (by decide)))
    have L' : LYx h A49 B13 x := by
      obtain ⟨l1, l2, l4, l5, l6, l7, l8⟩ := LY
      unfold LYx
      rw [ci_fr (U.2.2 36 6 (fun e => absurd e.2 (by decide))), U.1, ci_fr (U.2.2 36 5 (fun e => absurd e.2 (by decide))), ci_fr (U.2.2 36 4 (fun e => absurd e.2 (by decide))), ci_fr (U.2.2 h 5 (fun e => h36 e.1)), ai_fr (M.2.2.1 55 (by decide)), M.2.2.2.1, ai_fr (M.2.2.1 48 (by decide)), ai_fr (M.2.2.1 54 (by decide))]
      exact ⟨l1, ⟨rfl, .inr rfl⟩, l4, l5, l6, l7, l8⟩
    refine p2_call (p2_lie (k := k) H'.kd hq (by omega) e9 S' C' L' x0 (by omega) (N := N) (by omega) e1 f1 exy) ?_
    rintro ⟨_, P51, F52, A53, J54⟩ ⟨_, F15, A16, J17⟩ B
    refine p2_some (BGx.go (A1 := A49) (Fm1 := Fm) (Am1 := B13) (FBx.s36 U (.inr (.inr rfl))) ⟨fun _ _ => rfl, fun j hj => M.2.2.1 j (fun e => hj (by rw [e]; decide)), fun j hj m m0 hm => ?_, fun i _ _ => by rw [ai_fr (M.2.2.1 48 (by decide))]⟩ B)
    by_cases e : j = 56
    · subst e
      exact M.2.2.2.2 m m0 hm
    · rw [ai_fr (M.2.2.1 j e)]
  · -- it is not
    obtain rfl : v6 = 0 := i_ext (by rw [hv]; decide)
    refine p2_cl (fun c => absurd c (by decide)) (fun _ => ?_)
    refine p2_cr (fun _ => ?_) (fun c => absurd c (by decide))
    refine p2_bl (fun _ hk => ?_)
    obtain rfl := (gg_chk hk).2.symm
    try rw [e9]
    refine p2_bl (fun v9 h9 => ?_)
    have g9 := (gl h9).2.2
    rw [g3] at g9
    have sf := S.sf t0 (by omega)
    refine p2_cl (fun c => ?_) (fun c => ?_)
    · -- there is stuff
      rw [i_gt, i_0] at c
      refine p2_call (p2_chosen (n := n) (m := m) (J := J) (Jm := Jm) H S hq e8 e9 x0 x6 t0 t1 u0 u1 et eu el5 M6 e1 f1 g3 exy) ?_
      rintro ⟨v11, P12, F13, A14, J15⟩ ⟨w4, Fm5, A6, Jm7⟩ ⟨e11, ⟨c0, c1⟩, ⟨eP, eF, oA⟩, oF, oB⟩
      dsimp only at e11 c0 c1 eP eF oA oF oB ⊢
      subst e11
      rw [eP, eF]
      have aq : ∀ o, A14 q o = A q o := fun o => oA q o (fun e => q36 e.1) (fun e => hne e.1.symm)
      have ah : ∀ o, o ≠ 17 → A14 h o = A h o := fun o ho => oA h o (fun e => h36 e.1) (fun e => ho e.2)
      have a36 : ∀ o, o ≠ 9 → A14 36 o = A 36 o := fun o ho => oA 36 o (fun e => ho e.2) (fun e => h36 e.1.symm)
      have H' : NHx h F A14 Fm5 A6 := H.fr (fun _ => rfl) ah (oF 18 (by decide)) (fun q _ _ => oB q (by omega) (by omega))
      have S' : SBx ex h q F A14 A6 48 0 := S.cg rfl rfl (ah 5 (by decide)) (fun o _ _ => aq o) (oB 48 (by decide) (by decide))
      have C' : CVx h q (F h 17).toInt A14 := C.cg (ah 10 (by decide)) (ah 4 (by decide)) (aq 3) (aq 4) (a36 4 (by decide)) (a36 8 (by decide))
      have L' : LYx h A14 A6 x := by
        unfold LYx
        rw [ci_fr (a36 6 (by decide)), ci_fr (a36 7 (by decide)), ci_fr (a36 5 (by decide)), ci_fr (a36 4 (by decide)), ci_fr (ah 5 (by decide)), ai_fr (oB 55 (by decide) (by decide)), ai_fr (oB 56 (by decide) (by decide)), ai_fr (oB 48 (by decide) (by decide)), ai_fr (oB 54 (by decide) (by decide))]
        exact LY
      have D' : ∀ m, 0 ≤ m → m < (F h 17).toInt → (ai A6 50 m = 2 → 0 ≤ ai A6 48 (42 + m) ∧ ci A14 36 4 m = ai A6 53 m ∧ 0 ≤ ai A6 53 m ∧ ai A6 53 m < ci A14 h 5 (ai A6 48 (42 + m))) ∧ (0 ≤ ci A14 36 4 m → ai A6 50 m = 2) := fun m m0 m1 => by
        rw [ci_fr (a36 4 (by decide)), ci_fr (ah 5 (by decide)), ai_fr (oB 50 (by decide) (by decide)), ai_fr (oB 48 (by decide) (by decide)), ai_fr (oB 53 (by decide) (by decide))]
        exact DD m m0 m1
      have go : ∀ {a : cR Unit} {b : mR Unit}, BGx ex h q N k x P F A14 Fm5 A6 a b → BGx ex h q N k x P F A Fm Am a b := fun {a b} B => BGx.go ⟨fun r o h1 _ h3 => oA r o (fun e => h1 ⟨e.1, by rw [e.2]; simp⟩) h3, fun o ho m _ _ => by rw [ci_fr (a36 o (by omega))]⟩ ⟨oF, fun j hj => oB j (fun e => hj (by rw [e]; decide)) (fun e => hj (by rw [e]; decide)), fun j hj m _ _ => by rw [ai_fr (oB j (by omega) (by omega))], fun i _ _ => by rw [ai_fr (oB 48 (by decide) (by decide))]⟩ B
      have hs' := H'.sd
      refine p2_mono (R := BGx ex h q N k x P F A14 Fm5 A6) ?_ (fun a b B => go B)
      refine p2_r (v_stepAt hs' (by omega) (by omega)) ?_
      intro w8 q8
      refine p2_bl (fun _ hk => ?_)
      obtain rfl := (gg_chk hk).2.symm
      try rw [e8]
      refine p2_bl (fun v17 h17 => p2_br (fun w9 k9 => ?_))
      have c1' : v11.toInt < ci A14 h 5 t := by rw [ci_fr (ah 5 (by decide))]; exact c1
      have cx := cx6 (x := v3) (y := v11) (by omega) (by omega)
      have g17 := (gl h17).2.2
      rw [cx, g3] at g17
      have a9 := (gm k9).2.2
      rw [q8, a1] at a9
      have nn := (H'.row t0 t1 c0 c1').2.2.2.2.1
      rw [← g17, ← a9] at nn
      have v5 := (H'.hy.2.2.1 t v11.toInt t0 t1 c0 c1').2.2.2.2.1
      rw [← g17] at v5
      have et' : ai A6 48 (42 + x) = t := by rw [ai_fr (oB 48 (by decide) (by decide))]; exact et
      have el' : ci A14 q 3 x / 6 = t := by rw [ci_fr (aq 3)]; exact eq6
      have hf' : ai A6 51 x ≤ k := by rw [ai_fr (oB 51 (by decide) (by decide))]; exact hf
      have be' : ai A6 56 x = 0 := by rw [ai_fr (oB 56 (by decide) (by decide))]; exact be0
      have st' : 0 < ci A14 q 2 t := by rw [ci_fr (aq 2)]; omega
      have d0' : ci A14 36 4 x = -1 := by rw [ci_fr (a36 4 (by decide))]; exact d0
      have w31 : ∀ {v : Int32}, m_ld (A6 48) 100 w1 = some v → v.toInt = ci A14 q 2 t := fun {v} h => by
        rw [(gm h).2.2, a1]
        exact ((S'.sf t0 (by omega)).1).symm
      -- the tool is there, or none is wanted
      refine p2_cl (fun c7 => ?_) (fun c7 => ?_)
      · rw [i_lt, i_0] at c7
        refine p2_cr (fun _ => ?_) (fun c8 => ?_)
        · unfold d_begins1_76 d_begins1_81
          refine p2_br (fun w18 k18 => ?_)
          have z18 := w31 k18
          refine p2_cr (fun c9 => ?_) (fun _ => ?_)
          · rw [i_eq, i_0] at c9
            omega
          refine p2_cr (fun _ => ?_) (fun c9 => absurd c9 (by decide))
          unfold d_begins1_131
          refine p2_cr (fun _ => ?_) (fun c9 => absurd c9 (by decide))
          exact p2_go (v := v17.toInt) H' hq e8 e9 S' L' be' hf' x0 x6 t0 t1 c0 c1' et' el' st' g17.symm k0 (by omega) e1 f1 e2 f2 g3 a1 rfl rfl (fun {A'} z1 z2 z3 z4 z5 z6 z7 => C'.beg (v := v17.toInt) x0 x6 z1 z2 z3 z4 d0' z5 (by unfold TUc; rw [ci_fr z1, ci_fr z3, el', z6]; exact g17.symm) (by omega) (.inl ⟨c7, z7⟩))
        · rw [i_nlt, i_0] at c8
          rcases nn with e | ⟨-, e⟩ <;> omega
      · rw [i_nlt, i_0] at c7
        have w9v : w9.toInt = v17.toInt := by rcases nn with e | ⟨e, -⟩ <;> omega
        refine p2_cr (fun c8 => ?_) (fun _ => ?_)
        · rw [i_lt, i_0] at c8
          omega
        refine p2_bl (fun _ hk => ?_)
        obtain rfl := (gg_chk hk).2.symm
        try rw [e9]
        refine p2_bl (fun v20 h20 => p2_br (fun w11 k11 => ?_))
        have g20 := (gl h20).2.2
        have i72 := kx1 (c := 72) (x := w9) (k := 72) (by decide) (by decide) (by omega)
        have a11 := (gm k11).2.2
        rw [i72, w9v] at a11
        have tl := S'.tl (k := v17.toInt) c7 (by omega)
        have z20 : v20 = w11 := i_ext (by rw [g20, a11]; exact tl)
        have i100 := kx1 (c := 100) (x := x1) (k := 100) (by decide) (by decide) (by omega)
        have i100' := kx1 (c := 100) (x := y1) (k := 100) (by decide) (by decide) (by omega)
        -- the man begins with the tool, or waits for it
        have tool : ∀ {s0 : Int32} (hp : (s0 = 1 ∧ v20.toInt = 100 + x) ∨ (s0 = 0 ∧ v20.toInt ≠ 100 + x ∧ v20.toInt = ci A14 h 4 t)), P2 (e_Sleep_begin_140 n P F A14 J15 x1 x2 v3 v11 v17) (d_begins1_131 m Fm5 A6 Jm7 y1 y2 w1 v11 w9 s0) (BGx ex h q N k x P F A14 Fm5 A6) := fun {s0} hp => by
          have acc : ci A14 q 4 v17.toInt = 100 + x ∨ ci A14 q 4 v17.toInt = ci A14 h 4 (ci A14 q 3 x / 6) := by
            rw [← g20, el']
            rcases hp with ⟨-, e⟩ | ⟨-, -, e⟩
            · exact .inl e
            · exact .inr e
          have use := in_use (x := x) (v := v17.toInt) H' S' C' D' c7 (by omega) d0'
          unfold e_Sleep_begin_140 d_begins1_131
          refine p2_bl (fun v38 h38 => ?_)
          have g38 := (gl h38).2.2
          -- both begin
          have beg : v38.toInt = 0 → P2 ((c_st A14 36 8 6 v17 1).bind fun A40 => e_Sleep_begin_168 n P F A40 J15 x1 x2 v3 v11) (d_begins1_147 m Fm5 A6 Jm7 y1 y2 w1 v11) (BGx ex h q N k x P F A14 Fm5 A6) := fun h0 => by
            refine p2_bl (fun A40 h40 => ?_)
            have U := (gg_cst h40).2.2
            rw [i_1] at U
            have o : ∀ r o, ¬ (r = 36 ∧ o = 8) → A40 r o = A14 r o := U.2.2
            refine p2_mono (R := BGx ex h q N k x P F A40 Fm5 A6) ?_ (fun a b B => BGx.go (FBx.s8 U) FBm.rfl' B)
            refine p2_go (v := v17.toInt) (H'.fr (fun _ => rfl) (fun p _ => o h p (fun e => h36 e.1)) rfl (fun _ _ _ => rfl)) hq e8 e9 (S'.cg rfl rfl (o h 5 (fun e => h36 e.1)) (fun p _ _ => o q p (fun e => q36 e.1)) rfl) ?_ be' hf' x0 x6 t0 t1 c0 (by rw [ci_fr (o h 5 (fun e => h36 e.1))]; exact c1') et' (by rw [ci_fr (o q 3 (fun e => q36 e.1))]; exact el') (by rw [ci_fr (o q 2 (fun e => q36 e.1))]; exact st') (by rw [ci_fr (o h 10 (fun e => h36 e.1))]; exact g17.symm) k0 (by omega) e1 f1 e2 f2 g3 a1 rfl rfl (fun {A'} z1 z2 z3 z4 z5 z6 z7 => ?_)
            · unfold LYx
              rw [ci_fr (o 36 6 (by decide)), ci_fr (o 36 7 (by decide)), ci_fr (o 36 5 (by decide)), ci_fr (o 36 4 (by decide)), ci_fr (o h 5 (fun e => h36 e.1))]
              exact L'
            · refine C'.beg (v := v17.toInt) x0 x6 (z1.trans (o h 10 (fun e => h36 e.1))) (z2.trans (o h 4 (fun e => h36 e.1))) (z3.trans (o q 3 (fun e => q36 e.1))) (z4.trans (o q 4 (fun e => q36 e.1))) d0' (fun m m0 hm => by rw [z5 m m0 hm, ci_fr (o 36 4 (by decide))]) (by unfold TUc; rw [ci_fr z1, ci_fr z3, ci_fr (o h 10 (fun e => h36 e.1)), ci_fr (o q 3 (fun e => q36 e.1)), el', z6]; exact g17.symm) (by omega) (.inr ⟨c7, by omega, by rw [ci_fr z7, U.1]; decide, fun u u0 hu => by rw [ci_fr z7]; exact U.2.1 u u0 hu, acc⟩)
          rcases hp with ⟨rfl, hp⟩ | ⟨rfl, hp1, hp2⟩
          · -- he has it
            have free : v38.toInt = 0 := by
              rw [g38]
              refine Decidable.byContradiction (fun hne0 => ?_)
              obtain ⟨w, w0, w1', hd, ht⟩ := (C'.1 v17.toInt c7 (by omega)).resolve_left hne0
              obtain ⟨-, ac⟩ := C'.2.1 w w0 w1' hd (by omega)
              rw [ht, ← g20] at ac
              rcases ac with e | e
              · have : w = x := by omega
                rw [this, d0'] at hd
                omega
              · obtain ⟨tt1, tt2, -⟩ := tl_eq H' S' w0 w1' ((D' w w0 w1').1 ((D' w w0 w1').2 hd))
                have r := H'.hy.2.1 (ai A6 48 (42 + w)) ((D' w w0 w1').1 ((D' w w0 w1').2 hd)).1 tt1
                rw [tt2] at e
                omega
            refine p2_cl (fun _ => ?_) (fun c => ?_)
            · refine p2_cr (fun _ => beg free) (fun c => absurd c (by decide))
            · rw [i_neq, i_0] at c
              omega
          · -- it lies there
            refine p2_cr (fun c => absurd c (by decide)) (fun _ => ?_)
            have hm' := H'.men
            have inU : po (d_isInUse m Fm5 A6 Jm7 w9 y1) (fun v => (v.toInt = 1 ∧ ∃ m, 0 ≤ m ∧ m < ai A6 29 (Fm5 18).toInt ∧ m ≠ y1.toInt ∧ ai A6 50 m = 2 ∧ TUm Fm5 A6 m = w9.toInt) ∨ (v.toInt = 0 ∧ ∀ m, (0 : Int32).toInt ≤ m → m < ai A6 29 (Fm5 18).toInt → m ≠ y1.toInt → ai A6 50 m = 2 → TUm Fm5 A6 m ≠ w9.toInt)) := by
              unfold d_isInUse
              refine v_inUse2 hs' (by omega) (fun m m0 m1 h2 => ?_) (by decide)
              have d := (D' m m0 (by omega)).1 h2
              have tt := (tl_eq H' S' m0 (by omega) d).1
              have s6' := H'.s6 d.1
              exact ⟨⟨d.1, by omega⟩, d.2.2.1, by omega⟩
            refine p2_r inU ?_
            intro v29 hv29
            rw [f1, w9v, ← hm'] at hv29
            rcases hv29 with ⟨e, m', w0, w1', w2, w3, w4⟩ | ⟨e, no⟩
            · have hne0 := use.mpr ⟨m', w0, w1', w2, w3, w4⟩
              refine p2_cl (fun c => ?_) (fun _ => ?_)
              · rw [i_eq, i_0] at c
                omega
              refine p2_cr (fun c => ?_) (fun _ => ?_)
              · rw [i_eq, i_0] at c
                omega
              -- both wait
              refine p2_bl (fun A48 h48 => p2_some ?_)
              have U := (gg_cst h48).2.2
              have ek := i_add (x := x2) (y := 1) (by rw [i_1]; omega) (by rw [i_1]; omega)
              rw [i_1] at ek
              rw [e1, ek, e2] at U
              have o : ∀ r o, ¬ (r = 36 ∧ o = 3) → A48 r o = A14 r o := U.2.2
              obtain ⟨l1, l2, l4, l5, l6, l7, l8⟩ := L'
              refine ⟨⟨rfl, rfl⟩, FBx.s36 U (.inl rfl), FBm.rfl', S'.cg rfl rfl (o h 5 (fun e => h36 e.1)) (fun p _ _ => o q p (fun e => q36 e.1)) rfl, C'.cg (o h 10 (fun e => h36 e.1)) (o h 4 (fun e => h36 e.1)) (o q 3 (fun e => q36 e.1)) (o q 4 (fun e => q36 e.1)) (o 36 4 (by decide)) (o 36 8 (by decide)), ?_⟩
              show MNx N h A48 A6 (k + 1) (k + 1) x
              unfold MNx
              rw [ci_fr (o 36 6 (by decide)), ci_fr (o 36 7 (by decide)), ci_fr (o 36 5 (by decide)), ci_fr (o 36 4 (by decide)), ci_fr (o h 5 (fun e => h36 e.1)), U.1]
              refine ⟨l1, l2, .inr ⟨l4, l5, l6, l7, .inl ⟨?_, be', l8, .inl ⟨?_, rfl⟩⟩⟩⟩
              · rw [ai_fr (oB 50 (by decide) (by decide))]; exact h50
              · rw [ai_fr (oB 51 (by decide) (by decide))]; omega
            · have free : v38.toInt = 0 := by
                rw [g38]
                refine Decidable.byContradiction (fun hne0 => ?_)
                obtain ⟨w, w0, w1', w2, w3, w4⟩ := use.mp hne0
                exact no w (by rw [i_0]; exact w0) w1' w2 w3 w4
              refine p2_cl (fun _ => ?_) (fun c => ?_)
              · refine p2_cr (fun _ => beg free) (fun c => ?_)
                rw [i_neq, i_0] at c
                omega
              · rw [i_neq, i_0] at c
                omega
        by_cases eh : v20.toInt = 100 + x
        · refine p2_cl (fun _ => ?_) (fun c => ?_)
          · refine p2_cr (fun c => ?_) (fun _ => ?_)
            · rw [i_ne, i100', f1, ← z20] at c
              omega
            · unfold d_begins1_76 d_begins1_81
              refine p2_br (fun w18 k18 => ?_)
              have z18 := w31 k18
              refine p2_cr (fun c9 => ?_) (fun _ => ?_)
              · rw [i_eq, i_0] at c9
                omega
              refine p2_cr (fun _ => tool (.inl ⟨rfl, eh⟩)) (fun c9 => absurd c9 (by decide))
          · rw [i_neq, i100, e1] at c
            omega
        · refine p2_cl (fun c => ?_) (fun _ => ?_)
          · rw [i_eq, i100, e1] at c
            omega
          refine p2_cr (fun _ => ?_) (fun c => ?_)
          · refine p2_bl (fun _ hk => ?_)
            obtain rfl := (gg_chk hk).2.symm
            try rw [e8]
            refine p2_bl (fun v23 h23 => ?_)
            have g23 := (gl h23).2.2
            rw [g3] at g23
            unfold d_begins1_81
            refine p2_br (fun w18 k18 => ?_)
            have z18 := w31 k18
            refine p2_cr (fun c9 => ?_) (fun _ => ?_)
            · rw [i_eq, i_0] at c9
              omega
            refine p2_cr (fun c9 => absurd c9 (by decide)) (fun _ => ?_)
            refine p2_br (fun w21 k21 => p2_br (fun w22 k22 => ?_))
            have a21 := (gm k21).2.2
            have a22 := (gm k22).2.2
            rw [i72, w9v] at a21
            rw [ix6 hs' (by omega), a1] at a22
            have zr : v23.toInt = w22.toInt := by rw [g23, a22]; exact H'.rm t0 t1
            have zt : v20.toInt = w21.toInt := by rw [g20, a21]; exact tl
            refine p2_cl (fun c => ?_) (fun c => ?_)
            · rw [i_eq] at c
              refine p2_cr (fun _ => tool (.inr ⟨rfl, eh, by omega⟩)) (fun c2 => ?_)
              rw [i_neq] at c2
              omega
            · rw [i_neq] at c
              refine p2_cr (fun c2 => ?_) (fun _ => ?_)
              · rw [i_eq] at c2
                omega
              unfold d_begins1_124
              refine p2_call (p2_lie (k := k) H'.kd hq (by omega) e9 S' C' L' x0 (by omega) (N := N) (by omega) e1 f1 exy) ?_
              rintro ⟨_, P51, F52, A53, J54⟩ ⟨_, F15, A16, J17⟩ B
              exact p2_some B
          · rw [i_nne, i100', f1, ← z20] at c
            omega
    · -- there is none
      rw [i_ngt, i_0] at c
      unfold e_Sleep_begin_44
      refine p2_cl (fun _ => ?_) (fun c2 => absurd c2 (by decide))
      unfold e_Sleep_begin_59
      refine p2_bl (fun A49 h49 => ?_)
      have U := (gg_cst h49).2.2
      rw [e1, i_0] at U
      refine p2_r (tn_d_tells TNx.rfl') ?_
      rintro ⟨w4, Fm5, A6, Jm7⟩ ⟨oF, oB⟩
      dsimp only at oF oB ⊢
      have H' : NHx h F A49 Fm5 A6 := H.fr (fun _ => rfl) (fun o _ => U.2.2 h o (fun e => h36 e.1)) (oF 18 (by decide)) (fun q _ _ => oB q (by omega) (by omega))
      have S' : SBx ex h q F A49 A6 48 0 := S.cg rfl rfl (U.2.2 h 5 (fun e => h36 e.1)) (fun o _ _ => U.2.2 q o (fun e => q36 e.1)) (oB 48 (by decide) (by decide))
      have C' : CVx h q (F h 17).toInt A49 := C.cg (U.2.2 h 10 (fun e => h36 e.1)) (U.2.2 h 4 (fun e => h36 e.1)) (U.2.2 q 3 (fun e => q36 e.1)) (U.2.2 q 4 (fun e => q36 e.1)) (U.2.2 36 4 (fun e => absurd e.2 (by decide))) (U.2.2 36 8 (fun e => absurd e.2 (by decide)))
      have L' : LYx h A49 A6 x := by
        obtain ⟨l1, l2, l4, l5, l6, l7, l8⟩ := LY
        unfold LYx
        rw [ci_fr (U.2.2 36 6 (fun e => absurd e.2 (by decide))), U.1, ci_fr (U.2.2 36 5 (fun e => absurd e.2 (by decide))), ci_fr (U.2.2 36 4 (fun e => absurd e.2 (by decide))), ci_fr (U.2.2 h 5 (fun e => h36 e.1)), ai_fr (oB 55 (by decide) (by decide)), ai_fr (oB 56 (by decide) (by decide)), ai_fr (oB 48 (by decide) (by decide)), ai_fr (oB 54 (by decide) (by decide))]
        exact ⟨l1, ⟨be0.symm, .inl be0⟩, l4, l5, l6, l7, l8⟩
      have lie : P2 ((e_Sleep_lieDown P F A49 J x1 x2).bind fun (_, P51, F52, A53, J54) => some ((), P51, F52, A53, J54)) (d_begins1_124 m Fm5 A6 Jm7 y1 y2) (BGx ex h q N k x P F A Fm Am) := by
        unfold d_begins1_124
        refine p2_call (p2_lie (k := k) H'.kd hq (by omega) e9 S' C' L' x0 (by omega) (N := N) (by omega) e1 f1 exy) ?_
        rintro ⟨_, P51, F52, A53, J54⟩ ⟨_, F15, A16, J17⟩ B
        exact p2_some (BGx.go (A1 := A49) (Fm1 := Fm5) (Am1 := A6) (FBx.s36 U (.inr (.inr rfl))) ⟨oF, fun j hj => oB j (fun e => hj (by rw [e]; decide)) (fun e => hj (by rw [e]; decide)), fun j hj m _ _ => by rw [ai_fr (oB j (by omega) (by omega))], fun i _ _ => by rw [ai_fr (oB 48 (by decide) (by decide))]⟩ B)
      have w31 : ∀ {v : Int32}, m_ld (A6 48) 100 w1 = some v → v.toInt = 0 := fun {v} h => by
        rw [(gm h).2.2, a1, ai_fr (oB 48 (by decide) (by decide)), ← sf.1]
        omega
      have lie81 : ∀ {s0 w9 : Int32}, P2 ((e_Sleep_lieDown P F A49 J x1 x2).bind fun (_, P51, F52, A53, J54) => some ((), P51, F52, A53, J54)) (d_begins1_81 m Fm5 A6 Jm7 y1 y2 w1 w4 w9 s0) (BGx ex h q N k x P F A Fm Am) := fun {s0 w9} => by
        unfold d_begins1_81
        refine p2_br (fun w18 k18 => ?_)
        have z18 := w31 k18
        refine p2_cr (fun _ => lie) (fun c9 => ?_)
        rw [i_neq, i_0] at c9
        omega
      refine p2_br (fun w8 _ => p2_br (fun w9 _ => ?_))
      refine p2_cr (fun _ => ?_) (fun _ => ?_)
      · unfold d_begins1_76
        exact lie81
      · refine p2_br (fun w11 _ => ?_)
        refine p2_cr (fun _ => lie81) (fun _ => ?_)
        unfold d_begins1_76
        exact lie81
end H9ez4
