/-! the class: nights, evenings, what is held, the tape -/
theorem i_rem20 {v : Int32} (h : 0 ≤ v.toInt) : (v - v / 20 * 20).toInt = v.toInt % 20 := by
  have r := i_rng v
  have e : (20 : Int32).toInt = 20 := by decide
  have d : (v / 20).toInt = v.toInt / 20 := by
    rw [Int32.toInt_div, e, Int.tdiv_eq_ediv_of_nonneg h]
    exact Int.bmod_eq_of_le (by omega) (by omega)
  have m := i_mulR (c := 20) (k := 20) (x := v / 20) (by decide) (by omega) (by omega)
  have s := i_sub (x := v) (y := v / 20 * 20) (by omega) (by omega)
  omega
theorem i_nat {x : Int32} (h : 0 ≤ x.toInt) : x = Int32.ofNat x.toInt.toNat := by
  have r := i_rng x
  refine i_ext ?_
  rw [Int32.toInt_ofNat_of_lt (by omega)]
  omega
theorem b_hold : ∀ a : Fin 8, ∀ x s : Fin 3, ((Int32.ofNat a.val ||| (1 <<< (Int32.ofNat x.val &&& 31))) &&& (1 <<< (Int32.ofNat s.val &&& 31))) ≠ 0 → s.val = x.val ∨ (Int32.ofNat a.val &&& (1 <<< (Int32.ofNat s.val &&& 31))) ≠ 0 := by decide
theorem b_rng : ∀ a : Fin 8, ∀ x : Fin 3, 0 ≤ (Int32.ofNat a.val ||| (1 <<< (Int32.ofNat x.val &&& 31))).toInt ∧ (Int32.ofNat a.val ||| (1 <<< (Int32.ofNat x.val &&& 31))).toInt ≤ 7 := by decide
theorem b_none : ∀ s : Fin 3, ((0 : Int32) &&& (1 <<< (Int32.ofNat s.val &&& 31))) = 0 := by decide
section C95
variable {P P' : Nat → Nat → Nat} {F F' : Nat → Nat → Int32} {A A' : Nat → Nat → Nat → Int32} {J : Nat → Nat → Nat → Int64}
theorem Gc.n2 (G : Gc P F A) : P 0 8 ≠ 2 := fun e => absurd G.k08 (by rw [e]; decide)
theorem Gc.nk {r : Nat} (G : Gc P F A) (hr : c_kind r = 2) : P 0 8 ≠ r := fun e => absurd G.k08 (by rw [e, hr]; decide)
/-- the past: a state is put there -/
theorem s_push (G : Gc P F A) : ok (e_Past_push P F A J 2) (fun r => r.2.1 = P ∧ Gc r.2.1 r.2.2.1 r.2.2.2.1 ∧ r.2.2.1 1 1 = F 1 1) := by
  have l1 : (1 : Int32).toInt = 1 := by decide
  have l20 : (20 : Int32).toInt = 20 := by decide
  have a1 : 0 ≤ (F 4 1).toInt ∧ (F 4 1).toInt ≤ 19 := G.1.1 4 1
  have a2 : 0 ≤ (F 4 2).toInt ∧ (F 4 2).toInt ≤ 20 := G.1.1 4 2
  unfold e_Past_push
  refine ok_cond (fun c => ?_) (fun c => ?_)
  · rw [i_ne, l20] at c
    have e2 := i_add (x := F 4 2) (y := 1) (by omega) (by omega)
    refine ok_cpf ?_
    intro F2 U2
    have k1 : F2 4 1 = F 4 1 := U2.2 4 1 (by simp)
    have k2 : (F2 4 2).toInt = (F 4 2).toInt + 1 := by rw [U2.1]; omega
    have e3 := i_add (x := F2 4 1) (y := F2 4 2) (by rw [k1]; omega) (by rw [k1]; omega)
    rw [k1] at e3
    have e4 := i_sub (x := F2 4 1 + F2 4 2) (y := 1) (by rw [k1]; omega) (by rw [k1]; omega)
    rw [k1] at e4
    refine ok_rem1 (by decide) ?_
    intro v3 e5
    have d3 : v3.toInt = ((F 4 1).toInt + (F 4 2).toInt) % 20 := by
      rw [e5, i_rem20 (by rw [k1]; omega), k1]
      have : (F 4 1 + F2 4 2 - 1).toInt = (F 4 1).toInt + (F 4 2).toInt := by omega
      rw [this]
    have kk := k_st (m := v3.toInt.toNat) (by omega)
    refine ok_car (by omega) (by omega) kk.1 ?_
    have R2 : Rc F2 A := G.1.pf U2 (show 0 ≤ (F 4 2 + 1).toInt ∧ (F 4 2 + 1).toInt ≤ 20 by omega)
    refine ok_call (s_copy (r1 := 2) kk.1 (by omega) R2) ?_
    rintro ⟨u, P3, F3, A3, J3⟩ ⟨g1, g2, g3, g4, g5⟩
    dsimp only at g1 g2 g3 g4 g5 ⊢
    subst g1
    have hne := G.nk kk.1
    have t1 : F3 4 1 = F 4 1 := (g2 4 1 (by omega)).trans k1
    have t2 : (F3 4 2).toInt = (F 4 2).toInt + 1 := by rw [g2 4 2 (by omega)]; exact k2
    have t3 : ∀ r k, r ≠ 4 → r ≠ 5 + v3.toInt.toNat → F3 r k = F r k := fun r k a b => (g2 r k b).trans (U2.2 r k (fun e => a e.1))
    have G3 : Gc P3 F3 A3 := by
      refine G.mk2 (r0 := 5 + v3.toInt.toNat) g4 rfl rfl rfl (fun q hq k => t3 q k (by omega) (by omega)) (fun q hq o _ => g3 q o (by omega)) (fun r _ _ _ h => g3 r 3 h) (fun m m0 m1 => ?_) (fun u u0 u1 => ?_) (fun s _ h => .inr ?_)
      · rw [g5 m m0 m1]
        exact (G.2.2.2.2.1 m m0 m1).cg (g3 _ 5 hne)
      · unfold cf at u1 ⊢
        rw [t1]
        by_cases e : u = (F 4 2).toInt
        · left
          rw [e, d3]
        · right
          exact ⟨u, u0, by omega, rfl⟩
      · rw [t3 0 10 (by decide) (by omega)] at h
        exact h
    exact ok_some ⟨rfl, G3, t3 1 1 (by decide) (by omega)⟩
  · rw [i_nne, l20] at c
    have e2 := i_add (x := F 4 1) (y := 1) (by omega) (by omega)
    refine ok_rem1 (by decide) ?_
    intro v10 e10
    have d10 : v10.toInt = ((F 4 1).toInt + 1) % 20 := by
      rw [e10, i_rem20 (by omega)]
      have : (F 4 1 + 1).toInt = (F 4 1).toInt + 1 := by omega
      rw [this]
    refine ok_cpf ?_
    intro F2 U2
    have k1 : (F2 4 1).toInt = v10.toInt := by rw [U2.1]
    have k2 : F2 4 2 = F 4 2 := U2.2 4 2 (by simp)
    unfold e_Past_push_35
    have e3 := i_add (x := F2 4 1) (y := F2 4 2) (by rw [k2]; omega) (by rw [k2]; omega)
    rw [k2] at e3
    have e4 := i_sub (x := F2 4 1 + F2 4 2) (y := 1) (by rw [k2]; omega) (by rw [k2]; omega)
    rw [k2] at e4
    refine ok_rem1 (by decide) ?_
    intro v3 e5
    have d3 : v3.toInt = (v10.toInt + 19) % 20 := by
      rw [e5, i_rem20 (by rw [k2]; omega), k2]
      have : (F2 4 1 + F 4 2 - 1).toInt = v10.toInt + 19 := by omega
      rw [this]
    have kk := k_st (m := v3.toInt.toNat) (by omega)
    refine ok_car (by omega) (by omega) kk.1 ?_
    have R2 : Rc F2 A := G.1.pf U2 (show 0 ≤ v10.toInt ∧ v10.toInt ≤ 19 by omega)
    refine ok_call (s_copy (r1 := 2) kk.1 (by omega) R2) ?_
    rintro ⟨u, P3, F3, A3, J3⟩ ⟨g1, g2, g3, g4, g5⟩
    dsimp only at g1 g2 g3 g4 g5 ⊢
    subst g1
    have hne := G.nk kk.1
    have t1 : (F3 4 1).toInt = v10.toInt := by rw [g2 4 1 (by omega)]; exact k1
    have t2 : (F3 4 2).toInt = 20 := by rw [g2 4 2 (by omega), k2]; exact c
    have t3 : ∀ r k, r ≠ 4 → r ≠ 5 + v3.toInt.toNat → F3 r k = F r k := fun r k a b => (g2 r k b).trans (U2.2 r k (fun e => a e.1))
    have G3 : Gc P3 F3 A3 := by
      refine G.mk2 (r0 := 5 + v3.toInt.toNat) g4 rfl rfl rfl (fun q hq k => t3 q k (by omega) (by omega)) (fun q hq o _ => g3 q o (by omega)) (fun r _ _ _ h => g3 r 3 h) (fun m m0 m1 => ?_) (fun u u0 u1 => ?_) (fun s _ h => .inr ?_)
      · rw [g5 m m0 m1]
        exact (G.2.2.2.2.1 m m0 m1).cg (g3 _ 5 hne)
      · unfold cf at u1 ⊢
        rw [t1]
        by_cases e : u = 19
        · left
          rw [e, d3]
        · right
          exact ⟨u + 1, by omega, by omega, by omega⟩
      · rw [t3 0 10 (by decide) (by omega)] at h
        exact h
    exact ok_some ⟨rfl, G3, t3 1 1 (by decide) (by omega)⟩
/-- now is another state, as good -/
theorem Gc.now {r1 : Nat} {f : Int → Int} {r : Unit × (Nat → Nat → Nat) × (Nat → Nat → Int32) × (Nat → Nat → Nat → Int32) × (Nat → Nat → Nat → Int64)} {F0 : Nat → Nat → Int32} (G : Gc P F A) (h : CPc P F0 A 2 f r) (hf : ∀ m, 0 ≤ m → m < 6 → LVx A (P 0 8) (f m)) (t3 : ∀ r k, r ≠ 4 → F0 r k = F r k) (t1 : F0 4 1 = F 4 1) (t2 : cf F0 4 2 ≤ cf F 4 2) : Gc P r.2.2.1 r.2.2.2.1 ∧ r.2.2.1 1 1 = F 1 1 := by
  obtain ⟨g1, g2, g3, g4, g5⟩ := h
  refine ⟨G.mk2 (r0 := 2) g4 rfl rfl rfl (fun q hq k => (g2 q k (by omega)).trans (t3 q k (by omega))) (fun q hq o _ => g3 q o (by omega)) (fun r _ _ _ h => g3 r 3 h) (fun m m0 m1 => ?_) (fun u u0 u1 => .inr ⟨u, u0, ?_, ?_⟩) (fun s _ h => .inr ?_), (g2 1 1 (by decide)).trans (t3 1 1 (by decide))⟩
  · rw [g5 m m0 m1]
    exact (hf m m0 m1).cg (g3 _ 5 G.n2)
  · unfold cf at u1 t2 ⊢
    rw [g2 4 2 (by decide)] at u1
    omega
  · unfold cf
    rw [g2 4 1 (by decide), t1]
  · rw [g2 0 10 (by decide), t3 0 10 (by decide)] at h
    exact h
theorem s_cUndo (G : Gc P F A) : ok (e_SleepWork_undo P F A J) (CAc P F A) := by
  have l0 : (0 : Int32).toInt = 0 := by decide
  have l1 : (1 : Int32).toInt = 1 := by decide
  have a1 : 0 ≤ (F 4 1).toInt ∧ (F 4 1).toInt ≤ 19 := G.1.1 4 1
  have a2 : 0 ≤ (F 4 2).toInt ∧ (F 4 2).toInt ≤ 20 := G.1.1 4 2
  unfold e_SleepWork_undo e_Past_pull
  have rest : ∀ {v : Int32} {F3 A3 J3}, Gc P F3 A3 → F3 1 1 = F 1 1 → ok (cond (g_cnd .ne v 0) ((e_Evening_setStale P F3 A3 J3).bind fun (_, P8, F9, A10, J11) => some ((1 : Int32), P8, F9, A10, J11)) (some ((0 : Int32), P, F3, A3, J3))) (CAc P F A) := fun G3 e => ok_cond (fun _ => ca_stale G3 (pe e)) (fun _ => ok_some ⟨G3, pe e⟩)
  have pull : ok (cond (g_cnd .ne (F 4 2) 0) ((c_pf F 4 2 ((F 4 2) - 1)).bind fun F2 => (m_rem ((F2 4 1) + (F2 4 2)) 20).bind fun v3 => (c_ar 20 5 2 v3).bind fun q4 => (e_State_copy P F2 A J 2 q4).bind fun (_, P6, F7, A8, J9) => some ((1 : Int32), P6, F7, A8, J9)) (some (0, P, F, A, J))) (fun r => r.2.1 = P ∧ Gc P r.2.2.1 r.2.2.2.1 ∧ r.2.2.1 1 1 = F 1 1) := by
    refine ok_cond (fun c => ?_) (fun _ => ok_some ⟨rfl, G, rfl⟩)
    rw [i_ne, l0] at c
    have e2 := i_sub (x := F 4 2) (y := 1) (by omega) (by omega)
    refine ok_cpf ?_
    intro F2 U2
    have k1 : F2 4 1 = F 4 1 := U2.2 4 1 (by simp)
    have k2 : (F2 4 2).toInt = (F 4 2).toInt - 1 := by rw [U2.1]; omega
    have e3 := i_add (x := F2 4 1) (y := F2 4 2) (by rw [k1]; omega) (by rw [k1]; omega)
    rw [k1] at e3
    refine ok_rem1 (by decide) ?_
    intro v3 e5
    have d3 : v3.toInt = ((F 4 1).toInt + ((F 4 2).toInt - 1)) % 20 := by
      rw [e5, i_rem20 (by rw [k1]; omega), k1]
      have : (F 4 1 + F2 4 2).toInt = (F 4 1).toInt + ((F 4 2).toInt - 1) := by omega
      rw [this]
    have kk := k_st (m := v3.toInt.toNat) (by omega)
    refine ok_car (by omega) (by omega) kk.1 ?_
    have R2 : Rc F2 A := G.1.pf U2 (show 0 ≤ (F 4 2 - 1).toInt ∧ (F 4 2 - 1).toInt ≤ 20 by omega)
    refine ok_call (s_copy (r0 := 2) (r1 := 5 + v3.toInt.toNat) (by decide) (by omega) R2) ?_
    rintro ⟨u, P3, F3, A3, J3⟩ hc
    have hp := hc.1
    dsimp only at hp
    have lv := G.2.2.2.2.2.1 ((F 4 2).toInt - 1) (by omega) (by unfold cf; omega)
    unfold cf at lv
    rw [← d3] at lv
    obtain ⟨G3, e11⟩ := Gc.now (r1 := 2) G hc (fun m m0 m1 => lv m m0 m1) (fun r k h => U2.2 r k (fun e => h e.1)) k1 (by unfold cf; omega)
    exact ok_some ⟨hp, G3, e11⟩
  refine ok_call pull ?_
  rintro ⟨v, P3, F3, A3, J3⟩ ⟨e1, G3, e11⟩
  dsimp only at e1 G3 e11 ⊢
  subst e1
  exact rest G3 e11
theorem s_cNight {n : Nat} (G : Gc P F A) (hn : 1500 ≤ n) : ok (e_SleepWork_night n P F A J) (CAc P F A) := by
  unfold e_SleepWork_night
  refine ok_call (s_push G) ?_
  rintro ⟨u, P2, F2, A2, J2⟩ ⟨g1, G2, e2⟩
  dsimp only at g1 G2 e2 ⊢
  refine ok_chk G2.k08 ?_
  refine ok_call (s_worthOfAll G2.k08 G2.1 (by omega)) ?_
  intro v7 _
  unfold e_Evening_goBy
  have goBy : ok ((c_chk 6 (P2 32 4)).bind fun q1 => (c_chk 6 (P2 32 4)).bind fun q2 => (e_Sleep_goTill n P2 F2 A2 J2 (F2 q1 18) q2 2).bind fun (_, P4, F5, A6, J7) => (c_pf F5 2 8 ((F5 2 8) + 1)).bind fun F8 => (e_Evening_setStale P4 F8 A6 J7).bind fun (_, P10, F11, A12, J13) => some ((), P10, F11, A12, J13)) (fun r => Gc r.2.1 r.2.2.1 r.2.2.2.1 ∧ (r.2.2.1 1 1, r.2.1 32 9) = (F 1 1, P 32 9)) := by
    refine ok_chk G2.k324 ?_
    refine ok_chk G2.k324 ?_
    rw [G2.2.2.1]
    refine ok_call (s_goTill G2.k08 (by decide) G2.1 G2.2.2.2.1 G2.2.2.2.2.1 G2.2.2.2.1.2.2.2.2.2.2 (by omega)) ?_
    rintro ⟨u, P3, F3, A3, J3⟩ ⟨o1, h1, h2, h3, h4, h5⟩
    dsimp only at o1 h1 h2 h3 h4 h5 ⊢
    have G3 : Gc P3 F3 A3 := by
      refine G2.mk2 (r0 := 2) h2 (o1 0 8 (by decide)) (o1 0 9 (by decide)) (o1 32 4 (by decide)) (fun q hq k => h4 q k (by omega)) (fun q hq o ho => h3 q o (by omega) (by omega) (fun _ => ho)) (fun r a _ _ h => h3 r 3 (k2ne a) h (fun e => absurd e.symm (k62 G2.k08 a))) h5 (fun u u0 u1 => .inr ⟨u, u0, ?_, ?_⟩) (fun s _ h => .inr ?_)
      · unfold cf at u1 ⊢
        rw [h4 4 2 (by simp)] at u1
        exact u1
      · unfold cf
        rw [h4 4 1 (by simp)]
      · rw [h4 0 10 (by simp)] at h
        exact h
    refine ok_cpf ?_
    intro F4 U4
    have q4 := (QKc.rfl' (P := P3) G3.1).pf U4 trivial (by decide)
    have G4 := q4.g G3
    refine ok_call (q_stale G4) ?_
    rintro ⟨u5, P5, F5, A5, J5⟩ ⟨-, -, q5⟩
    dsimp only at q5 ⊢
    exact ok_some ⟨q5.g G4, pe2 ((q5.2.2.2.2.2.2 1).trans ((q4.2.2.2.2.2.2 1).trans ((h4 1 1 (by simp)).trans e2))) (((q5.1 32 9 (by decide)).trans (o1 32 9 (by decide))).trans (by rw [g1]))⟩
  refine ok_call goBy ?_
  rintro ⟨u6, P6, F6, A6, J6⟩ ⟨G6, e6⟩
  dsimp only at G6 e6 ⊢
  refine ok_chk G6.k08 ?_
  refine ok_call (s_worthOfAll G6.k08 G6.1 (by omega)) ?_
  intro v14 _
  exact ok_some ⟨G6, e6⟩
theorem s_cGain {n : Nat} (G : Gc P F A) (hn : 1500 ≤ n) : ok (e_SleepWork_gain n P F A J) (CAc P F A) := by
  unfold e_SleepWork_gain e_Evening_gainAsItIs
  have body : ok ((c_chk 6 (P 32 4)).bind fun q1 => (e_House_worthOfAll n P F A J q1 2).bind fun v2 => (c_pf F 32 5 v2).bind fun F3 => (e_State_copy P F3 A J 33 2).bind fun (_, P5, F6, A7, J8) => (e_Evening_gainOfTrial n P5 F6 A7 J8).bind fun (v9, P10, F11, A12, J13) => some (v9, P10, F11, A12, J13)) (CAc P F A) := by
    refine ok_chk G.k324 ?_
    refine ok_call (s_worthOfAll G.k324 G.1 (by omega)) ?_
    intro v2 _
    refine ok_cpf ?_
    intro F3 U3
    have q3 := (QKc.rfl' (P := P) G.1).pf U3 trivial (by decide)
    have G3 := q3.g G
    refine ok_call (q_trial G3) ?_
    rintro ⟨u, P2, F2, A2, J2⟩ ⟨g1, q2, L2, -⟩
    dsimp only at g1 q2 L2 ⊢
    subst g1
    refine ok_call (q_gainOfTrial (q2.g G3) L2 (by omega)) ?_
    rintro ⟨v4, P4, F4, A4, J4⟩ q4
    dsimp only at q4 ⊢
    exact ok_some (QKc.ca G ((q3.tr q2).tr q4))
  refine ok_call body ?_
  rintro ⟨v, P2, F2, A2, J2⟩ hr
  exact ok_some hr
theorem s_codeOf {x0 : Int32} : ok (e_SleepWork_codeOf P F A J x0) (fun _ => True) := by
  unfold e_SleepWork_codeOf
  exact ok_cond (fun _ => ok_div1 (by decide) (fun _ _ => ok_rem1 (by decide) (fun _ _ => ok_some trivial))) (fun _ => ok_some trivial)
theorem s_cBest {n : Nat} {x1 x2 : Int32} (G : Gc P F A) (hn : 1800 ≤ n) : ok (e_SleepWork_best n P F A J x1 x2) (CAc P F A) := by
  have l0 : (0 : Int32).toInt = 0 := by decide
  unfold e_SleepWork_best
  refine ok_call (s_isMan G) ?_
  intro v vp
  refine ok_cond (fun _ => ca0 G) (fun c => ?_)
  rw [i_neq, l0] at c
  have a := vp.resolve_left c
  refine ok_cond (fun _ => ca0 G) (fun _ => ?_)
  refine ok_cond (fun _ => ?_) (fun _ => ca0 G)
  refine ok_call (s_forOne G ⟨by omega, by omega⟩ (by omega)) ?_
  rintro ⟨u, P2, F2, A2, J2⟩ q
  dsimp only at q ⊢
  refine ok_cond (fun _ => ?_) (fun _ => ok_some (QKc.ca G q))
  exact ok_call s_codeOf (fun v _ => ok_some (QKc.ca G q))
theorem s_cBestOfTwo {n : Nat} {x1 x2 x3 : Int32} (G : Gc P F A) (hn : 1800 ≤ n) : ok (e_SleepWork_bestOfTwo n P F A J x1 x2 x3) (CAc P F A) := by
  have l0 : (0 : Int32).toInt = 0 := by decide
  unfold e_SleepWork_bestOfTwo
  refine ok_call (s_areTwoMen G) ?_
  intro v vp
  refine ok_cond (fun _ => ca0 G) (fun c => ?_)
  rw [i_neq, l0] at c
  have a := vp.resolve_left c
  refine ok_cond (fun _ => ca0 G) (fun _ => ?_)
  refine ok_cond (fun _ => ?_) (fun _ => ca0 G)
  refine ok_call (s_forTwo G ⟨by omega, by omega⟩ ⟨by omega, by omega⟩ (by omega)) ?_
  rintro ⟨u, P2, F2, A2, J2⟩ q
  dsimp only at q ⊢
  refine ok_cond (fun _ => ok_cond (fun _ => ?_) (fun _ => ?_)) (fun _ => ok_some (QKc.ca G q))
  · exact ok_call s_codeOf (fun v _ => ok_some (QKc.ca G q))
  · unfold e_SleepWork_bestOfTwo_63
    exact ok_call s_codeOf (fun v _ => ok_some (QKc.ca G q))
theorem s_cHire {n : Nat} {x1 : Int32} (G : Gc P F A) (hn : 1800 ≤ n) : ok (e_SleepWork_hire n P F A J x1) (CAc P F A) := by
  have l0 : (0 : Int32).toInt = 0 := by decide
  unfold e_SleepWork_hire
  refine ok_call (s_isMan G) ?_
  intro v vp
  refine ok_cond (fun c => ?_) (fun _ => ca0 G)
  rw [i_ne, l0] at c
  have a := vp.resolve_left c
  refine ok_call (s_forOne G ⟨by omega, by omega⟩ (by omega)) ?_
  rintro ⟨u, P2, F2, A2, J2⟩ q
  exact ok_some (QKc.ca G q)
theorem s_cHide {n : Nat} {x1 x2 : Int32} (G : Gc P F A) (hn : 1800 ≤ n) : ok (e_SleepWork_hide n P F A J x1 x2) (CAc P F A) := by
  have l0 : (0 : Int32).toInt = 0 := by decide
  unfold e_SleepWork_hide
  refine ok_call (s_isTool G) ?_
  intro v vp
  refine ok_cond (fun _ => ca0 G) (fun c => ?_)
  rw [i_neq, l0] at c
  have a := vp.resolve_left c
  refine ok_chk G.k08 ?_
  refine ok_cond (fun _ => ca0 G) (fun _ => ?_)
  refine ok_cond (fun _ => ca0 G) (fun _ => ?_)
  refine ok_cond (fun _ => ?_) (fun _ => ca0 G)
  refine ok_call (s_hide G ⟨by omega, by omega⟩ (by omega)) ?_
  rintro ⟨u, P2, F2, A2, J2⟩ q
  dsimp only at q ⊢
  exact ok_cond (fun _ => ok_some (QKc.ca G q)) (fun _ => ok_some (QKc.ca G q))
theorem s_cStrokes {n : Nat} {x1 x2 : Int32} (G : Gc P F A) (hn : 1500 ≤ n) : ok (e_SleepWork_strokes n P F A J x1 x2) (CAc P F A) := by
  have l0 : (0 : Int32).toInt = 0 := by decide
  have h6 : (F (P 0 8) 18).toInt ≤ 600 := G.2.2.2.1.2.2.2.2.2.2
  unfold e_SleepWork_strokes
  refine ok_call (s_isMan G) ?_
  intro v vp
  refine ok_cond (fun _ => ca0 G) (fun c => ?_)
  rw [i_neq, l0] at c
  have a := vp.resolve_left c
  refine ok_cond (fun _ => ca0 G) (fun _ => ?_)
  refine ok_chk G.k08 ?_
  refine ok_cond (fun c2 => ?_) (fun _ => ca0 G)
  rw [i_le] at c2
  unfold e_Evening_strokesTill
  have body : ok ((e_State_copy P F A J 33 2).bind fun (_, P2, F3, A4, J5) => (c_chk 6 (P2 32 4)).bind fun q6 => (e_Sleep_goTill n P2 F3 A4 J5 x2 q6 33).bind fun (_, P8, F9, A10, J11) => (m_ld (A10 33 5) 6 x1).bind fun v12 => some (v12, P8, F9, A10, J11)) (CAc P F A) := by
    refine ok_call (q_trial G) ?_
    rintro ⟨u, P2, F2, A2, J2⟩ ⟨g1, q2, L2, -⟩
    dsimp only at g1 q2 L2 ⊢
    subst g1
    have G2 := q2.g G
    refine ok_chk G2.k324 ?_
    refine ok_call (q_goTill G2 L2 (by omega) (by omega)) ?_
    rintro ⟨u3, P3, F3, A3, J3⟩ ⟨q3, -⟩
    dsimp only at q3 ⊢
    exact ok_ldn (by omega) (by omega) (fun v => ok_some (QKc.ca G (q2.tr q3)))
  refine ok_call body ?_
  rintro ⟨v, P2, F2, A2, J2⟩ hr
  exact ok_some hr
theorem s_cTell {x1 x2 x3 : Int32} (G : Gc P F A) : ok (e_SleepWork_tell P F A J x1 x2 x3) (CAc P F A) := by
  have l0 : (0 : Int32).toInt = 0 := by decide
  have l1 : (1 : Int32).toInt = 1 := by decide
  have l30 : (30 : Int32).toInt = 30 := by decide
  have a1 : 0 ≤ (F 25 2).toInt ∧ (F 25 2).toInt ≤ 30 := G.1.1 25 2
  unfold e_SleepWork_tell
  refine ok_chk G.k08 ?_
  refine ok_call (s_hasStep G.k08 G.1) ?_
  intro w wp
  refine ok_cond (fun _ => ca0 G) (fun c2 => ?_)
  rw [i_neq, l0] at c2
  have b := wp.resolve_left c2
  refine ok_cond (fun _ => ca0 G) (fun _ => ?_)
  refine ok_cond (fun _ => ca0 G) (fun _ => ?_)
  unfold e_Told_isFull
  have full : ok (cond (g_cnd .lt (F 25 2) 30) (some (0 : Int32)) (some 1)) (fun v => v.toInt = 1 ∨ (v.toInt = 0 ∧ (F 25 2).toInt < 30)) := by
    refine ok_cond (fun c => ?_) (fun _ => ok_some (.inl l1))
    rw [i_lt] at c
    exact ok_some (.inr ⟨l0, by omega⟩)
  refine ok_call full ?_
  intro v6 v6p
  refine ok_cond (fun c6 => ?_) (fun _ => ca0 G)
  rw [i_eq] at c6
  have m := i_mulR (c := 6) (k := 6) (x := x1) (by decide) (by omega) (by omega)
  have d := i_add (x := x1 * 6) (y := x2) (by omega) (by omega)
  have e2 := i_add (x := F 25 2) (y := 1) (by omega) (by omega)
  unfold e_Told_add
  have body : ok ((c_st A 25 1 30 (F 25 2) ((x1 * 6) + x2)).bind fun A1 => (c_st A1 25 2 30 (F 25 2) x3).bind fun A2 => (c_pf F 25 2 ((F 25 2) + 1)).bind fun F3 => some ((F3 25 2) - 1, P, F3, A2, J)) (CAc P F A) := by
    refine ok_cst (by omega) (by omega) ?_
    intro A2 U2
    refine ok_cst (by omega) (by omega) ?_
    intro A3 U3
    refine ok_cpf ?_
    intro F4 U4
    have q4 := (((QKc.rfl' (P := P) G.1).st U2 (show 0 ≤ (x1 * 6 + x2).toInt ∧ (x1 * 6 + x2).toInt ≤ 35 by omega) ⟨fun h => absurd h (by decide), fun h => absurd h (by decide)⟩).st U3 trivial ⟨fun h => absurd h (by decide), fun h => absurd h (by decide)⟩).pf U4 (show 0 ≤ (F 25 2 + 1).toInt ∧ (F 25 2 + 1).toInt ≤ 30 by omega) (by decide)
    exact ok_some (QKc.ca G q4)
  refine ok_call body ?_
  rintro ⟨v, P2, F2, A2, J2⟩ hr
  exact ok_some hr
theorem s_cForget (G : Gc P F A) : ok (e_SleepWork_forget P F A J) (CAc P F A) := by
  unfold e_SleepWork_forget
  refine ok_cpf ?_
  intro F2 U2
  have q2 := (QKc.rfl' (P := P) G.1).pf U2 (show 0 ≤ (0 : Int32).toInt ∧ (0 : Int32).toInt ≤ 30 by decide) (by decide)
  exact ca_stale (q2.g G) (pe (q2.2.2.2.2.2.2 1))
theorem s_cFits {n : Nat} {x1 x2 x3 : Int32} (G : Gc P F A) (hn : 1800 ≤ n) : ok (e_SleepWork_fits n P F A J x1 x2 x3) (CAc P F A) := by
  have l0 : (0 : Int32).toInt = 0 := by decide
  have lm : (-1 : Int32).toInt = -1 := by decide
  unfold e_SleepWork_fits
  refine ok_call (s_isMan G) ?_
  intro v vp
  refine ok_cond (fun _ => ca0 G) (fun c => ?_)
  rw [i_neq, l0] at c
  have a := vp.resolve_left c
  refine ok_call s_isKnownBy ?_
  intro w _
  refine ok_cond (fun _ => ca0 G) (fun _ => ?_)
  refine ok_cond (fun c3 => ?_) (fun _ => ca0 G)
  rw [i_ge] at c3
  refine ok_call (s_fits G ⟨by omega, by omega⟩ (by omega)) ?_
  rintro ⟨u, P2, F2, A2, J2⟩ q
  dsimp only at q ⊢
  refine ok_cond (fun c4 => ?_) (fun _ => ok_some (QKc.ca G q))
  rw [i_ne] at c4
  refine ok_cond (fun _ => ok_some (QKc.ca G q)) (fun c5 => ?_)
  rw [i_nge] at c5
  have a1 : 0 ≤ (F2 32 15).toInt ∧ (F2 32 15).toInt ≤ 37 := q.2.1.1 32 15
  refine ok_ldn (by omega) (by omega) (fun v13 => ?_)
  exact ok_call s_codeOf (fun v _ => ok_some (QKc.ca G q))
theorem s_cSuspects {n : Nat} {x1 : Int32} (G : Gc P F A) (hn : 1800 ≤ n) : ok (e_SleepWork_suspects n P F A J x1) (CAc P F A) := by
  have l0 : (0 : Int32).toInt = 0 := by decide
  unfold e_SleepWork_suspects
  refine ok_call s_isKnownBy ?_
  intro w _
  refine ok_cond (fun _ => ca0 G) (fun _ => ?_)
  unfold e_Evening_suspectBits
  refine ok_call (s_suspectBits_4 G (by decide) (by omega)) ?_
  rintro ⟨v, P2, F2, A2, J2⟩ q
  exact ok_some (QKc.ca G q)
theorem s_cPairs {n : Nat} {x1 x2 x3 : Int32} (G : Gc P F A) (hn : 1800 ≤ n) : ok (e_SleepWork_pairs n P F A J x1 x2 x3) (CAc P F A) := by
  have l0 : (0 : Int32).toInt = 0 := by decide
  have lm : (-1 : Int32).toInt = -1 := by decide
  unfold e_SleepWork_pairs
  refine ok_call (s_areTwoMen G) ?_
  intro v vp
  refine ok_cond (fun _ => ca0 G) (fun c => ?_)
  rw [i_neq, l0] at c
  have a := vp.resolve_left c
  refine ok_call s_isKnownBy ?_
  intro w _
  refine ok_cond (fun _ => ?_) (fun _ => ca0 G)
  unfold e_Evening_fittingPairs
  refine ok_call (s_pairs_6 ⟨by omega, by omega⟩ ⟨by omega, by omega⟩ G (QKc.rfl' G.1) (by decide) (by omega)) ?_
  rintro ⟨v, P2, F2, A2, J2⟩ q
  exact ok_some (QKc.ca G q)
theorem s_cHold {x1 : Int32} (G : Gc P F A) : ok (e_SleepWork_hold P F A J x1) (CAc P F A) := by
  have l0 : (0 : Int32).toInt = 0 := by decide
  have l3 : (3 : Int32).toInt = 3 := by decide
  unfold e_SleepWork_hold
  refine ok_cond (fun _ => ca0 G) (fun c => ?_)
  rw [i_nlt] at c
  refine ok_cond (fun c2 => ?_) (fun _ => ca0 G)
  rw [i_lt] at c2
  have kk := k_sl (m := x1.toInt.toNat) (by omega)
  refine ok_car (by omega) (by omega) kk.1 ?_
  refine ok_call (s_copy (r1 := 2) kk.1 (by omega) G.1) ?_
  rintro ⟨u, P3, F3, A3, J3⟩ ⟨g1, g2, g3, g4, g5⟩
  dsimp only at g1 g2 g3 g4 g5 ⊢
  subst g1
  refine ok_cpf ?_
  intro F4 U4
  have a1 : 0 ≤ (F 0 10).toInt ∧ (F 0 10).toInt ≤ 7 := G.1.1 0 10
  have k10 : F3 0 10 = F 0 10 := g2 0 10 (by omega)
  rw [k10] at U4
  have ex : x1 = Int32.ofNat x1.toInt.toNat := i_nat (by omega)
  have eh : F 0 10 = Int32.ofNat (F 0 10).toInt.toNat := i_nat (by omega)
  have rg : 0 ≤ (F 0 10 ||| (1 <<< (x1 &&& 31))).toInt ∧ (F 0 10 ||| (1 <<< (x1 &&& 31))).toInt ≤ 7 := by
    have := b_rng ⟨(F 0 10).toInt.toNat, by omega⟩ ⟨x1.toInt.toNat, by omega⟩
    rw [← ex, ← eh] at this
    exact this
  have R4 := g4.pf U4 rg
  have t3 : ∀ r k, ¬ (r = 0 ∧ k = 10) → r ≠ 29 + x1.toInt.toNat → F4 r k = F r k := fun r k a b => (U4.2 r k a).trans (g2 r k b)
  have hne := G.nk kk.1
  refine ok_some ⟨G.mk2 (r0 := 29 + x1.toInt.toNat) R4 rfl rfl rfl (fun q hq k => t3 q k (by omega) (by omega)) (fun q hq o _ => g3 q o (by omega)) (fun r _ _ _ h => g3 r 3 h) (fun m m0 m1 => ?_) (fun u u0 u1 => .inr ⟨u, u0, ?_, ?_⟩) (fun s s0 h => ?_), pe (t3 1 1 (by simp) (by omega))⟩
  · rw [show ((1 : Int32), P3, F4, A3, J3).2.2.2.1 = A3 from rfl, g5 m m0 m1]
    exact (G.2.2.2.2.1 m m0 m1).cg (g3 _ 5 hne)
  · have u2 : u < (F4 4 2).toInt := u1
    rw [t3 4 2 (by simp) (by omega)] at u2
    exact u2
  · show ((F4 4 1).toInt + u) % 20 = _
    rw [t3 4 1 (by simp) (by omega)]
    rfl
  · have h' : (F4 0 10 &&& (1 <<< (Int32.ofNat s &&& 31))) ≠ 0 := h
    rw [U4.1] at h'
    have bh := b_hold ⟨(F 0 10).toInt.toNat, by omega⟩ ⟨x1.toInt.toNat, by omega⟩ ⟨s, s0⟩
    rw [← ex, ← eh] at bh
    rcases bh h' with z | z
    · left
      have z' : s = x1.toInt.toNat := z
      omega
    · exact .inr z
theorem s_cRestore {x1 : Int32} (G : Gc P F A) : ok (e_SleepWork_restore P F A J x1) (CAc P F A) := by
  have l0 : (0 : Int32).toInt = 0 := by decide
  have l3 : (3 : Int32).toInt = 3 := by decide
  unfold e_SleepWork_restore
  refine ok_cond (fun _ => ca0 G) (fun c => ?_)
  rw [i_nlt] at c
  refine ok_cond (fun _ => ca0 G) (fun c2 => ?_)
  rw [i_nge] at c2
  refine ok_cond (fun c3 => ?_) (fun _ => ca0 G)
  rw [i_ne] at c3
  have kk := k_sl (m := x1.toInt.toNat) (by omega)
  have ex : x1 = Int32.ofNat x1.toInt.toNat := i_nat (by omega)
  refine ok_car (by omega) (by omega) kk.1 ?_
  have lv : LVc A (P 0 8) (29 + x1.toInt.toNat) := G.2.2.2.2.2.2 x1.toInt.toNat (by omega) (by rw [← ex]; exact fun e => c3 (by rw [e]))
  refine ok_call (s_copy (r0 := 2) (r1 := 29 + x1.toInt.toNat) (by decide) (by omega) G.1) ?_
  rintro ⟨u, P3, F3, A3, J3⟩ hc
  have hp := hc.1
  dsimp only at hp ⊢
  subst hp
  obtain ⟨G3, e11⟩ := Gc.now (r1 := 2) G hc (fun m m0 m1 => lv m m0 m1) (fun r k h => rfl) rfl (Int.le_refl _)
  dsimp only at G3 e11
  refine ok_cpf ?_
  intro F4 U4
  have G4 : Gc P3 F4 A3 := G3.mk2 (r0 := 2) (G3.1.pf U4 (show 0 ≤ (0 : Int32).toInt ∧ (0 : Int32).toInt ≤ 20 by decide)) rfl rfl rfl (fun q hq k => U4.2 q k (by omega)) (fun _ _ _ _ => rfl) (fun _ _ _ _ _ => rfl) G3.2.2.2.2.1 (fun u u0 u1 => absurd u1 (by unfold cf; rw [U4.1]; omega)) (fun s _ h => .inr (by rw [U4.2 0 10 (by simp)] at h; exact h))
  exact ca_stale G4 (pe ((U4.2 1 1 (by simp)).trans e11))
theorem s_cCount {n : Nat} {x1 : Int32} (G : Gc P F A) (hn : 60 ≤ n) : ok (e_SleepWork_count n P F A J x1) (fun _ => True) := by
  unfold e_SleepWork_count
  refine ok_cond (fun _ => ok_chk G.k08 (ok_some trivial)) (fun _ => ?_)
  refine ok_cond (fun _ => ok_chk G.k08 (ok_some trivial)) (fun _ => ?_)
  refine ok_cond (fun _ => ok_chk G.k08 (ok_some trivial)) (fun _ => ?_)
  refine ok_cond (fun _ => ok_chk G.k08 (ok_some trivial)) (fun _ => ?_)
  refine ok_cond (fun _ => ok_chk G.k08 (ok_some trivial)) (fun _ => ?_)
  refine ok_cond (fun _ => ok_chk G.k08 (ok_some trivial)) (fun _ => ?_)
  refine ok_cond (fun _ => ok_some trivial) (fun _ => ?_)
  refine ok_cond (fun _ => ?_) (fun _ => ?_)
  · unfold e_Integer_bitCount
    exact ok_some trivial
  · refine ok_cond (fun _ => ok_chk G.k08 (ok_call (s_worthOfAll G.k08 G.1 hn) (fun _ _ => ok_some trivial))) (fun _ => ?_)
    refine ok_cond (fun _ => ok_some trivial) (fun _ => ?_)
    refine ok_cond (fun _ => ok_some trivial) (fun _ => ?_)
    refine ok_cond (fun _ => ok_some trivial) (fun _ => ?_)
    refine ok_cond (fun _ => ?_) (fun _ => ok_some trivial)
    unfold e_Integer_bitCount
    exact ok_some trivial
end C95
