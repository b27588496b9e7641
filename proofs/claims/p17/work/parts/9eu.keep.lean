/-! the class's calls: the house in use stays (printed by wip/h5.py) -/
section H9eu
variable {P P' P1 : Nat → Nat → Nat} {F F' F1 : Nat → Nat → Int32} {A A' A1 : Nat → Nat → Nat → Int32} {J : Nat → Nat → Nat → Int64} {r0 : Nat}
/-- both houses are as they were -/
def HK (P : Nat → Nat → Nat) (F : Nat → Nat → Int32) (A : Nat → Nat → Nat → Int32) (P' : Nat → Nat → Nat) (F' : Nat → Nat → Int32) (A' : Nat → Nat → Nat → Int32) : Prop := P' 0 8 = P 0 8 ∧ ∀ q, q = 27 ∨ q = 28 → (∀ k, F' q k = F q k) ∧ (∀ o, o ≠ 17 → A' q o = A q o)
theorem HK.rfl' : HK P F A P F A := ⟨rfl, fun _ _ => ⟨fun _ => rfl, fun _ _ => rfl⟩⟩
theorem HK.tr (h : HK P F A P1 F1 A1) (h' : HK P1 F1 A1 P' F' A') : HK P F A P' F' A' := ⟨h'.1.trans h.1, fun q hq => ⟨fun k => ((h'.2 q hq).1 k).trans ((h.2 q hq).1 k), fun o ho => ((h'.2 q hq).2 o ho).trans ((h.2 q hq).2 o ho)⟩⟩
theorem HK.st {o : Nat} {i v : Int} (U : CUm A A' 2 o i v) : HK P F A P F A' := ⟨rfl, fun q hq => ⟨fun _ => rfl, fun o _ => U.2.2 q o (by omega)⟩⟩
theorem QKc.hk (q : QKc P P' F F' A A') : HK P F A P' F' A' := ⟨q.1 0 8 (by decide), q.2.2.1⟩
/-- a call's end -/
def CBc (P : Nat → Nat → Nat) (F : Nat → Nat → Int32) (A : Nat → Nat → Nat → Int32) (r : Int32 × (Nat → Nat → Nat) × (Nat → Nat → Int32) × (Nat → Nat → Nat → Int32) × (Nat → Nat → Nat → Int64)) : Prop := Gc r.2.1 r.2.2.1 r.2.2.2.1 ∧ (r.2.2.1 1 1, r.2.1 32 9) = (F 1 1, P 32 9) ∧ HK P F A r.2.1 r.2.2.1 r.2.2.2.1
theorem QKc.cb {r : Int32 × (Nat → Nat → Nat) × (Nat → Nat → Int32) × (Nat → Nat → Nat → Int32) × (Nat → Nat → Nat → Int64)} (G : Gc P F A) (q : QKc P r.2.1 F r.2.2.1 A r.2.2.2.1) : CBc P F A r := ⟨q.g G, pe2 (q.2.2.2.2.2.2 1) (q.1 32 9 (by decide)), q.hk⟩
theorem cb0 {v : Int32} (G : Gc P F A) : ok (some (v, P, F, A, J)) (CBc P F A) := ok_some ⟨G, rfl, HK.rfl'⟩
/-- the end of a call that makes the evening stale -/
theorem cb_stale {v : Int32} {F1 : Nat → Nat → Int32} {A1 : Nat → Nat → Nat → Int32} {P1 : Nat → Nat → Nat} (G : Gc P1 F1 A1) (e : (F1 1 1, P1 32 9) = (F 1 1, P 32 9)) (h : HK P F A P1 F1 A1) : ok ((e_Evening_setStale P1 F1 A1 J).bind fun (_, P7, F8, A9, J10) => some (v, P7, F8, A9, J10)) (CBc P F A) := by
  refine ok_call (q_stale G) ?_
  rintro ⟨u, P2, F2, A2, J2⟩ ⟨-, -, q⟩
  dsimp only at q ⊢
  exact ok_some ⟨q.g G, (pe2 (q.2.2.2.2.2.2 1) (q.1 32 9 (by decide))).trans e, h.tr q.hk⟩
theorem h_cWay {n : Nat} {x1 x2 : Int32} (G : Gc P F A) (hn : 70 ≤ n) : ok (e_SleepWork_way n P F A J x1 x2) (CBc P F A) := by
  have l0 : (0 : Int32).toInt = 0 := by decide
  unfold e_SleepWork_way
  refine ok_call (s_isRoom G) ?_
  intro v vp
  refine ok_cond (fun _ => cb0 G) (fun c => ?_)
  rw [i_neq, l0] at c
  have a := vp.resolve_left c
  refine ok_call (s_isRoom G) ?_
  intro w wp
  refine ok_cond (fun c2 => ?_) (fun _ => cb0 G)
  rw [i_ne, l0] at c2
  have b := wp.resolve_left c2
  refine ok_call (q_minutesBetween G ⟨by omega, by omega⟩ ⟨by omega, by omega⟩ hn) ?_
  rintro ⟨v5, P2, F2, A2, J2⟩ q
  dsimp only at q ⊢
  exact ok_cond (fun _ => ok_some (QKc.cb G q)) (fun _ => ok_some (QKc.cb G q))
theorem h_cWhere {n : Nat} {x1 x2 : Int32} (G : Gc P F A) (hn : 70 ≤ n) : ok (e_SleepWork_where n P F A J x1 x2) (CBc P F A) := by
  have l0 : (0 : Int32).toInt = 0 := by decide
  unfold e_SleepWork_where
  refine ok_call (s_isMan G) ?_
  intro v vp
  refine ok_cond (fun _ => cb0 G) (fun c => ?_)
  rw [i_neq, l0] at c
  have a := vp.resolve_left c
  refine ok_cond (fun _ => cb0 G) (fun _ => ?_)
  refine ok_chk G.k08 ?_
  refine ok_cond (fun _ => ?_) (fun _ => cb0 G)
  refine ok_chk G.k08 ?_
  refine ok_ldc G.1 G.k08 (by omega) (by omega) ?_
  intro v7 v7e v7r
  change -1 ≤ v7.toInt ∧ v7.toInt ≤ 7 at v7r
  have h7 := G.2.2.2.1.2.1 x1.toInt (by omega) a.2.2.1
  refine ok_ldc (K := 2) G.1 (by decide) (by omega) (by omega) ?_
  intro v8 v8e _
  refine ok_cond (fun c8 => ?_) (fun _ => cb0 G)
  rw [i_ge] at c8
  have lv := G.2.2.2.2.1 x1.toInt (by omega) (by omega)
  have l2 : v8.toInt < 36 ∧ v8.toInt % 6 < ci A (P 0 8) 5 (v8.toInt / 6) := by
    rw [v8e]
    rcases lv with z | z
    · omega
    · exact ⟨z.2.1, z.2.2⟩
  refine ok_chk G.k08 ?_
  refine ok_div1 (by decide) ?_
  intro v11 e11
  have d11 : v11.toInt = v8.toInt / 6 := by rw [e11]; exact i_div6 (by omega)
  refine ok_ldc G.1 G.k08 (by omega) (by omega) ?_
  intro v12 v12e v12r
  change -1 ≤ v12.toInt ∧ v12.toInt ≤ 7 at v12r
  have h12 := G.2.2.2.1.2.2.1 v11.toInt (by omega) (by omega) (by rw [d11]; omega)
  refine ok_call (q_minutesBetween G ⟨by omega, by omega⟩ ⟨by omega, by omega⟩ hn) ?_
  rintro ⟨v5, P2, F2, A2, J2⟩ q
  dsimp only at q ⊢
  exact ok_cond (fun _ => ok_some (QKc.cb G q)) (fun _ => ok_some (QKc.cb G q))
theorem h_cLeave {x1 x2 x3 : Int32} (G : Gc P F A) : ok (e_SleepWork_leave P F A J x1 x2 x3) (CBc P F A) := by
  have l0 : (0 : Int32).toInt = 0 := by decide
  unfold e_SleepWork_leave
  refine ok_call (s_isMan G) ?_
  intro v vp
  refine ok_cond (fun c => ?_) (fun _ => cb0 G)
  rw [i_ne, l0] at c
  have a := vp.resolve_left c
  have f69 : ∀ {s2 : Int32}, LVx A (P 0 8) s2.toInt → ok (e_SleepWork_leave_69 P F A J x1 s2) (CBc P F A) := by
    intro s2 hs
    unfold e_SleepWork_leave_69
    refine ok_cst (by omega) (by omega) ?_
    intro A2 U2
    have n2 : P 0 8 ≠ 2 := fun e => absurd G.k08 (by rw [e]; decide)
    have G2 : Gc P F A2 := G.mk2 (r0 := 2) (G.1.st U2 trivial) rfl rfl rfl (fun _ _ _ => rfl) (fun q hq o _ => U2.2.2 q o (by omega)) (fun r _ _ _ h => U2.2.2 r 3 (fun e => h e.1)) (G.2.2.2.2.1.put U2 n2 hs) (fun u u0 u1 => .inr (G.kp u u0 u1)) (fun s _ h => .inr h)
    exact cb_stale G2 rfl (HK.st U2)
  have f25 : ∀ {s0 : Int32}, (s0.toInt = 0 ∨ s0.toInt ≠ 0) → ok (e_SleepWork_leave_25 P F A J x1 x2 x3 s0) (CBc P F A) := by
    intro s0 _
    unfold e_SleepWork_leave_25
    refine ok_cond (fun c1 => ?_) (fun c1 => ?_)
    · rw [i_ne] at c1
      unfold e_SleepWork_leave_46
      refine ok_cond (fun c2 => ?_) (fun _ => f69 (.inl (by decide)))
      rw [i_eq] at c2
      exact absurd c2 c1
    · refine ok_chk G.k08 ?_
      refine ok_call (s_hasStep G.k08 G.1) ?_
      intro w wp
      refine ok_cond (fun c2 => ?_) (fun _ => cb0 G)
      rw [i_ne, l0] at c2
      have b := wp.resolve_left c2
      unfold e_SleepWork_leave_46
      refine ok_cond (fun _ => ?_) (fun _ => f69 (.inl (by decide)))
      have m := i_mulR (c := 6) (k := 6) (x := x2) (by decide) (by omega) (by omega)
      have d := i_add (x := x2 * 6) (y := x3) (by omega) (by omega)
      refine f69 (.inr ⟨by omega, by omega, ?_⟩)
      rw [show (x2 * 6 + x3).toInt % 6 = x3.toInt by omega, show (x2 * 6 + x3).toInt / 6 = x2.toInt by omega]
      exact b.2.2.2.2.1
  have f24 : ok (e_SleepWork_leave_24 P F A J x1 x2 x3) (CBc P F A) := by
    unfold e_SleepWork_leave_24
    exact f25 (.inl l0)
  exact ok_cond (fun _ => f24) (fun _ => ok_cond (fun _ => f24) (fun _ => f25 (.inr (by decide))))
theorem h_cWork {x1 x2 : Int32} (G : Gc P F A) : ok (e_SleepWork_work P F A J x1 x2) (CBc P F A) := by
  have l0 : (0 : Int32).toInt = 0 := by decide
  unfold e_SleepWork_work
  refine ok_chk G.k08 ?_
  refine ok_call (s_hasStep G.k08 G.1) ?_
  intro w wp
  refine ok_cond (fun _ => cb0 G) (fun c2 => ?_)
  rw [i_neq, l0] at c2
  have b := wp.resolve_left c2
  refine ok_ldn (by omega) (by omega) (fun v4 => ?_)
  refine ok_cond (fun _ => ?_) (fun _ => cb0 G)
  refine ok_ldn (by omega) (by omega) (fun v6 => ?_)
  refine ok_cst (by omega) (by omega) ?_
  intro A2 U2
  have G2 := G.st2 U2 (by decide)
  refine ok_chk G2.k08 ?_
  have hu := G2.2.2.2.1.2.2.2.1 x1.toInt x2.toInt (by omega) (by omega) (by omega) (by rw [ci_fr (U2.2.2 _ 5 (by simp))]; omega)
  refine ok_call (s_finish (r1 := 2) G2.k08 (by decide) G2.1 (by omega) (by omega) hu) ?_
  rintro ⟨u, P3, F3, A3, J3⟩ ⟨g1, g2, g3, g4⟩
  dsimp only at g1 g2 g3 g4 ⊢
  subst g1
  subst g2
  have G3 : Gc P3 F3 A3 := G2.cg g4 ⟨fun q hq => ⟨fun _ => rfl, fun o _ => g3 q o (by omega)⟩, fun r _ _ _ => g3 r 3 (by simp), fun _ => rfl, rfl, fun _ => rfl⟩ rfl rfl rfl
  exact cb_stale G3 rfl ((HK.st U2).tr ⟨rfl, fun q hq => ⟨fun _ => rfl, fun o _ => g3 q o (by omega)⟩⟩)
theorem h_cLay {x1 x2 : Int32} (G : Gc P F A) : ok (e_SleepWork_lay P F A J x1 x2) (CBc P F A) := by
  have l0 : (0 : Int32).toInt = 0 := by decide
  unfold e_SleepWork_lay
  refine ok_call (s_isTool G) ?_
  intro v vp
  refine ok_cond (fun _ => cb0 G) (fun c => ?_)
  rw [i_neq, l0] at c
  have a := vp.resolve_left c
  refine ok_call (s_isRoom G) ?_
  intro w wp
  refine ok_cond (fun _ => ?_) (fun _ => cb0 G)
  refine ok_cst (by omega) (by omega) ?_
  intro A2 U2
  exact cb_stale (G.st2 U2 (by decide)) rfl (HK.st U2)
theorem h_cGive {x1 x2 : Int32} (G : Gc P F A) : ok (e_SleepWork_give P F A J x1 x2) (CBc P F A) := by
  have l0 : (0 : Int32).toInt = 0 := by decide
  unfold e_SleepWork_give
  refine ok_call (s_isTool G) ?_
  intro v vp
  refine ok_cond (fun _ => cb0 G) (fun c => ?_)
  rw [i_neq, l0] at c
  have a := vp.resolve_left c
  refine ok_call (s_isMan G) ?_
  intro w wp
  refine ok_cond (fun _ => ?_) (fun _ => cb0 G)
  refine ok_cst (by omega) (by omega) ?_
  intro A2 U2
  exact cb_stale (G.st2 U2 (by decide)) rfl (HK.st U2)
theorem h_cBar {x1 x2 : Int32} (G : Gc P F A) : ok (e_SleepWork_bar P F A J x1 x2) (CBc P F A) := by
  have f52 : ∀ s1 : Int32, ok (e_SleepWork_bar_52 P F A J 2 s1) (CBc P F A) := fun s1 => by
    unfold e_SleepWork_bar_52
    refine ok_cpf ?_
    intro F2 U2
    have q2 := (QKc.rfl' (P := P) G.1).pf U2 trivial (by decide)
    exact cb_stale (q2.g G) (pe (q2.2.2.2.2.2.2 1)) q2.hk
  unfold e_SleepWork_bar
  refine ok_cond (fun _ => cb0 G) (fun _ => ?_)
  refine ok_chk G.k08 ?_
  exact ok_cond (fun _ => ok_cond (fun _ => f52 _) (fun _ => f52 _)) (fun _ => cb0 G)
theorem h_push (G : Gc P F A) : ok (e_Past_push P F A J 2) (fun r => r.2.1 = P ∧ Gc r.2.1 r.2.2.1 r.2.2.2.1 ∧ r.2.2.1 1 1 = F 1 1 ∧ HK P F A r.2.1 r.2.2.1 r.2.2.2.1) := by
  have l1 : (1 : Int32).toInt = 1 := by decide
  have l20 : (20 : Int32).toInt = 20 := by decide
  have a1 : 0 ≤ (F 4 1).toInt ∧ (F 4 1).toInt ≤ 19 := G.1.1 4 1
  have a2 : 0 ≤ (F 4 2).toInt ∧ (F 4 2).toInt ≤ 20 := G.1.1 4 2
  unfold e_Past_push
  refine ok_cond (fun c => ?_) (fun c => ?_)
  · rw [i_ne, l20] at c
    have e2 := i_add (x := F 4 2) (y := 1) (by omega) (by omega)
    refine ok_cpf ?_
    intro F2 U2
    have k1 : F2 4 1 = F 4 1 := U2.2 4 1 (by simp)
    have k2 : (F2 4 2).toInt = (F 4 2).toInt + 1 := by rw [U2.1]; omega
    have e3 := i_add (x := F2 4 1) (y := F2 4 2) (by rw [k1]; omega) (by rw [k1]; omega)
    rw [k1] at e3
    have e4 := i_sub (x := F2 4 1 + F2 4 2) (y := 1) (by rw [k1]; omega) (by rw [k1]; omega)
    rw [k1] at e4
    refine ok_rem1 (by decide) ?_
    intro v3 e5
    have d3 : v3.toInt = ((F 4 1).toInt + (F 4 2).toInt) % 20 := by
      rw [e5, i_rem20 (by rw [k1]; omega), k1]
      have : (F 4 1 + F2 4 2 - 1).toInt = (F 4 1).toInt + (F 4 2).toInt := by omega
      rw [this]
    have kk := k_st (m := v3.toInt.toNat) (by omega)
    refine ok_car (by omega) (by omega) kk.1 ?_
    have R2 : Rc F2 A := G.1.pf U2 (show 0 ≤ (F 4 2 + 1).toInt ∧ (F 4 2 + 1).toInt ≤ 20 by omega)
    refine ok_call (s_copy (r1 := 2) kk.1 (by omega) R2) ?_
    rintro ⟨u, P3, F3, A3, J3⟩ ⟨g1, g2, g3, g4, g5⟩
    dsimp only at g1 g2 g3 g4 g5 ⊢
    subst g1
    have hne := G.nk kk.1
    have t1 : F3 4 1 = F 4 1 := (g2 4 1 (by omega)).trans k1
    have t2 : (F3 4 2).toInt = (F 4 2).toInt + 1 := by rw [g2 4 2 (by omega)]; exact k2
    have t3 : ∀ r k, r ≠ 4 → r ≠ 5 + v3.toInt.toNat → F3 r k = F r k := fun r k a b => (g2 r k b).trans (U2.2 r k (fun e => a e.1))
    have G3 : Gc P3 F3 A3 := by
      refine G.mk2 (r0 := 5 + v3.toInt.toNat) g4 rfl rfl rfl (fun q hq k => t3 q k (by omega) (by omega)) (fun q hq o _ => g3 q o (by omega)) (fun r _ _ _ h => g3 r 3 h) (fun m m0 m1 => ?_) (fun u u0 u1 => ?_) (fun s _ h => .inr ?_)
      · rw [g5 m m0 m1]
        exact (G.2.2.2.2.1 m m0 m1).cg (g3 _ 5 hne)
      · unfold cf at u1 ⊢
        rw [t1]
        by_cases e : u = (F 4 2).toInt
        · left
          rw [e, d3]
        · right
          exact ⟨u, u0, by omega, rfl⟩
      · rw [t3 0 10 (by decide) (by omega)] at h
        exact h
    exact ok_some ⟨rfl, G3, t3 1 1 (by decide) (by omega), rfl, fun q hq => ⟨fun k => t3 q k (by omega) (by omega), fun o _ => g3 q o (by omega)⟩⟩
  · rw [i_nne, l20] at c
    have e2 := i_add (x := F 4 1) (y := 1) (by omega) (by omega)
    refine ok_rem1 (by decide) ?_
    intro v10 e10
    have d10 : v10.toInt = ((F 4 1).toInt + 1) % 20 := by
      rw [e10, i_rem20 (by omega)]
      have : (F 4 1 + 1).toInt = (F 4 1).toInt + 1 := by omega
      rw [this]
    refine ok_cpf ?_
    intro F2 U2
    have k1 : (F2 4 1).toInt = v10.toInt := by rw [U2.1]
    have k2 : F2 4 2 = F 4 2 := U2.2 4 2 (by simp)
    unfold e_Past_push_35
    have e3 := i_add (x := F2 4 1) (y := F2 4 2) (by rw [k2]; omega) (by rw [k2]; omega)
    rw [k2] at e3
    have e4 := i_sub (x := F2 4 1 + F2 4 2) (y := 1) (by rw [k2]; omega) (by rw [k2]; omega)
    rw [k2] at e4
    refine ok_rem1 (by decide) ?_
    intro v3 e5
    have d3 : v3.toInt = (v10.toInt + 19) % 20 := by
      rw [e5, i_rem20 (by rw [k2]; omega), k2]
      have : (F2 4 1 + F 4 2 - 1).toInt = v10.toInt + 19 := by omega
      rw [this]
    have kk := k_st (m := v3.toInt.toNat) (by omega)
    refine ok_car (by omega) (by omega) kk.1 ?_
    have R2 : Rc F2 A := G.1.pf U2 (show 0 ≤ v10.toInt ∧ v10.toInt ≤ 19 by omega)
    refine ok_call (s_copy (r1 := 2) kk.1 (by omega) R2) ?_
    rintro ⟨u, P3, F3, A3, J3⟩ ⟨g1, g2, g3, g4, g5⟩
    dsimp only at g1 g2 g3 g4 g5 ⊢
    subst g1
    have hne := G.nk kk.1
    have t1 : (F3 4 1).toInt = v10.toInt := by rw [g2 4 1 (by omega)]; exact k1
    have t2 : (F3 4 2).toInt = 20 := by rw [g2 4 2 (by omega), k2]; exact c
    have t3 : ∀ r k, r ≠ 4 → r ≠ 5 + v3.toInt.toNat → F3 r k = F r k := fun r k a b => (g2 r k b).trans (U2.2 r k (fun e => a e.1))
    have G3 : Gc P3 F3 A3 := by
      refine G.mk2 (r0 := 5 + v3.toInt.toNat) g4 rfl rfl rfl (fun q hq k => t3 q k (by omega) (by omega)) (fun q hq o _ => g3 q o (by omega)) (fun r _ _ _ h => g3 r 3 h) (fun m m0 m1 => ?_) (fun u u0 u1 => ?_) (fun s _ h => .inr ?_)
      · rw [g5 m m0 m1]
        exact (G.2.2.2.2.1 m m0 m1).cg (g3 _ 5 hne)
      · unfold cf at u1 ⊢
        rw [t1]
        by_cases e : u = 19
        · left
          rw [e, d3]
        · right
          exact ⟨u + 1, by omega, by omega, by omega⟩
      · rw [t3 0 10 (by decide) (by omega)] at h
        exact h
    exact ok_some ⟨rfl, G3, t3 1 1 (by decide) (by omega), rfl, fun q hq => ⟨fun k => t3 q k (by omega) (by omega), fun o _ => g3 q o (by omega)⟩⟩
theorem CPc.hk {f : Int → Int} {r : Unit × (Nat → Nat → Nat) × (Nat → Nat → Int32) × (Nat → Nat → Nat → Int32) × (Nat → Nat → Nat → Int64)} {F0 : Nat → Nat → Int32} (h : CPc P F0 A 2 f r) (t3 : ∀ r k, r ≠ 4 → F0 r k = F r k) : HK P F A P r.2.2.1 r.2.2.2.1 := by
  obtain ⟨g1, g2, g3, g4, g5⟩ := h
  exact ⟨rfl, fun q hq => ⟨fun k => (g2 q k (by omega)).trans (t3 q k (by omega)), fun o _ => g3 q o (by omega)⟩⟩
theorem h_cUndo (G : Gc P F A) : ok (e_SleepWork_undo P F A J) (CBc P F A) := by
  have l0 : (0 : Int32).toInt = 0 := by decide
  have l1 : (1 : Int32).toInt = 1 := by decide
  have a1 : 0 ≤ (F 4 1).toInt ∧ (F 4 1).toInt ≤ 19 := G.1.1 4 1
  have a2 : 0 ≤ (F 4 2).toInt ∧ (F 4 2).toInt ≤ 20 := G.1.1 4 2
  unfold e_SleepWork_undo e_Past_pull
  have rest : ∀ {v : Int32} {F3 A3 J3}, Gc P F3 A3 → F3 1 1 = F 1 1 → HK P F A P F3 A3 → ok (cond (g_cnd .ne v 0) ((e_Evening_setStale P F3 A3 J3).bind fun (_, P8, F9, A10, J11) => some ((1 : Int32), P8, F9, A10, J11)) (some ((0 : Int32), P, F3, A3, J3))) (CBc P F A) := fun G3 e hk => ok_cond (fun _ => cb_stale G3 (pe e) hk) (fun _ => ok_some ⟨G3, pe e, hk⟩)
  have pull : ok (cond (g_cnd .ne (F 4 2) 0) ((c_pf F 4 2 ((F 4 2) - 1)).bind fun F2 => (m_rem ((F2 4 1) + (F2 4 2)) 20).bind fun v3 => (c_ar 20 5 2 v3).bind fun q4 => (e_State_copy P F2 A J 2 q4).bind fun (_, P6, F7, A8, J9) => some ((1 : Int32), P6, F7, A8, J9)) (some (0, P, F, A, J))) (fun r => r.2.1 = P ∧ Gc P r.2.2.1 r.2.2.2.1 ∧ r.2.2.1 1 1 = F 1 1 ∧ HK P F A P r.2.2.1 r.2.2.2.1) := by
    refine ok_cond (fun c => ?_) (fun _ => ok_some ⟨rfl, G, rfl, HK.rfl'⟩)
    rw [i_ne, l0] at c
    have e2 := i_sub (x := F 4 2) (y := 1) (by omega) (by omega)
    refine ok_cpf ?_
    intro F2 U2
    have k1 : F2 4 1 = F 4 1 := U2.2 4 1 (by simp)
    have k2 : (F2 4 2).toInt = (F 4 2).toInt - 1 := by rw [U2.1]; omega
    have e3 := i_add (x := F2 4 1) (y := F2 4 2) (by rw [k1]; omega) (by rw [k1]; omega)
    rw [k1] at e3
    refine ok_rem1 (by decide) ?_
    intro v3 e5
    have d3 : v3.toInt = ((F 4 1).toInt + ((F 4 2).toInt - 1)) % 20 := by
      rw [e5, i_rem20 (by rw [k1]; omega), k1]
      have : (F 4 1 + F2 4 2).toInt = (F 4 1).toInt + ((F 4 2).toInt - 1) := by omega
      rw [this]
    have kk := k_st (m := v3.toInt.toNat) (by omega)
    refine ok_car (by omega) (by omega) kk.1 ?_
    have R2 : Rc F2 A := G.1.pf U2 (show 0 ≤ (F 4 2 - 1).toInt ∧ (F 4 2 - 1).toInt ≤ 20 by omega)
    refine ok_call (s_copy (r0 := 2) (r1 := 5 + v3.toInt.toNat) (by decide) (by omega) R2) ?_
    rintro ⟨u, P3, F3, A3, J3⟩ hc
    have hp := hc.1
    dsimp only at hp
    have lv := G.2.2.2.2.2.1 ((F 4 2).toInt - 1) (by omega) (by unfold cf; omega)
    unfold cf at lv
    rw [← d3] at lv
    obtain ⟨G3, e11⟩ := Gc.now (r1 := 2) G hc (fun m m0 m1 => lv m m0 m1) (fun r k h => U2.2 r k (fun e => h e.1)) k1 (by unfold cf; omega)
    exact ok_some ⟨hp, G3, e11, hc.hk (fun r k h => U2.2 r k (fun e => h e.1))⟩
  refine ok_call pull ?_
  rintro ⟨v, P3, F3, A3, J3⟩ ⟨e1, G3, e11, hk⟩
  dsimp only at e1 G3 e11 hk ⊢
  subst e1
  exact rest G3 e11 hk
theorem h_cNight {n : Nat} (G : Gc P F A) (hn : 1500 ≤ n) : ok (e_SleepWork_night n P F A J) (CBc P F A) := by
  unfold e_SleepWork_night
  refine ok_call (h_push G) ?_
  rintro ⟨u, P2, F2, A2, J2⟩ ⟨g1, G2, e2, k2⟩
  dsimp only at g1 G2 e2 k2 ⊢
  refine ok_chk G2.k08 ?_
  refine ok_call (s_worthOfAll G2.k08 G2.1 (by omega)) ?_
  intro v7 _
  unfold e_Evening_goBy
  have goBy : ok ((c_chk 6 (P2 32 4)).bind fun q1 => (c_chk 6 (P2 32 4)).bind fun q2 => (e_Sleep_goTill n P2 F2 A2 J2 (F2 q1 18) q2 2).bind fun (_, P4, F5, A6, J7) => (c_pf F5 2 8 ((F5 2 8) + 1)).bind fun F8 => (e_Evening_setStale P4 F8 A6 J7).bind fun (_, P10, F11, A12, J13) => some ((), P10, F11, A12, J13)) (fun r => Gc r.2.1 r.2.2.1 r.2.2.2.1 ∧ (r.2.2.1 1 1, r.2.1 32 9) = (F 1 1, P 32 9) ∧ HK P F A r.2.1 r.2.2.1 r.2.2.2.1) := by
    refine ok_chk G2.k324 ?_
    refine ok_chk G2.k324 ?_
    rw [G2.2.2.1]
    refine ok_call (s_goTill G2.k08 (by decide) G2.1 G2.2.2.2.1 G2.2.2.2.2.1 G2.2.2.2.1.2.2.2.2.2.2 (by omega)) ?_
    rintro ⟨u, P3, F3, A3, J3⟩ ⟨o1, h1, h2, h3, h4, h5⟩
    dsimp only at o1 h1 h2 h3 h4 h5 ⊢
    have G3 : Gc P3 F3 A3 := by
      refine G2.mk2 (r0 := 2) h2 (o1 0 8 (by decide)) (o1 0 9 (by decide)) (o1 32 4 (by decide)) (fun q hq k => h4 q k (by omega)) (fun q hq o ho => h3 q o (by omega) (by omega) (fun _ => ho)) (fun r a _ _ h => h3 r 3 (k2ne a) h (fun e => absurd e.symm (k62 G2.k08 a))) h5 (fun u u0 u1 => .inr ⟨u, u0, ?_, ?_⟩) (fun s _ h => .inr ?_)
      · unfold cf at u1 ⊢
        rw [h4 4 2 (by simp)] at u1
        exact u1
      · unfold cf
        rw [h4 4 1 (by simp)]
      · rw [h4 0 10 (by simp)] at h
        exact h
    refine ok_cpf ?_
    intro F4 U4
    have q4 := (QKc.rfl' (P := P3) G3.1).pf U4 trivial (by decide)
    have G4 := q4.g G3
    refine ok_call (q_stale G4) ?_
    rintro ⟨u5, P5, F5, A5, J5⟩ ⟨-, -, q5⟩
    dsimp only at q5 ⊢
    exact ok_some ⟨q5.g G4, pe2 ((q5.2.2.2.2.2.2 1).trans ((q4.2.2.2.2.2.2 1).trans ((h4 1 1 (by simp)).trans e2))) (((q5.1 32 9 (by decide)).trans (o1 32 9 (by decide))).trans (by rw [g1])), (k2.tr (HK.tr (P1 := P3) (F1 := F3) (A1 := A3) ⟨o1 0 8 (by decide), fun q hq => ⟨fun k => h4 q k (by omega), fun o ho => h3 q o (by omega) (by omega) (fun _ => ho)⟩⟩ (q4.hk.tr q5.hk)))⟩
  refine ok_call goBy ?_
  rintro ⟨u6, P6, F6, A6, J6⟩ ⟨G6, e6, k6⟩
  dsimp only at G6 e6 k6 ⊢
  refine ok_chk G6.k08 ?_
  refine ok_call (s_worthOfAll G6.k08 G6.1 (by omega)) ?_
  intro v14 _
  exact ok_some ⟨G6, e6, k6⟩
theorem h_cGain {n : Nat} (G : Gc P F A) (hn : 1500 ≤ n) : ok (e_SleepWork_gain n P F A J) (CBc P F A) := by
  unfold e_SleepWork_gain e_Evening_gainAsItIs
  have body : ok ((c_chk 6 (P 32 4)).bind fun q1 => (e_House_worthOfAll n P F A J q1 2).bind fun v2 => (c_pf F 32 5 v2).bind fun F3 => (e_State_copy P F3 A J 33 2).bind fun (_, P5, F6, A7, J8) => (e_Evening_gainOfTrial n P5 F6 A7 J8).bind fun (v9, P10, F11, A12, J13) => some (v9, P10, F11, A12, J13)) (CBc P F A) := by
    refine ok_chk G.k324 ?_
    refine ok_call (s_worthOfAll G.k324 G.1 (by omega)) ?_
    intro v2 _
    refine ok_cpf ?_
    intro F3 U3
    have q3 := (QKc.rfl' (P := P) G.1).pf U3 trivial (by decide)
    have G3 := q3.g G
    refine ok_call (q_trial G3) ?_
    rintro ⟨u, P2, F2, A2, J2⟩ ⟨g1, q2, L2, -⟩
    dsimp only at g1 q2 L2 ⊢
    subst g1
    refine ok_call (q_gainOfTrial (q2.g G3) L2 (by omega)) ?_
    rintro ⟨v4, P4, F4, A4, J4⟩ q4
    dsimp only at q4 ⊢
    exact ok_some (QKc.cb G ((q3.tr q2).tr q4))
  refine ok_call body ?_
  rintro ⟨v, P2, F2, A2, J2⟩ hr
  exact ok_some hr
theorem h_cBest {n : Nat} {x1 x2 : Int32} (G : Gc P F A) (hn : 1800 ≤ n) : ok (e_SleepWork_best n P F A J x1 x2) (CBc P F A) := by
  have l0 : (0 : Int32).toInt = 0 := by decide
  unfold e_SleepWork_best
  refine ok_call (s_isMan G) ?_
  intro v vp
  refine ok_cond (fun _ => cb0 G) (fun c => ?_)
  rw [i_neq, l0] at c
  have a := vp.resolve_left c
  refine ok_cond (fun _ => cb0 G) (fun _ => ?_)
  refine ok_cond (fun _ => ?_) (fun _ => cb0 G)
  refine ok_call (s_forOne G ⟨by omega, by omega⟩ (by omega)) ?_
  rintro ⟨u, P2, F2, A2, J2⟩ q
  dsimp only at q ⊢
  refine ok_cond (fun _ => ?_) (fun _ => ok_some (QKc.cb G q))
  exact ok_call s_codeOf (fun v _ => ok_some (QKc.cb G q))
theorem h_cBestOfTwo {n : Nat} {x1 x2 x3 : Int32} (G : Gc P F A) (hn : 1800 ≤ n) : ok (e_SleepWork_bestOfTwo n P F A J x1 x2 x3) (CBc P F A) := by
  have l0 : (0 : Int32).toInt = 0 := by decide
  unfold e_SleepWork_bestOfTwo
  refine ok_call (s_areTwoMen G) ?_
  intro v vp
  refine ok_cond (fun _ => cb0 G) (fun c => ?_)
  rw [i_neq, l0] at c
  have a := vp.resolve_left c
  refine ok_cond (fun _ => cb0 G) (fun _ => ?_)
  refine ok_cond (fun _ => ?_) (fun _ => cb0 G)
  refine ok_call (s_forTwo G ⟨by omega, by omega⟩ ⟨by omega, by omega⟩ (by omega)) ?_
  rintro ⟨u, P2, F2, A2, J2⟩ q
  dsimp only at q ⊢
  refine ok_cond (fun _ => ok_cond (fun _ => ?_) (fun _ => ?_)) (fun _ => ok_some (QKc.cb G q))
  · exact ok_call s_codeOf (fun v _ => ok_some (QKc.cb G q))
  · unfold e_SleepWork_bestOfTwo_63
    exact ok_call s_codeOf (fun v _ => ok_some (QKc.cb G q))
theorem h_cHire {n : Nat} {x1 : Int32} (G : Gc P F A) (hn : 1800 ≤ n) : ok (e_SleepWork_hire n P F A J x1) (CBc P F A) := by
  have l0 : (0 : Int32).toInt = 0 := by decide
  unfold e_SleepWork_hire
  refine ok_call (s_isMan G) ?_
  intro v vp
  refine ok_cond (fun c => ?_) (fun _ => cb0 G)
  rw [i_ne, l0] at c
  have a := vp.resolve_left c
  refine ok_call (s_forOne G ⟨by omega, by omega⟩ (by omega)) ?_
  rintro ⟨u, P2, F2, A2, J2⟩ q
  exact ok_some (QKc.cb G q)
theorem h_cHide {n : Nat} {x1 x2 : Int32} (G : Gc P F A) (hn : 1800 ≤ n) : ok (e_SleepWork_hide n P F A J x1 x2) (CBc P F A) := by
  have l0 : (0 : Int32).toInt = 0 := by decide
  unfold e_SleepWork_hide
  refine ok_call (s_isTool G) ?_
  intro v vp
  refine ok_cond (fun _ => cb0 G) (fun c => ?_)
  rw [i_neq, l0] at c
  have a := vp.resolve_left c
  refine ok_chk G.k08 ?_
  refine ok_cond (fun _ => cb0 G) (fun _ => ?_)
  refine ok_cond (fun _ => cb0 G) (fun _ => ?_)
  refine ok_cond (fun _ => ?_) (fun _ => cb0 G)
  refine ok_call (s_hide G ⟨by omega, by omega⟩ (by omega)) ?_
  rintro ⟨u, P2, F2, A2, J2⟩ q
  dsimp only at q ⊢
  exact ok_cond (fun _ => ok_some (QKc.cb G q)) (fun _ => ok_some (QKc.cb G q))
theorem h_cStrokes {n : Nat} {x1 x2 : Int32} (G : Gc P F A) (hn : 1500 ≤ n) : ok (e_SleepWork_strokes n P F A J x1 x2) (CBc P F A) := by
  have l0 : (0 : Int32).toInt = 0 := by decide
  have h6 : (F (P 0 8) 18).toInt ≤ 600 := G.2.2.2.1.2.2.2.2.2.2
  unfold e_SleepWork_strokes
  refine ok_call (s_isMan G) ?_
  intro v vp
  refine ok_cond (fun _ => cb0 G) (fun c => ?_)
  rw [i_neq, l0] at c
  have a := vp.resolve_left c
  refine ok_cond (fun _ => cb0 G) (fun _ => ?_)
  refine ok_chk G.k08 ?_
  refine ok_cond (fun c2 => ?_) (fun _ => cb0 G)
  rw [i_le] at c2
  unfold e_Evening_strokesTill
  have body : ok ((e_State_copy P F A J 33 2).bind fun (_, P2, F3, A4, J5) => (c_chk 6 (P2 32 4)).bind fun q6 => (e_Sleep_goTill n P2 F3 A4 J5 x2 q6 33).bind fun (_, P8, F9, A10, J11) => (m_ld (A10 33 5) 6 x1).bind fun v12 => some (v12, P8, F9, A10, J11)) (CBc P F A) := by
    refine ok_call (q_trial G) ?_
    rintro ⟨u, P2, F2, A2, J2⟩ ⟨g1, q2, L2, -⟩
    dsimp only at g1 q2 L2 ⊢
    subst g1
    have G2 := q2.g G
    refine ok_chk G2.k324 ?_
    refine ok_call (q_goTill G2 L2 (by omega) (by omega)) ?_
    rintro ⟨u3, P3, F3, A3, J3⟩ ⟨q3, -⟩
    dsimp only at q3 ⊢
    exact ok_ldn (by omega) (by omega) (fun v => ok_some (QKc.cb G (q2.tr q3)))
  refine ok_call body ?_
  rintro ⟨v, P2, F2, A2, J2⟩ hr
  exact ok_some hr
theorem h_cTell {x1 x2 x3 : Int32} (G : Gc P F A) : ok (e_SleepWork_tell P F A J x1 x2 x3) (CBc P F A) := by
  have l0 : (0 : Int32).toInt = 0 := by decide
  have l1 : (1 : Int32).toInt = 1 := by decide
  have l30 : (30 : Int32).toInt = 30 := by decide
  have a1 : 0 ≤ (F 25 2).toInt ∧ (F 25 2).toInt ≤ 30 := G.1.1 25 2
  unfold e_SleepWork_tell
  refine ok_chk G.k08 ?_
  refine ok_call (s_hasStep G.k08 G.1) ?_
  intro w wp
  refine ok_cond (fun _ => cb0 G) (fun c2 => ?_)
  rw [i_neq, l0] at c2
  have b := wp.resolve_left c2
  refine ok_cond (fun _ => cb0 G) (fun _ => ?_)
  refine ok_cond (fun _ => cb0 G) (fun _ => ?_)
  unfold e_Told_isFull
  have full : ok (cond (g_cnd .lt (F 25 2) 30) (some (0 : Int32)) (some 1)) (fun v => v.toInt = 1 ∨ (v.toInt = 0 ∧ (F 25 2).toInt < 30)) := by
    refine ok_cond (fun c => ?_) (fun _ => ok_some (.inl l1))
    rw [i_lt] at c
    exact ok_some (.inr ⟨l0, by omega⟩)
  refine ok_call full ?_
  intro v6 v6p
  refine ok_cond (fun c6 => ?_) (fun _ => cb0 G)
  rw [i_eq] at c6
  have m := i_mulR (c := 6) (k := 6) (x := x1) (by decide) (by omega) (by omega)
  have d := i_add (x := x1 * 6) (y := x2) (by omega) (by omega)
  have e2 := i_add (x := F 25 2) (y := 1) (by omega) (by omega)
  unfold e_Told_add
  have body : ok ((c_st A 25 1 30 (F 25 2) ((x1 * 6) + x2)).bind fun A1 => (c_st A1 25 2 30 (F 25 2) x3).bind fun A2 => (c_pf F 25 2 ((F 25 2) + 1)).bind fun F3 => some ((F3 25 2) - 1, P, F3, A2, J)) (CBc P F A) := by
    refine ok_cst (by omega) (by omega) ?_
    intro A2 U2
    refine ok_cst (by omega) (by omega) ?_
    intro A3 U3
    refine ok_cpf ?_
    intro F4 U4
    have q4 := (((QKc.rfl' (P := P) G.1).st U2 (show 0 ≤ (x1 * 6 + x2).toInt ∧ (x1 * 6 + x2).toInt ≤ 35 by omega) ⟨fun h => absurd h (by decide), fun h => absurd h (by decide)⟩).st U3 trivial ⟨fun h => absurd h (by decide), fun h => absurd h (by decide)⟩).pf U4 (show 0 ≤ (F 25 2 + 1).toInt ∧ (F 25 2 + 1).toInt ≤ 30 by omega) (by decide)
    exact ok_some (QKc.cb G q4)
  refine ok_call body ?_
  rintro ⟨v, P2, F2, A2, J2⟩ hr
  exact ok_some hr
theorem h_cForget (G : Gc P F A) : ok (e_SleepWork_forget P F A J) (CBc P F A) := by
  unfold e_SleepWork_forget
  refine ok_cpf ?_
  intro F2 U2
  have q2 := (QKc.rfl' (P := P) G.1).pf U2 (show 0 ≤ (0 : Int32).toInt ∧ (0 : Int32).toInt ≤ 30 by decide) (by decide)
  exact cb_stale (q2.g G) (pe (q2.2.2.2.2.2.2 1)) q2.hk
theorem h_cFits {n : Nat} {x1 x2 x3 : Int32} (G : Gc P F A) (hn : 1800 ≤ n) : ok (e_SleepWork_fits n P F A J x1 x2 x3) (CBc P F A) := by
  have l0 : (0 : Int32).toInt = 0 := by decide
  have lm : (-1 : Int32).toInt = -1 := by decide
  unfold e_SleepWork_fits
  refine ok_call (s_isMan G) ?_
  intro v vp
  refine ok_cond (fun _ => cb0 G) (fun c => ?_)
  rw [i_neq, l0] at c
  have a := vp.resolve_left c
  refine ok_call s_isKnownBy ?_
  intro w _
  refine ok_cond (fun _ => cb0 G) (fun _ => ?_)
  refine ok_cond (fun c3 => ?_) (fun _ => cb0 G)
  rw [i_ge] at c3
  refine ok_call (s_fits G ⟨by omega, by omega⟩ (by omega)) ?_
  rintro ⟨u, P2, F2, A2, J2⟩ q
  dsimp only at q ⊢
  refine ok_cond (fun c4 => ?_) (fun _ => ok_some (QKc.cb G q))
  rw [i_ne] at c4
  refine ok_cond (fun _ => ok_some (QKc.cb G q)) (fun c5 => ?_)
  rw [i_nge] at c5
  have a1 : 0 ≤ (F2 32 15).toInt ∧ (F2 32 15).toInt ≤ 37 := q.2.1.1 32 15
  refine ok_ldn (by omega) (by omega) (fun v13 => ?_)
  exact ok_call s_codeOf (fun v _ => ok_some (QKc.cb G q))
theorem h_cSuspects {n : Nat} {x1 : Int32} (G : Gc P F A) (hn : 1800 ≤ n) : ok (e_SleepWork_suspects n P F A J x1) (CBc P F A) := by
  have l0 : (0 : Int32).toInt = 0 := by decide
  unfold e_SleepWork_suspects
  refine ok_call s_isKnownBy ?_
  intro w _
  refine ok_cond (fun _ => cb0 G) (fun _ => ?_)
  unfold e_Evening_suspectBits
  refine ok_call (s_suspectBits_4 G (by decide) (by omega)) ?_
  rintro ⟨v, P2, F2, A2, J2⟩ q
  exact ok_some (QKc.cb G q)
theorem h_cPairs {n : Nat} {x1 x2 x3 : Int32} (G : Gc P F A) (hn : 1800 ≤ n) : ok (e_SleepWork_pairs n P F A J x1 x2 x3) (CBc P F A) := by
  have l0 : (0 : Int32).toInt = 0 := by decide
  have lm : (-1 : Int32).toInt = -1 := by decide
  unfold e_SleepWork_pairs
  refine ok_call (s_areTwoMen G) ?_
  intro v vp
  refine ok_cond (fun _ => cb0 G) (fun c => ?_)
  rw [i_neq, l0] at c
  have a := vp.resolve_left c
  refine ok_call s_isKnownBy ?_
  intro w _
  refine ok_cond (fun _ => ?_) (fun _ => cb0 G)
  unfold e_Evening_fittingPairs
  refine ok_call (s_pairs_6 ⟨by omega, by omega⟩ ⟨by omega, by omega⟩ G (QKc.rfl' G.1) (by decide) (by omega)) ?_
  rintro ⟨v, P2, F2, A2, J2⟩ q
  exact ok_some (QKc.cb G q)
theorem h_cHold {x1 : Int32} (G : Gc P F A) : ok (e_SleepWork_hold P F A J x1) (CBc P F A) := by
  have l0 : (0 : Int32).toInt = 0 := by decide
  have l3 : (3 : Int32).toInt = 3 := by decide
  unfold e_SleepWork_hold
  refine ok_cond (fun _ => cb0 G) (fun c => ?_)
  rw [i_nlt] at c
  refine ok_cond (fun c2 => ?_) (fun _ => cb0 G)
  rw [i_lt] at c2
  have kk := k_sl (m := x1.toInt.toNat) (by omega)
  refine ok_car (by omega) (by omega) kk.1 ?_
  refine ok_call (s_copy (r1 := 2) kk.1 (by omega) G.1) ?_
  rintro ⟨u, P3, F3, A3, J3⟩ ⟨g1, g2, g3, g4, g5⟩
  dsimp only at g1 g2 g3 g4 g5 ⊢
  subst g1
  refine ok_cpf ?_
  intro F4 U4
  have a1 : 0 ≤ (F 0 10).toInt ∧ (F 0 10).toInt ≤ 7 := G.1.1 0 10
  have k10 : F3 0 10 = F 0 10 := g2 0 10 (by omega)
  rw [k10] at U4
  have ex : x1 = Int32.ofNat x1.toInt.toNat := i_nat (by omega)
  have eh : F 0 10 = Int32.ofNat (F 0 10).toInt.toNat := i_nat (by omega)
  have rg : 0 ≤ (F 0 10 ||| (1 <<< (x1 &&& 31))).toInt ∧ (F 0 10 ||| (1 <<< (x1 &&& 31))).toInt ≤ 7 := by
    have := b_rng ⟨(F 0 10).toInt.toNat, by omega⟩ ⟨x1.toInt.toNat, by omega⟩
    rw [← ex, ← eh] at this
    exact this
  have R4 := g4.pf U4 rg
  have t3 : ∀ r k, ¬ (r = 0 ∧ k = 10) → r ≠ 29 + x1.toInt.toNat → F4 r k = F r k := fun r k a b => (U4.2 r k a).trans (g2 r k b)
  have hne := G.nk kk.1
  refine ok_some ⟨G.mk2 (r0 := 29 + x1.toInt.toNat) R4 rfl rfl rfl (fun q hq k => t3 q k (by omega) (by omega)) (fun q hq o _ => g3 q o (by omega)) (fun r _ _ _ h => g3 r 3 h) (fun m m0 m1 => ?_) (fun u u0 u1 => .inr ⟨u, u0, ?_, ?_⟩) (fun s s0 h => ?_), pe (t3 1 1 (by simp) (by omega)), rfl, fun q hq => ⟨fun k => t3 q k (by omega) (by omega), fun o _ => g3 q o (by omega)⟩⟩
  · rw [show ((1 : Int32), P3, F4, A3, J3).2.2.2.1 = A3 from rfl, g5 m m0 m1]
    exact (G.2.2.2.2.1 m m0 m1).cg (g3 _ 5 hne)
  · have u2 : u < (F4 4 2).toInt := u1
    rw [t3 4 2 (by simp) (by omega)] at u2
    exact u2
  · show ((F4 4 1).toInt + u) % 20 = _
    rw [t3 4 1 (by simp) (by omega)]
    rfl
  · have h' : (F4 0 10 &&& (1 <<< (Int32.ofNat s &&& 31))) ≠ 0 := h
    rw [U4.1] at h'
    have bh := b_hold ⟨(F 0 10).toInt.toNat, by omega⟩ ⟨x1.toInt.toNat, by omega⟩ ⟨s, s0⟩
    rw [← ex, ← eh] at bh
    rcases bh h' with z | z
    · left
      have z' : s = x1.toInt.toNat := z
      omega
    · exact .inr z
theorem h_cRestore {x1 : Int32} (G : Gc P F A) : ok (e_SleepWork_restore P F A J x1) (CBc P F A) := by
  have l0 : (0 : Int32).toInt = 0 := by decide
  have l3 : (3 : Int32).toInt = 3 := by decide
  unfold e_SleepWork_restore
  refine ok_cond (fun _ => cb0 G) (fun c => ?_)
  rw [i_nlt] at c
  refine ok_cond (fun _ => cb0 G) (fun c2 => ?_)
  rw [i_nge] at c2
  refine ok_cond (fun c3 => ?_) (fun _ => cb0 G)
  rw [i_ne] at c3
  have kk := k_sl (m := x1.toInt.toNat) (by omega)
  have ex : x1 = Int32.ofNat x1.toInt.toNat := i_nat (by omega)
  refine ok_car (by omega) (by omega) kk.1 ?_
  have lv : LVc A (P 0 8) (29 + x1.toInt.toNat) := G.2.2.2.2.2.2 x1.toInt.toNat (by omega) (by rw [← ex]; exact fun e => c3 (by rw [e]))
  refine ok_call (s_copy (r0 := 2) (r1 := 29 + x1.toInt.toNat) (by decide) (by omega) G.1) ?_
  rintro ⟨u, P3, F3, A3, J3⟩ hc
  have hp := hc.1
  dsimp only at hp ⊢
  subst hp
  obtain ⟨G3, e11⟩ := Gc.now (r1 := 2) G hc (fun m m0 m1 => lv m m0 m1) (fun r k h => rfl) rfl (Int.le_refl _)
  dsimp only at G3 e11
  refine ok_cpf ?_
  intro F4 U4
  have G4 : Gc P3 F4 A3 := G3.mk2 (r0 := 2) (G3.1.pf U4 (show 0 ≤ (0 : Int32).toInt ∧ (0 : Int32).toInt ≤ 20 by decide)) rfl rfl rfl (fun q hq k => U4.2 q k (by omega)) (fun _ _ _ _ => rfl) (fun _ _ _ _ _ => rfl) G3.2.2.2.2.1 (fun u u0 u1 => absurd u1 (by unfold cf; rw [U4.1]; omega)) (fun s _ h => .inr (by rw [U4.2 0 10 (by simp)] at h; exact h))
  exact cb_stale G4 (pe ((U4.2 1 1 (by simp)).trans e11)) ((hc.hk (F := F) (fun _ _ _ => rfl)).tr ⟨rfl, fun q hq => ⟨fun k => U4.2 q k (by omega), fun _ _ => rfl⟩⟩)
theorem TPc.hk (t : TPc F F' A A') : HK P F A P F' A' := ⟨rfl, fun q hq => ⟨fun k => t.1 q k (by omega), fun o _ => t.2.1 q o (by omega)⟩⟩
theorem h_cFeed {n : Nat} {F : Nat → Nat → Int32} {A : Nat → Nat → Nat → Int32} {x1 x2 x3 x4 x5 : Int32} (G : Gc P F A) (hn : 50 ≤ n) : ok (e_SleepWork_feed n P F A J x1 x2 x3 x4 x5) (fun r => HK P F A r.2.1 r.2.2.1 r.2.2.2.1 ∧ (Gc r.2.1 r.2.2.1 r.2.2.2.1 ∧ r.2.1 32 9 = P 32 9) ∧ ((cf F 1 1 + 20 ≤ 2000 ∧ r.1.toInt = cf F 1 1 + 20 ∧ cf r.2.2.1 1 1 = cf F 1 1 + 20) ∨ (2000 < cf F 1 1 + 20 ∧ r.1.toInt = -1 ∧ cf r.2.2.1 1 1 = cf F 1 1))) := by
  have l0 : (0 : Int32).toInt = 0 := by decide
  have l1 : (1 : Int32).toInt = 1 := by decide
  have l20 : (20 : Int32).toInt = 20 := by decide
  have l2 : (2000 : Int32).toInt = 2000 := by decide
  have lm : (-1 : Int32).toInt = -1 := by decide
  have a1 : 0 ≤ (F 1 1).toInt ∧ (F 1 1).toInt ≤ 2000 := G.1.1 1 1
  have e1 := i_add (x := F 1 1) (y := 20) (by omega) (by omega)
  unfold e_SleepWork_feed e_Tape_hasSpace
  have sp : ok (cond (g_cnd .gt ((F 1 1) + 20) 2000) (some (0 : Int32)) (some 1)) (fun v => (v.toInt = 0 ∧ 2000 < cf F 1 1 + 20) ∨ (v.toInt = 1 ∧ cf F 1 1 + 20 ≤ 2000)) := by
    unfold cf
    refine ok_cond (fun c => ?_) (fun c => ?_)
    · rw [i_gt] at c
      exact ok_some (.inl ⟨l0, by omega⟩)
    · rw [i_ngt] at c
      exact ok_some (.inr ⟨l1, by omega⟩)
  refine ok_call sp ?_
  intro v vp
  refine ok_cond (fun c => ?_) (fun c => ?_)
  · rw [i_ne, l0] at c
    refine ok_call (s_addWord G.1 (by omega) (by omega)) ?_
    rintro ⟨u2, P2, F2, A2, J2⟩ ⟨g2, t2, s2⟩
    dsimp only at g2 t2 s2 ⊢
    subst g2
    refine ok_call (s_addWord t2.2.2 (by omega) (by omega)) ?_
    rintro ⟨u3, P3, F3, A3, J3⟩ ⟨g3, t3, s3⟩
    dsimp only at g3 t3 s3 ⊢
    subst g3
    refine ok_call (s_addWord t3.2.2 (by omega) (by omega)) ?_
    rintro ⟨u4, P4, F4, A4, J4⟩ ⟨g4, t4, s4⟩
    dsimp only at g4 t4 s4 ⊢
    subst g4
    refine ok_call (s_addWord t4.2.2 (by omega) (by omega)) ?_
    rintro ⟨u5, P5, F5, A5, J5⟩ ⟨g5, t5, s5⟩
    dsimp only at g5 t5 s5 ⊢
    subst g5
    refine ok_call (s_addWord t5.2.2 (by omega) (by omega)) ?_
    rintro ⟨u6, P6, F6, A6, J6⟩ ⟨g6, t6, s6⟩
    dsimp only at g6 t6 s6 ⊢
    subst g6
    have tt := (((t2.tr t3).tr t4).tr t5).tr t6
    refine ok_some ⟨tt.hk, ⟨tt.g G, rfl⟩, .inl ⟨by omega, ?_, ?_⟩⟩
    · show cf F6 1 1 = _
      omega
    · show cf F6 1 1 = _
      omega
  · rw [i_nne, l0] at c
    exact ok_some ⟨HK.rfl', ⟨G, rfl⟩, .inr ⟨by omega, lm, rfl⟩⟩
theorem h_cBack {F : Nat → Nat → Int32} {A : Nat → Nat → Nat → Int32} {x1 : Int32} (G : Gc P F A) : ok (e_SleepWork_back P F A J x1) (fun r => HK P F A r.2.1 r.2.2.1 r.2.2.2.1 ∧ (Gc r.2.1 r.2.2.1 r.2.2.2.1 ∧ r.2.1 32 9 = P 32 9) ∧ ((0 ≤ x1.toInt ∧ x1.toInt ≤ cf F 1 1 ∧ r.1.toInt = cf F 1 1 - x1.toInt ∧ cf r.2.2.1 1 1 = cf F 1 1 - x1.toInt) ∨ ((x1.toInt < 0 ∨ cf F 1 1 < x1.toInt) ∧ r.1.toInt = -1 ∧ cf r.2.2.1 1 1 = cf F 1 1))) := by
  have l0 : (0 : Int32).toInt = 0 := by decide
  have lm : (-1 : Int32).toInt = -1 := by decide
  have a1 : 0 ≤ (F 1 1).toInt ∧ (F 1 1).toInt ≤ 2000 := G.1.1 1 1
  unfold e_SleepWork_back
  refine ok_cond (fun c => ?_) (fun c => ?_)
  · rw [i_lt] at c
    exact ok_some ⟨HK.rfl', ⟨G, rfl⟩, .inr ⟨.inl (by omega), lm, rfl⟩⟩
  · rw [i_nlt] at c
    refine ok_cond (fun c2 => ?_) (fun c2 => ?_)
    · rw [i_le] at c2
      have e1 := i_sub (x := F 1 1) (y := x1) (by omega) (by omega)
      refine ok_cpf ?_
      intro F2 U2
      have t : TPc F F2 A A := ⟨U2.2, fun _ _ _ => rfl, G.1.pf U2 (show 0 ≤ (F 1 1 - x1).toInt ∧ (F 1 1 - x1).toInt ≤ 2000 by omega)⟩
      have k2 : (F2 1 1).toInt = (F 1 1).toInt - x1.toInt := by rw [U2.1]; omega
      exact ok_some ⟨t.hk, ⟨t.g G, rfl⟩, .inl ⟨by omega, c2, k2, k2⟩⟩
    · rw [i_nle] at c2
      exact ok_some ⟨HK.rfl', ⟨G, rfl⟩, .inr ⟨.inr c2, lm, rfl⟩⟩
end H9eu
