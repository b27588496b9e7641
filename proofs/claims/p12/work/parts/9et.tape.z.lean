section Qz127
/-! the tapes and read, side by side -/
section D3
variable {JW JK : Nat → Int64} {n m : Nat} {P : Nat → Nat → Nat} {F : Nat → Nat → Int32} {A : Nat → Nat → Nat → Int32} {J : Nat → Nat → Nat → Int64} {Fm : Nat → Int32} {Am : Nat → Nat → Int32} {Jm : Nat → Nat → Int64} {x1 x2 x3 x4 x5 : Int32}
theorem nar_n (v : Int32) : vp_nar .byte (vp_nar .byte v) = vp_nar .byte v := by
  show (v.toInt8.toInt32).toInt8.toInt32 = v.toInt8.toInt32
  rw [Int8.toInt8_toInt32]
def TPr (J : Nat → Nat → Nat → Int64) (Jm : Nat → Nat → Int64) {α β : Type} (a : cR α) (b : mR β) : Prop := TPx a.2.2.1 a.2.2.2.1 b.2.1 b.2.2.1 ∧ a.2.2.2.2 = J ∧ b.2.2.2 = Jm
theorem p2_put3 : ∀ {n m : Nat} {P : Nat → Nat → Nat} {F : Nat → Nat → Int32} {A : Nat → Nat → Nat → Int32} {Fm : Nat → Int32} {Am : Nat → Nat → Int32} {x2 : Int32}, TPx F A Fm Am → P2 (e_Tape_addWord_3 n P F A J x1 x2) (d_put_3 m Fm Am Jm x1 x2) (TPr J Jm) := by
  have l2 : (2000 : Int32).toInt = 2000 := by decide
  have l1 := i_1
  intro n
  induction n with
  | zero => intro m P F A Fm Am x2 _ a b ha _; cases ha
  | succ n ih =>
    intro m P F A Fm Am x2 tp
    cases m with
    | zero => intro a b _ hb; cases hb
    | succ m =>
      unfold e_Tape_addWord_3 d_put_3
      by_cases c : g_cnd .lt x2 0 = true
      · rw [c, cond_true, cond_true]
        exact p2_some ⟨tp, rfl, rfl⟩
      · rw [Bool.not_eq_true] at c
        rw [c, cond_false, cond_false]
        refine p2_br (fun Am2 e2 => ?_)
        have a2 := gg_st e2
        have ef := tp.1
        rw [i_nge.mpr (by rw [l2, ef]; have := a2.2.1; omega), cond_false]
        refine p2_bl (fun A3 e3 => ?_)
        have a3 := (gg_cst e3).2.2
        refine p2_bl (fun F4 e4 => ?_)
        have u4 := gg_cpf e4
        refine p2_br (fun Fm3 e5 => ?_)
        have u5 := gg_pf e5
        rw [ef] at a3
        have f4 : F4 1 1 = Fm3 2 := by rw [u4.1, u5.1, ef]
        have s5 : (Fm3 2).toInt = (Fm 2).toInt + 1 := by rw [u5.1, i_add (by omega) (by omega), i_1]
        refine ih ⟨f4, fun i hi => ?_⟩
        by_cases e : (i : Int) = (Fm 2).toInt
        · have ei : i = (Fm 2).toInt.toNat := by omega
          have w1 : (A3 1 1 (Fm 2).toInt.toNat).toInt = _ := a3.1
          have w2 : (Am2 1 (Fm 2).toInt.toNat).toInt = _ := a2.2.2.2.1
          rw [ei]
          have w3 := i_ext w2
          exact ⟨i_ext (w1.trans w2.symm), by rw [w3, nar_n]⟩
        · have w1 : A3 1 1 i = A 1 1 i := i_ext (a3.2.1 (i : Int) (by omega) e)
          have w2 : Am2 1 i = Am 1 i := ai_nat (a2.2.2.2.2 (i : Int) (by omega) e)
          rw [w1, w2]
          exact tp.2 i (by omega)
theorem p2_put (tp : TPx F A Fm Am) : P2 (e_Tape_addWord n P F A J x1) (d_put m Fm Am Jm x1) (TPr J Jm) := p2_put3 tp
theorem p2_feed (tp : TPx F A Fm Am) : P2 (e_SleepWork_feed n P F A J x1 x2 x3 x4 x5) (d_feed m Fm Am Jm x1 x2 x3 x4 x5) (TPr J Jm) := by
  unfold e_SleepWork_feed e_Tape_hasSpace d_feed
  rw [tp.1]
  by_cases c : ((Fm 2) + 20).toInt ≤ (2000 : Int32).toInt
  · rw [i_ngt.mpr c, cond_false, Option.bind_some, i_ne.mpr (by decide), cond_true, i_le.mpr c, cond_true]
    refine p2_call (p2_put tp) ?_
    rintro ⟨_, P1, F1, A1, J1⟩ ⟨_, Fm1, Am1, Jm1⟩ ⟨t1, rfl, rfl⟩
    refine p2_call (p2_put t1) ?_
    rintro ⟨_, P2, F2, A2, J2⟩ ⟨_, Fm2, Am2, Jm2⟩ ⟨t2, rfl, rfl⟩
    refine p2_call (p2_put t2) ?_
    rintro ⟨_, P3, F3, A3, J3⟩ ⟨_, Fm3, Am3, Jm3⟩ ⟨t3, rfl, rfl⟩
    refine p2_call (p2_put t3) ?_
    rintro ⟨_, P4, F4, A4, J4⟩ ⟨_, Fm4, Am4, Jm4⟩ ⟨t4, rfl, rfl⟩
    refine p2_call (p2_put t4) ?_
    rintro ⟨_, P5, F5, A5, J5⟩ ⟨_, Fm5, Am5, Jm5⟩ ⟨t5, rfl, rfl⟩
    exact p2_some ⟨t5, rfl, rfl⟩
  · rw [i_gt.mpr (by omega), cond_true, Option.bind_some, i_nne.mpr rfl, cond_false, i_nle.mpr (by omega), cond_false]
    exact p2_some ⟨tp, rfl, rfl⟩
theorem p2_back (tp : TPx F A Fm Am) (r2 : 0 ≤ (Fm 2).toInt) : P2 (e_SleepWork_back P F A J x1) (d_back Fm Am Jm x1) (TPr J Jm) := by
  unfold e_SleepWork_back d_back
  rw [tp.1]
  by_cases c : x1.toInt < 0
  · rw [i_lt.mpr (by rw [i_0]; exact c), cond_true, cond_true]
    exact p2_some ⟨tp, rfl, rfl⟩
  · rw [i_nlt.mpr (by rw [i_0]; omega), cond_false, cond_false]
    by_cases c2 : x1.toInt ≤ (Fm 2).toInt
    · rw [i_le.mpr c2, cond_true, cond_true]
      refine p2_bl (fun F3 e3 => ?_)
      have u3 := gg_cpf e3
      refine p2_br (fun Fm3 e4 => ?_)
      have u4 := gg_pf e4
      have rr := i_rng (Fm 2)
      have s : (Fm3 2).toInt = (Fm 2).toInt - x1.toInt := by rw [u4.1, i_sub (by omega) (by omega)]
      exact p2_some ⟨⟨by show F3 1 1 = Fm3 2; rw [u3.1, u4.1], fun i hi => tp.2 i (by have hi : (i : Int) < (Fm3 2).toInt := hi; omega)⟩, rfl, rfl⟩
    · rw [i_nle.mpr (by omega), cond_false, cond_false]
      exact p2_some ⟨tp, rfl, rfl⟩
theorem p2_bindl {α β γ : Type} {o : Option α} {z : Option β} {f : α → Option γ} {R : α → β → Prop} {Q : γ → β → Prop} (h : P2 o z R) (k : ∀ a b, R a b → po (f a) (fun c => Q c b)) : P2 (o.bind f) z Q := by
  intro c b hc hb
  obtain ⟨a, ha, hc⟩ := Option.bind_eq_some_iff.mp hc
  exact k a b (h a b ha hb) c hc
theorem jc_copy {q q' : Nat} {w : Nat → Int64} (h : J 37 6 = w) : po (e_State_copy P F A J q q') (JP w) := by
  unfold e_State_copy
  exact po_bl (fun _ _ => po_bl (fun _ _ => po_bl (fun _ _ => po_bl (fun _ _ => po_bl (fun _ _ => po_bl (fun _ _ => po_bl (fun _ _ => po_bl (fun _ _ => po_bl (fun _ _ => po_some h)))))))))
theorem jc_stale {w : Nat → Int64} (h : J 37 6 = w) : po (e_Evening_setStale P F A J) (JP w) := by
  unfold e_Evening_setStale
  exact po_bl (fun _ _ => po_some h)
theorem jc_drop {w : Nat → Int64} (h : J 37 6 = w) : po (e_Ways_drop P F A J) (JP w) := by
  unfold e_Ways_drop
  repeat' (first | exact po_some h | refine po_cond (fun _ => ?_) (fun _ => ?_) | refine po_bl (fun _ _ => ?_))
theorem jc_enter {q : Nat} {w : Nat → Int64} (h : J 37 6 = w) : po (e_Evening_enter P F A J q) (JP w) := by
  unfold e_Evening_enter
  refine po_bl (fun _ _ => ?_)
  refine po_call (jc_drop h) ?_
  rintro ⟨_, P1, F1, A1, J1⟩ h1
  refine po_call (jc_stale h1) ?_
  rintro ⟨_, P2, F2, A2, J2⟩ h2
  exact po_some h2
theorem jc_move {w : Nat → Int64} (h : J 37 6 = w) : po (e_SleepWork_moveIn P F A J) (JP w) := by
  unfold e_SleepWork_moveIn
  refine po_bl (fun _ _ => po_bl (fun _ _ => po_bl (fun _ _ => po_bl (fun _ _ => ?_))))
  refine po_call (jc_copy h) ?_
  rintro ⟨_, P1, F1, A1, J1⟩ h1
  refine po_bl (fun _ _ => po_bl (fun _ _ => po_bl (fun _ _ => po_bl (fun _ _ => ?_))))
  refine po_call (jc_enter h1) ?_
  rintro ⟨_, P2, F2, A2, J2⟩ h2
  exact po_some h2
/-- read, on both sides -/
theorem p2_cread (hW : WKx JW JK) (G : Gc P F A) (S : SAm Fm Am) (tp : TPx F A Fm Am) (jw : J 37 6 = JW) (jk : Jm 7 = JK) (hn : 6000 ≤ n) (hm : 12100 ≤ m) : P2 (e_SleepWork_read n P F A J) (d_read m Fm Am Jm) (fun a b => a.1 = b.1 ∧ JP JW a ∧ JQ JK b) := by
  unfold e_SleepWork_read
  refine p2_bl (fun q1 h1 => ?_)
  obtain ⟨hk, rfl⟩ := gg_chk h1
  refine p2_bindl (p2_read hW hk G.1 S tp jw jk hn hm) ?_
  rintro ⟨v2, P3, F4, A5, J6⟩ b ⟨e1, ja, jb, -, -⟩
  dsimp only at e1 ⊢
  refine po_bl (fun _ _ => po_bl (fun _ _ => po_bl (fun _ _ => po_cond (fun _ => po_some ⟨e1, ja, jb⟩) (fun _ => ?_))))
  refine po_call (jc_move ja) ?_
  rintro ⟨_, P4, F5, A6, J7⟩ h2
  exact po_some ⟨e1, h2, jb⟩
end D3
end Qz127
section Qz128
/-! the class's calls: the house in use stays (printed by wip/h5.py) -/
section H9eu
variable {P P' P1 : Nat → Nat → Nat} {F F' F1 : Nat → Nat → Int32} {A A' A1 : Nat → Nat → Nat → Int32} {J : Nat → Nat → Nat → Int64} {r0 : Nat}
/-- both houses are as they were -/
def HK (P : Nat → Nat → Nat) (F : Nat → Nat → Int32) (A : Nat → Nat → Nat → Int32) (P' : Nat → Nat → Nat) (F' : Nat → Nat → Int32) (A' : Nat → Nat → Nat → Int32) : Prop := P' 0 8 = P 0 8 ∧ ∀ q, q = 27 ∨ q = 28 → (∀ k, F' q k = F q k) ∧ (∀ o, o ≠ 17 → A' q o = A q o)
theorem HK.rfl' : HK P F A P F A := ⟨rfl, fun _ _ => ⟨fun _ => rfl, fun _ _ => rfl⟩⟩
theorem HK.tr (h : HK P F A P1 F1 A1) (h' : HK P1 F1 A1 P' F' A') : HK P F A P' F' A' := ⟨h'.1.trans h.1, fun q hq => ⟨fun k => ((h'.2 q hq).1 k).trans ((h.2 q hq).1 k), fun o ho => ((h'.2 q hq).2 o ho).trans ((h.2 q hq).2 o ho)⟩⟩
theorem HK.st {o : Nat} {i v : Int} (U : CUm A A' 2 o i v) : HK P F A P F A' := ⟨rfl, fun q hq => ⟨fun _ => rfl, fun o _ => U.2.2 q o (by omega)⟩⟩
theorem QKc.hk (q : QKc P P' F F' A A') : HK P F A P' F' A' := ⟨q.1 0 8 (by decide), q.2.2.1⟩
/-- a call's end -/
def CBc (P : Nat → Nat → Nat) (F : Nat → Nat → Int32) (A : Nat → Nat → Nat → Int32) (r : Int32 × (Nat → Nat → Nat) × (Nat → Nat → Int32) × (Nat → Nat → Nat → Int32) × (Nat → Nat → Nat → Int64)) : Prop := Gc r.2.1 r.2.2.1 r.2.2.2.1 ∧ (r.2.2.1 1 1, r.2.1 32 9) = (F 1 1, P 32 9) ∧ HK P F A r.2.1 r.2.2.1 r.2.2.2.1
theorem QKc.cb {r : Int32 × (Nat → Nat → Nat) × (Nat → Nat → Int32) × (Nat → Nat → Nat → Int32) × (Nat → Nat → Nat → Int64)} (G : Gc P F A) (q : QKc P r.2.1 F r.2.2.1 A r.2.2.2.1) : CBc P F A r := ⟨q.g G, pe2 (q.2.2.2.2.2.2 1) (q.1 32 9 (by decide)), q.hk⟩
theorem cb0 {v : Int32} (G : Gc P F A) : ok (some (v, P, F, A, J)) (CBc P F A) := ok_some ⟨G, rfl, HK.rfl'⟩
/-- the end of a call that makes the evening stale -/
theorem cb_stale {v : Int32} {F1 : Nat → Nat → Int32} {A1 : Nat → Nat → Nat → Int32} {P1 : Nat → Nat → Nat} (G : Gc P1 F1 A1) (e : (F1 1 1, P1 32 9) = (F 1 1, P 32 9)) (h : HK P F A P1 F1 A1) : ok ((e_Evening_setStale P1 F1 A1 J).bind fun (_, P7, F8, A9, J10) => some (v, P7, F8, A9, J10)) (CBc P F A) := by
  refine ok_call (q_stale G) ?_
  rintro ⟨u, P2, F2, A2, J2⟩ ⟨-, -, q⟩
  dsimp only at q ⊢
  exact ok_some ⟨q.g G, (pe2 (q.2.2.2.2.2.2 1) (q.1 32 9 (by decide))).trans e, h.tr q.hk⟩
theorem h_cWay {n : Nat} {x1 x2 : Int32} (G : Gc P F A) (hn : 70 ≤ n) : ok (e_SleepWork_way n P F A J x1 x2) (CBc P F A) := by
  have l0 : (0 : Int32).toInt = 0 := by decide
  unfold e_SleepWork_way
  refine ok_call (s_isRoom G) ?_
  intro v vp
  refine ok_cond (fun _ => cb0 G) (fun c => ?_)
  rw [i_neq, l0] at c
  have a := vp.resolve_left c
  refine ok_call (s_isRoom G) ?_
  intro w wp
  refine ok_cond (fun c2 => ?_) (fun _ => cb0 G)
  rw [i_ne, l0] at c2
  have b := wp.resolve_left c2
  refine ok_call (q_minutesBetween G ⟨by omega, by omega⟩ ⟨by omega, by omega⟩ hn) ?_
  rintro ⟨v5, P2, F2, A2, J2⟩ q
  dsimp only at q ⊢
  exact ok_cond (fun _ => ok_some (QKc.cb G q)) (fun _ => ok_some (QKc.cb G q))
theorem h_cWhere {n : Nat} {x1 x2 : Int32} (G : Gc P F A) (hn : 70 ≤ n) : ok (e_SleepWork_where n P F A J x1 x2) (CBc P F A) := by
  have l0 : (0 : Int32).toInt = 0 := by decide
  unfold e_SleepWork_where
  refine ok_call (s_isMan G) ?_
  intro v vp
  refine ok_cond (fun _ => cb0 G) (fun c => ?_)
  rw [i_neq, l0] at c
  have a := vp.resolve_left c
  refine ok_cond (fun _ => cb0 G) (fun _ => ?_)
  refine ok_chk G.k08 ?_
  refine ok_cond (fun _ => ?_) (fun _ => cb0 G)
  refine ok_chk G.k08 ?_
  refine ok_ldc G.1 G.k08 (by omega) (by omega) ?_
  intro v7 v7e v7r
  change -1 ≤ v7.toInt ∧ v7.toInt ≤ 7 at v7r
  have h7 := G.2.2.2.1.2.1 x1.toInt (by omega) a.2.2.1
  refine ok_ldc (K := 2) G.1 (by decide) (by omega) (by omega) ?_
  intro v8 v8e _
  refine ok_cond (fun c8 => ?_) (fun _ => cb0 G)
  rw [i_ge] at c8
  have lv := G.2.2.2.2.1 x1.toInt (by omega) (by omega)
  have l2 : v8.toInt < 36 ∧ v8.toInt % 6 < ci A (P 0 8) 5 (v8.toInt / 6) := by
    rw [v8e]
    rcases lv with z | z
    · omega
    · exact ⟨z.2.1, z.2.2⟩
  refine ok_chk G.k08 ?_
  refine ok_div1 (by decide) ?_
  intro v11 e11
  have d11 : v11.toInt = v8.toInt / 6 := by rw [e11]; exact i_div6 (by omega)
  refine ok_ldc G.1 G.k08 (by omega) (by omega) ?_
  intro v12 v12e v12r
  change -1 ≤ v12.toInt ∧ v12.toInt ≤ 7 at v12r
  have h12 := G.2.2.2.1.2.2.1 v11.toInt (by omega) (by omega) (by rw [d11]; omega)
  refine ok_call (q_minutesBetween G ⟨by omega, by omega⟩ ⟨by omega, by omega⟩ hn) ?_
  rintro ⟨v5, P2, F2, A2, J2⟩ q
  dsimp only at q ⊢
  exact ok_cond (fun _ => ok_some (QKc.cb G q)) (fun _ => ok_some (QKc.cb G q))
theorem h_cLeave {x1 x2 x3 : Int32} (G : Gc P F A) : ok (e_SleepWork_leave P F A J x1 x2 x3) (CBc P F A) := by
  have l0 : (0 : Int32).toInt = 0 := by decide
  unfold e_SleepWork_leave
  refine ok_call (s_isMan G) ?_
  intro v vp
  refine ok_cond (fun c => ?_) (fun _ => cb0 G)
  rw [i_ne, l0] at c
  have a := vp.resolve_left c
  have f69 : ∀ {s2 : Int32}, LVx A (P 0 8) s2.toInt → ok (e_SleepWork_leave_69 P F A J x1 s2) (CBc P F A) := by
    intro s2 hs
    unfold e_SleepWork_leave_69
    refine ok_cst (by omega) (by omega) ?_
    intro A2 U2
    have n2 : P 0 8 ≠ 2 := fun e => absurd G.k08 (by rw [e]; decide)
    have G2 : Gc P F A2 := G.mk2 (r0 := 2) (G.1.st U2 trivial) rfl rfl rfl (fun _ _ _ => rfl) (fun q hq o _ => U2.2.2 q o (by omega)) (fun r _ _ _ h => U2.2.2 r 3 (fun e => h e.1)) (G.2.2.2.2.1.put U2 n2 hs) (fun u u0 u1 => .inr (G.kp u u0 u1)) (fun s _ h => .inr h)
    exact cb_stale G2 rfl (HK.st U2)
  have f25 : ∀ {s0 : Int32}, (s0.toInt = 0 ∨ s0.toInt ≠ 0) → ok (e_SleepWork_leave_25 P F A J x1 x2 x3 s0) (CBc P F A) := by
    intro s0 _
    unfold e_SleepWork_leave_25
    refine ok_cond (fun c1 => ?_) (fun c1 => ?_)
    · rw [i_ne] at c1
      unfold e_SleepWork_leave_46
      refine ok_cond (fun c2 => ?_) (fun _ => f69 (.inl (by decide)))
      rw [i_eq] at c2
      exact absurd c2 c1
    · refine ok_chk G.k08 ?_
      refine ok_call (s_hasStep G.k08 G.1) ?_
      intro w wp
      refine ok_cond (fun c2 => ?_) (fun _ => cb0 G)
      rw [i_ne, l0] at c2
      have b := wp.resolve_left c2
      unfold e_SleepWork_leave_46
      refine ok_cond (fun _ => ?_) (fun _ => f69 (.inl (by decide)))
      have m := i_mulR (c := 6) (k := 6) (x := x2) (by decide) (by omega) (by omega)
      have d := i_add (x := x2 * 6) (y := x3) (by omega) (by omega)
      refine f69 (.inr ⟨by omega, by omega, ?_⟩)
      rw [show (x2 * 6 + x3).toInt % 6 = x3.toInt by omega, show (x2 * 6 + x3).toInt / 6 = x2.toInt by omega]
      exact b.2.2.2.2.1
  have f24 : ok (e_SleepWork_leave_24 P F A J x1 x2 x3) (CBc P F A) := by
    unfold e_SleepWork_leave_24
    exact f25 (.inl l0)
  exact ok_cond (fun _ => f24) (fun _ => ok_cond (fun _ => f24) (fun _ => f25 (.inr (by decide))))
theorem h_cWork {x1 x2 : Int32} (G : Gc P F A) : ok (e_SleepWork_work P F A J x1 x2) (CBc P F A) := by
  have l0 : (0 : Int32).toInt = 0 := by decide
  unfold e_SleepWork_work
  refine ok_chk G.k08 ?_
  refine ok_call (s_hasStep G.k08 G.1) ?_
  intro w wp
  refine ok_cond (fun _ => cb0 G) (fun c2 => ?_)
  rw [i_neq, l0] at c2
  have b := wp.resolve_left c2
  refine ok_ldn (by omega) (by omega) (fun v4 => ?_)
  refine ok_cond (fun _ => ?_) (fun _ => cb0 G)
  refine ok_ldn (by omega) (by omega) (fun v6 => ?_)
  refine ok_cst (by omega) (by omega) ?_
  intro A2 U2
  have G2 := G.st2 U2 (by decide)
  refine ok_chk G2.k08 ?_
  have hu := G2.2.2.2.1.2.2.2.1 x1.toInt x2.toInt (by omega) (by omega) (by omega) (by rw [ci_fr (U2.2.2 _ 5 (by simp))]; omega)
  refine ok_call (s_finish (r1 := 2) G2.k08 (by decide) G2.1 (by omega) (by omega) hu) ?_
  rintro ⟨u, P3, F3, A3, J3⟩ ⟨g1, g2, g3, g4⟩
  dsimp only at g1 g2 g3 g4 ⊢
  subst g1
  subst g2
  have G3 : Gc P3 F3 A3 := G2.cg g4 ⟨fun q hq => ⟨fun _ => rfl, fun o _ => g3 q o (by omega)⟩, fun r _ _ _ => g3 r 3 (by simp), fun _ => rfl, rfl, fun _ => rfl⟩ rfl rfl rfl
  exact cb_stale G3 rfl ((HK.st U2).tr ⟨rfl, fun q hq => ⟨fun _ => rfl, fun o _ => g3 q o (by omega)⟩⟩)
theorem h_cLay {x1 x2 : Int32} (G : Gc P F A) : ok (e_SleepWork_lay P F A J x1 x2) (CBc P F A) := by
  have l0 : (0 : Int32).toInt = 0 := by decide
  unfold e_SleepWork_lay
  refine ok_call (s_isTool G) ?_
  intro v vp
  refine ok_cond (fun _ => cb0 G) (fun c => ?_)
  rw [i_neq, l0] at c
  have a := vp.resolve_left c
  refine ok_call (s_isRoom G) ?_
  intro w wp
  refine ok_cond (fun _ => ?_) (fun _ => cb0 G)
  refine ok_cst (by omega) (by omega) ?_
  intro A2 U2
  exact cb_stale (G.st2 U2 (by decide)) rfl (HK.st U2)
theorem h_cGive {x1 x2 : Int32} (G : Gc P F A) : ok (e_SleepWork_give P F A J x1 x2) (CBc P F A) := by
  have l0 : (0 : Int32).toInt = 0 := by decide
  unfold e_SleepWork_give
  refine ok_call (s_isTool G) ?_
  intro v vp
  refine ok_cond (fun _ => cb0 G) (fun c => ?_)
  rw [i_neq, l0] at c
  have a := vp.resolve_left c
  refine ok_call (s_isMan G) ?_
  intro w wp
  refine ok_cond (fun _ => ?_) (fun _ => cb0 G)
  refine ok_cst (by omega) (by omega) ?_
  intro A2 U2
  exact cb_stale (G.st2 U2 (by decide)) rfl (HK.st U2)
theorem h_cBar {x1 x2 : Int32} (G : Gc P F A) : ok (e_SleepWork_bar P F A J x1 x2) (CBc P F A) := by
  have f52 : ∀ s1 : Int32, ok (e_SleepWork_bar_52 P F A J 2 s1) (CBc P F A) := fun s1 => by
    unfold e_SleepWork_bar_52
    refine ok_cpf ?_
    intro F2 U2
    have q2 := (QKc.rfl' (P := P) G.1).pf U2 trivial (by decide)
    exact cb_stale (q2.g G) (pe (q2.2.2.2.2.2.2 1)) q2.hk
  unfold e_SleepWork_bar
  refine ok_cond (fun _ => cb0 G) (fun _ => ?_)
  refine ok_chk G.k08 ?_
  exact ok_cond (fun _ => ok_cond (fun _ => f52 _) (fun _ => f52 _)) (fun _ => cb0 G)
theorem h_push (G : Gc P F A) : ok (e_Past_push P F A J 2) (fun r => r.2.1 = P ∧ Gc r.2.1 r.2.2.1 r.2.2.2.1 ∧ r.2.2.1 1 1 = F 1 1 ∧ HK P F A r.2.1 r.2.2.1 r.2.2.2.1) := by
  have l1 : (1 : Int32).toInt = 1 := by decide
  have l20 : (20 : Int32).toInt = 20 := by decide
  have a1 : 0 ≤ (F 4 1).toInt ∧ (F 4 1).toInt ≤ 19 := G.1.1 4 1
  have a2 : 0 ≤ (F 4 2).toInt ∧ (F 4 2).toInt ≤ 20 := G.1.1 4 2
  unfold e_Past_push
  refine ok_cond (fun c => ?_) (fun c => ?_)
  · rw [i_ne, l20] at c
    have e2 := i_add (x := F 4 2) (y := 1) (by omega) (by omega)
    refine ok_cpf ?_
    intro F2 U2
    have k1 : F2 4 1 = F 4 1 := U2.2 4 1 (by simp)
    have k2 : (F2 4 2).toInt = (F 4 2).toInt + 1 := by rw [U2.1]; omega
    have e3 := i_add (x := F2 4 1) (y := F2 4 2) (by rw [k1]; omega) (by rw [k1]; omega)
    rw [k1] at e3
    have e4 := i_sub (x := F2 4 1 + F2 4 2) (y := 1) (by rw [k1]; omega) (by rw [k1]; omega)
    rw [k1] at e4
    refine ok_rem1 (by decide) ?_
    intro v3 e5
    have d3 : v3.toInt = ((F 4 1).toInt + (F 4 2).toInt) % 20 := by
      rw [e5, i_rem20 (by rw [k1]; omega), k1]
      have : (F 4 1 + F2 4 2 - 1).toInt = (F 4 1).toInt + (F 4 2).toInt := by omega
      rw [this]
    have kk := k_st (m := v3.toInt.toNat) (by omega)
    refine ok_car (by omega) (by omega) kk.1 ?_
    have R2 : Rc F2 A := G.1.pf U2 (show 0 ≤ (F 4 2 + 1).toInt ∧ (F 4 2 + 1).toInt ≤ 20 by omega)
    refine ok_call (s_copy (r1 := 2) kk.1 (by omega) R2) ?_
    rintro ⟨u, P3, F3, A3, J3⟩ ⟨g1, g2, g3, g4, g5⟩
    dsimp only at g1 g2 g3 g4 g5 ⊢
    subst g1
    have hne := G.nk kk.1
    have t1 : F3 4 1 = F 4 1 := (g2 4 1 (by omega)).trans k1
    have t2 : (F3 4 2).toInt = (F 4 2).toInt + 1 := by rw [g2 4 2 (by omega)]; exact k2
    have t3 : ∀ r k, r ≠ 4 → r ≠ 5 + v3.toInt.toNat → F3 r k = F r k := fun r k a b => (g2 r k b).trans (U2.2 r k (fun e => a e.1))
    have G3 : Gc P3 F3 A3 := by
      refine G.mk2 (r0 := 5 + v3.toInt.toNat) g4 rfl rfl rfl (fun q hq k => t3 q k (by omega) (by omega)) (fun q hq o _ => g3 q o (by omega)) (fun r _ _ _ h => g3 r 3 h) (fun m m0 m1 => ?_) (fun u u0 u1 => ?_) (fun s _ h => .inr ?_)
      · rw [g5 m m0 m1]
        exact (G.2.2.2.2.1 m m0 m1).cg (g3 _ 5 hne)
      · unfold cf at u1 ⊢
        rw [t1]
        by_cases e : u = (F 4 2).toInt
        · left
          rw [e, d3]
        · right
          exact ⟨u, u0, by omega, rfl⟩
      · rw [t3 0 10 (by decide) (by omega)] at h
        exact h
    exact ok_some ⟨rfl, G3, t3 1 1 (by decide) (by omega), rfl, fun q hq => ⟨fun k => t3 q k (by omega) (by omega), fun o _ => g3 q o (by omega)⟩⟩
  · rw [i_nne, l20] at c
    have e2 := i_add (x := F 4 1) (y := 1) (by omega) (by omega)
    refine ok_rem1 (by decide) ?_
    intro v10 e10
    have d10 : v10.toInt = ((F 4 1).toInt + 1) % 20 := by
      rw [e10, i_rem20 (by omega)]
      have : (F 4 1 + 1).toInt = (F 4 1).toInt + 1 := by omega
      rw [this]
    refine ok_cpf ?_
    intro F2 U2
    have k1 : (F2 4 1).toInt = v10.toInt := by rw [U2.1]
    have k2 : F2 4 2 = F 4 2 := U2.2 4 2 (by simp)
    unfold e_Past_push_35
    have e3 := i_add (x := F2 4 1) (y := F2 4 2) (by rw [k2]; omega) (by rw [k2]; omega)
    rw [k2] at e3
    have e4 := i_sub (x := F2 4 1 + F2 4 2) (y := 1) (by rw [k2]; omega) (by rw [k2]; omega)
    rw [k2] at e4
    refine ok_rem1 (by decide) ?_
    intro v3 e5
    have d3 : v3.toInt = (v10.toInt + 19) % 20 := by
      rw [e5, i_rem20 (by rw [k2]; omega), k2]
      have : (F2 4 1 + F 4 2 - 1).toInt = v10.toInt + 19 := by omega
      rw [this]
    have kk := k_st (m := v3.toInt.toNat) (by omega)
    refine ok_car (by omega) (by omega) kk.1 ?_
    have R2 : Rc F2 A := G.1.pf U2 (show 0 ≤ v10.toInt ∧ v10.toInt ≤ 19 by omega)
    refine ok_call (s_copy (r1 := 2) kk.1 (by omega) R2) ?_
    rintro ⟨u, P3, F3, A3, J3⟩ ⟨g1, g2, g3, g4, g5⟩
    dsimp only at g1 g2 g3 g4 g5 ⊢
    subst g1
    have hne := G.nk kk.1
    have t1 : (F3 4 1).toInt = v10.toInt := by rw [g2 4 1 (by omega)]; exact k1
    have t2 : (F3 4 2).toInt = 20 := by rw [g2 4 2 (by omega), k2]; exact c
    have t3 : ∀ r k, r ≠ 4 → r ≠ 5 + v3.toInt.toNat → F3 r k = F r k := fun r k a b => (g2 r k b).trans (U2.2 r k (fun e => a e.1))
    have G3 : Gc P3 F3 A3 := by
      refine G.mk2 (r0 := 5 + v3.toInt.toNat) g4 rfl rfl rfl (fun q hq k => t3 q k (by omega) (by omega)) (fun q hq o _ => g3 q o (by omega)) (fun r _ _ _ h => g3 r 3 h) (fun m m0 m1 => ?_) (fun u u0 u1 => ?_) (fun s _ h => .inr ?_)
      · rw [g5 m m0 m1]
        exact (G.2.2.2.2.1 m m0 m1).cg (g3 _ 5 hne)
      · unfold cf at u1 ⊢
        rw [t1]
        by_cases e : u = 19
        · left
          rw [e, d3]
        · right
          exact ⟨u + 1, by omega, by omega, by omega⟩
      · rw [t3 0 10 (by decide) (by omega)] at h
        exact h
    exact ok_some ⟨rfl, G3, t3 1 1 (by decide) (by omega), rfl, fun q hq => ⟨fun k => t3 q k (by omega) (by omega), fun o _ => g3 q o (by omega)⟩⟩
theorem CPc.hk {f : Int → Int} {r : Unit × (Nat → Nat → Nat) × (Nat → Nat → Int32) × (Nat → Nat → Nat → Int32) × (Nat → Nat → Nat → Int64)} {F0 : Nat → Nat → Int32} (h : CPc P F0 A 2 f r) (t3 : ∀ r k, r ≠ 4 → F0 r k = F r k) : HK P F A P r.2.2.1 r.2.2.2.1 := by
  obtain ⟨g1, g2, g3, g4, g5⟩ := h
  exact ⟨rfl, fun q hq => ⟨fun k => (g2 q k (by omega)).trans (t3 q k (by omega)), fun o _ => g3 q o (by omega)⟩⟩
theorem h_cUndo (G : Gc P F A) : ok (e_SleepWork_undo P F A J) (CBc P F A) := by
  have l0 : (0 : Int32).toInt = 0 := by decide
  have l1 : (1 : Int32).toInt = 1 := by decide
  have a1 : 0 ≤ (F 4 1).toInt ∧ (F 4 1).toInt ≤ 19 := G.1.1 4 1
  have a2 : 0 ≤ (F 4 2).toInt ∧ (F 4 2).toInt ≤ 20 := G.1.1 4 2
  unfold e_SleepWork_undo e_Past_pull
  have rest : ∀ {v : Int32} {F3 A3 J3}, Gc P F3 A3 → F3 1 1 = F 1 1 → HK P F A P F3 A3 → ok (cond (g_cnd .ne v 0) ((e_Evening_setStale P F3 A3 J3).bind fun (_, P8, F9, A10, J11) => some ((1 : Int32), P8, F9, A10, J11)) (some ((0 : Int32), P, F3, A3, J3))) (CBc P F A) := fun G3 e hk => ok_cond (fun _ => cb_stale G3 (pe e) hk) (fun _ => ok_some ⟨G3, pe e, hk⟩)
  have pull : ok (cond (g_cnd .ne (F 4 2) 0) ((c_pf F 4 2 ((F 4 2) - 1)).bind fun F2 => (m_rem ((F2 4 1) + (F2 4 2)) 20).bind fun v3 => (c_ar 20 5 2 v3).bind fun q4 => (e_State_copy P F2 A J 2 q4).bind fun (_, P6, F7, A8, J9) => some ((1 : Int32), P6, F7, A8, J9)) (some (0, P, F, A, J))) (fun r => r.2.1 = P ∧ Gc P r.2.2.1 r.2.2.2.1 ∧ r.2.2.1 1 1 = F 1 1 ∧ HK P F A P r.2.2.1 r.2.2.2.1) := by
    refine ok_cond (fun c => ?_) (fun _ => ok_some ⟨rfl, G, rfl, HK.rfl'⟩)
    rw [i_ne, l0] at c
    have e2 := i_sub (x := F 4 2) (y := 1) (by omega) (by omega)
    refine ok_cpf ?_
    intro F2 U2
    have k1 : F2 4 1 = F 4 1 := U2.2 4 1 (by simp)
    have k2 : (F2 4 2).toInt = (F 4 2).toInt - 1 := by rw [U2.1]; omega
    have e3 := i_add (x := F2 4 1) (y := F2 4 2) (by rw [k1]; omega) (by rw [k1]; omega)
    rw [k1] at e3
    refine ok_rem1 (by decide) ?_
    intro v3 e5
    have d3 : v3.toInt = ((F 4 1).toInt + ((F 4 2).toInt - 1)) % 20 := by
      rw [e5, i_rem20 (by rw [k1]; omega), k1]
      have : (F 4 1 + F2 4 2).toInt = (F 4 1).toInt + ((F 4 2).toInt - 1) := by omega
      rw [this]
    have kk := k_st (m := v3.toInt.toNat) (by omega)
    refine ok_car (by omega) (by omega) kk.1 ?_
    have R2 : Rc F2 A := G.1.pf U2 (show 0 ≤ (F 4 2 - 1).toInt ∧ (F 4 2 - 1).toInt ≤ 20 by omega)
    refine ok_call (s_copy (r0 := 2) (r1 := 5 + v3.toInt.toNat) (by decide) (by omega) R2) ?_
    rintro ⟨u, P3, F3, A3, J3⟩ hc
    have hp := hc.1
    dsimp only at hp
    have lv := G.2.2.2.2.2.1 ((F 4 2).toInt - 1) (by omega) (by unfold cf; omega)
    unfold cf at lv
    rw [← d3] at lv
    obtain ⟨G3, e11⟩ := Gc.now (r1 := 2) G hc (fun m m0 m1 => lv m m0 m1) (fun r k h => U2.2 r k (fun e => h e.1)) k1 (by unfold cf; omega)
    exact ok_some ⟨hp, G3, e11, hc.hk (fun r k h => U2.2 r k (fun e => h e.1))⟩
  refine ok_call pull ?_
  rintro ⟨v, P3, F3, A3, J3⟩ ⟨e1, G3, e11, hk⟩
  dsimp only at e1 G3 e11 hk ⊢
  subst e1
  exact rest G3 e11 hk
theorem h_cNight {n : Nat} (G : Gc P F A) (hn : 1500 ≤ n) : ok (e_SleepWork_night n P F A J) (CBc P F A) := by
  unfold e_SleepWork_night
  refine ok_call (h_push G) ?_
  rintro ⟨u, P2, F2, A2, J2⟩ ⟨g1, G2, e2, k2⟩
  dsimp only at g1 G2 e2 k2 ⊢
  refine ok_chk G2.k08 ?_
  refine ok_call (s_worthOfAll G2.k08 G2.1 (by omega)) ?_
  intro v7 _
  unfold e_Evening_goBy
  have goBy : ok ((c_chk 6 (P2 32 4)).bind fun q1 => (c_chk 6 (P2 32 4)).bind fun q2 => (e_Sleep_goTill n P2 F2 A2 J2 (F2 q1 18) q2 2).bind fun (_, P4, F5, A6, J7) => (c_pf F5 2 8 ((F5 2 8) + 1)).bind fun F8 => (e_Evening_setStale P4 F8 A6 J7).bind fun (_, P10, F11, A12, J13) => some ((), P10, F11, A12, J13)) (fun r => Gc r.2.1 r.2.2.1 r.2.2.2.1 ∧ (r.2.2.1 1 1, r.2.1 32 9) = (F 1 1, P 32 9) ∧ HK P F A r.2.1 r.2.2.1 r.2.2.2.1) := by
    refine ok_chk G2.k324 ?_
    refine ok_chk G2.k324 ?_
    rw [G2.2.2.1]
    refine ok_call (s_goTill G2.k08 (by decide) G2.1 G2.2.2.2.1 G2.2.2.2.2.1 G2.2.2.2.1.2.2.2.2.2.2 (by omega)) ?_
    rintro ⟨u, P3, F3, A3, J3⟩ ⟨o1, h1, h2, h3, h4, h5⟩
    dsimp only at o1 h1 h2 h3 h4 h5 ⊢
    have G3 : Gc P3 F3 A3 := by
      refine G2.mk2 (r0 := 2) h2 (o1 0 8 (by decide)) (o1 0 9 (by decide)) (o1 32 4 (by decide)) (fun q hq k => h4 q k (by omega)) (fun q hq o ho => h3 q o (by omega) (by omega) (fun _ => ho)) (fun r a _ _ h => h3 r 3 (k2ne a) h (fun e => absurd e.symm (k62 G2.k08 a))) h5 (fun u u0 u1 => .inr ⟨u, u0, ?_, ?_⟩) (fun s _ h => .inr ?_)
      · unfold cf at u1 ⊢
        rw [h4 4 2 (by simp)] at u1
        exact u1
      · unfold cf
        rw [h4 4 1 (by simp)]
      · rw [h4 0 10 (by simp)] at h
        exact h
    refine ok_cpf ?_
    intro F4 U4
    have q4 := (QKc.rfl' (P := P3) G3.1).pf U4 trivial (by decide)
    have G4 := q4.g G3
    refine ok_call (q_stale G4) ?_
    rintro ⟨u5, P5, F5, A5, J5⟩ ⟨-, -, q5⟩
    dsimp only at q5 ⊢
    exact ok_some ⟨q5.g G4, pe2 ((q5.2.2.2.2.2.2 1).trans ((q4.2.2.2.2.2.2 1).trans ((h4 1 1 (by simp)).trans e2))) (((q5.1 32 9 (by decide)).trans (o1 32 9 (by decide))).trans (by rw [g1])), (k2.tr (HK.tr (P1 := P3) (F1 := F3) (A1 := A3) ⟨o1 0 8 (by decide), fun q hq => ⟨fun k => h4 q k (by omega), fun o ho => h3 q o (by omega) (by omega) (fun _ => ho)⟩⟩ (q4.hk.tr q5.hk)))⟩
  refine ok_call goBy ?_
  rintro ⟨u6, P6, F6, A6, J6⟩ ⟨G6, e6, k6⟩
  dsimp only at G6 e6 k6 ⊢
  refine ok_chk G6.k08 ?_
  refine ok_call (s_worthOfAll G6.k08 G6.1 (by omega)) ?_
  intro v14 _
  exact ok_some ⟨G6, e6, k6⟩
theorem h_cGain {n : Nat} (G : Gc P F A) (hn : 1500 ≤ n) : ok (e_SleepWork_gain n P F A J) (CBc P F A) := by
  unfold e_SleepWork_gain e_Evening_gainAsItIs
  have body : ok ((c_chk 6 (P 32 4)).bind fun q1 => (e_House_worthOfAll n P F A J q1 2).bind fun v2 => (c_pf F 32 5 v2).bind fun F3 => (e_State_copy P F3 A J 33 2).bind fun (_, P5, F6, A7, J8) => (e_Evening_gainOfTrial n P5 F6 A7 J8).bind fun (v9, P10, F11, A12, J13) => some (v9, P10, F11, A12, J13)) (CBc P F A) := by
    refine ok_chk G.k324 ?_
    refine ok_call (s_worthOfAll G.k324 G.1 (by omega)) ?_
    intro v2 _
    refine ok_cpf ?_
    intro F3 U3
    have q3 := (QKc.rfl' (P := P) G.1).pf U3 trivial (by decide)
    have G3 := q3.g G
    refine ok_call (q_trial G3) ?_
    rintro ⟨u, P2, F2, A2, J2⟩ ⟨g1, q2, L2, -⟩
    dsimp only at g1 q2 L2 ⊢
    subst g1
    refine ok_call (q_gainOfTrial (q2.g G3) L2 (by omega)) ?_
    rintro ⟨v4, P4, F4, A4, J4⟩ q4
    dsimp only at q4 ⊢
    exact ok_some (QKc.cb G ((q3.tr q2).tr q4))
  refine ok_call body ?_
  rintro ⟨v, P2, F2, A2, J2⟩ hr
  exact ok_some hr
theorem h_cBest {n : Nat} {x1 x2 : Int32} (G : Gc P F A) (hn : 1800 ≤ n) : ok (e_SleepWork_best n P F A J x1 x2) (CBc P F A) := by
  have l0 : (0 : Int32).toInt = 0 := by decide
  unfold e_SleepWork_best
  refine ok_call (s_isMan G) ?_
  intro v vp
  refine ok_cond (fun _ => cb0 G) (fun c => ?_)
  rw [i_neq, l0] at c
  have a := vp.resolve_left c
  refine ok_cond (fun _ => cb0 G) (fun _ => ?_)
  refine ok_cond (fun _ => ?_) (fun _ => cb0 G)
  refine ok_call (s_forOne G ⟨by omega, by omega⟩ (by omega)) ?_
  rintro ⟨u, P2, F2, A2, J2⟩ q
  dsimp only at q ⊢
  refine ok_cond (fun _ => ?_) (fun _ => ok_some (QKc.cb G q))
  exact ok_call s_codeOf (fun v _ => ok_some (QKc.cb G q))
theorem h_cBestOfTwo {n : Nat} {x1 x2 x3 : Int32} (G : Gc P F A) (hn : 1800 ≤ n) : ok (e_SleepWork_bestOfTwo n P F A J x1 x2 x3) (CBc P F A) := by
  have l0 : (0 : Int32).toInt = 0 := by decide
  unfold e_SleepWork_bestOfTwo
  refine ok_call (s_areTwoMen G) ?_
  intro v vp
  refine ok_cond (fun _ => cb0 G) (fun c => ?_)
  rw [i_neq, l0] at c
  have a := vp.resolve_left c
  refine ok_cond (fun _ => cb0 G) (fun _ => ?_)
  refine ok_cond (fun _ => ?_) (fun _ => cb0 G)
  refine ok_call (s_forTwo G ⟨by omega, by omega⟩ ⟨by omega, by omega⟩ (by omega)) ?_
  rintro ⟨u, P2, F2, A2, J2⟩ q
  dsimp only at q ⊢
  refine ok_cond (fun _ => ok_cond (fun _ => ?_) (fun _ => ?_)) (fun _ => ok_some (QKc.cb G q))
  · exact ok_call s_codeOf (fun v _ => ok_some (QKc.cb G q))
  · unfold e_SleepWork_bestOfTwo_63
    exact ok_call s_codeOf (fun v _ => ok_some (QKc.cb G q))
theorem h_cHire {n : Nat} {x1 : Int32} (G : Gc P F A) (hn : 1800 ≤ n) : ok (e_SleepWork_hire n P F A J x1) (CBc P F A) := by
  have l0 : (0 : Int32).toInt = 0 := by decide
  unfold e_SleepWork_hire
  refine ok_call (s_isMan G) ?_
  intro v vp
  refine ok_cond (fun c => ?_) (fun _ => cb0 G)
  rw [i_ne, l0] at c
  have a := vp.resolve_left c
  refine ok_call (s_forOne G ⟨by omega, by omega⟩ (by omega)) ?_
  rintro ⟨u, P2, F2, A2, J2⟩ q
  exact ok_some (QKc.cb G q)
theorem h_cHide {n : Nat} {x1 x2 : Int32} (G : Gc P F A) (hn : 1800 ≤ n) : ok (e_SleepWork_hide n P F A J x1 x2) (CBc P F A) := by
  have l0 : (0 : Int32).toInt = 0 := by decide
  unfold e_SleepWork_hide
  refine ok_call (s_isTool G) ?_
  intro v vp
  refine ok_cond (fun _ => cb0 G) (fun c => ?_)
  rw [i_neq, l0] at c
  have a := vp.resolve_left c
  refine ok_chk G.k08 ?_
  refine ok_cond (fun _ => cb0 G) (fun _ => ?_)
  refine ok_cond (fun _ => cb0 G) (fun _ => ?_)
  refine ok_cond (fun _ => ?_) (fun _ => cb0 G)
  refine ok_call (s_hide G ⟨by omega, by omega⟩ (by omega)) ?_
  rintro ⟨u, P2, F2, A2, J2⟩ q
  dsimp only at q ⊢
  exact ok_cond (fun _ => ok_some (QKc.cb G q)) (fun _ => ok_some (QKc.cb G q))
theorem h_cStrokes {n : Nat} {x1 x2 : Int32} (G : Gc P F A) (hn : 1500 ≤ n) : ok (e_SleepWork_strokes n P F A J x1 x2) (CBc P F A) := by
  have l0 : (0 : Int32).toInt = 0 := by decide
  have h6 : (F (P 0 8) 18).toInt ≤ 600 := G.2.2.2.1.2.2.2.2.2.2
  unfold e_SleepWork_strokes
  refine ok_call (s_isMan G) ?_
  intro v vp
  refine ok_cond (fun _ => cb0 G) (fun c => ?_)
  rw [i_neq, l0] at c
  have a := vp.resolve_left c
  refine ok_cond (fun _ => cb0 G) (fun _ => ?_)
  refine ok_chk G.k08 ?_
  refine ok_cond (fun c2 => ?_) (fun _ => cb0 G)
  rw [i_le] at c2
  unfold e_Evening_strokesTill
  have body : ok ((e_State_copy P F A J 33 2).bind fun (_, P2, F3, A4, J5) => (c_chk 6 (P2 32 4)).bind fun q6 => (e_Sleep_goTill n P2 F3 A4 J5 x2 q6 33).bind fun (_, P8, F9, A10, J11) => (m_ld (A10 33 5) 6 x1).bind fun v12 => some (v12, P8, F9, A10, J11)) (CBc P F A) := by
    refine ok_call (q_trial G) ?_
    rintro ⟨u, P2, F2, A2, J2⟩ ⟨g1, q2, L2, -⟩
    dsimp only at g1 q2 L2 ⊢
    subst g1
    have G2 := q2.g G
    refine ok_chk G2.k324 ?_
    refine ok_call (q_goTill G2 L2 (by omega) (by omega)) ?_
    rintro ⟨u3, P3, F3, A3, J3⟩ ⟨q3, -⟩
    dsimp only at q3 ⊢
    exact ok_ldn (by omega) (by omega) (fun v => ok_some (QKc.cb G (q2.tr q3)))
  refine ok_call body ?_
  rintro ⟨v, P2, F2, A2, J2⟩ hr
  exact ok_some hr
theorem h_cTell {x1 x2 x3 : Int32} (G : Gc P F A) : ok (e_SleepWork_tell P F A J x1 x2 x3) (CBc P F A) := by
  have l0 : (0 : Int32).toInt = 0 := by decide
  have l1 : (1 : Int32).toInt = 1 := by decide
  have l30 : (30 : Int32).toInt = 30 := by decide
  have a1 : 0 ≤ (F 25 2).toInt ∧ (F 25 2).toInt ≤ 30 := G.1.1 25 2
  unfold e_SleepWork_tell
  refine ok_chk G.k08 ?_
  refine ok_call (s_hasStep G.k08 G.1) ?_
  intro w wp
  refine ok_cond (fun _ => cb0 G) (fun c2 => ?_)
  rw [i_neq, l0] at c2
  have b := wp.resolve_left c2
  refine ok_cond (fun _ => cb0 G) (fun _ => ?_)
  refine ok_cond (fun _ => cb0 G) (fun _ => ?_)
  unfold e_Told_isFull
  have full : ok (cond (g_cnd .lt (F 25 2) 30) (some (0 : Int32)) (some 1)) (fun v => v.toInt = 1 ∨ (v.toInt = 0 ∧ (F 25 2).toInt < 30)) := by
    refine ok_cond (fun c => ?_) (fun _ => ok_some (.inl l1))
    rw [i_lt] at c
    exact ok_some (.inr ⟨l0, by omega⟩)
  refine ok_call full ?_
  intro v6 v6p
  refine ok_cond (fun c6 => ?_) (fun _ => cb0 G)
  rw [i_eq] at c6
  have m := i_mulR (c := 6) (k := 6) (x := x1) (by decide) (by omega) (by omega)
  have d := i_add (x := x1 * 6) (y := x2) (by omega) (by omega)
  have e2 := i_add (x := F 25 2) (y := 1) (by omega) (by omega)
  unfold e_Told_add
  have body : ok ((c_st A 25 1 30 (F 25 2) ((x1 * 6) + x2)).bind fun A1 => (c_st A1 25 2 30 (F 25 2) x3).bind fun A2 => (c_pf F 25 2 ((F 25 2) + 1)).bind fun F3 => some ((F3 25 2) - 1, P, F3, A2, J)) (CBc P F A) := by
    refine ok_cst (by omega) (by omega) ?_
    intro A2 U2
    refine ok_cst (by omega) (by omega) ?_
    intro A3 U3
    refine ok_cpf ?_
    intro F4 U4
    have q4 := (((QKc.rfl' (P := P) G.1).st U2 (show 0 ≤ (x1 * 6 + x2).toInt ∧ (x1 * 6 + x2).toInt ≤ 35 by omega) ⟨fun h => absurd h (by decide), fun h => absurd h (by decide)⟩).st U3 trivial ⟨fun h => absurd h (by decide), fun h => absurd h (by decide)⟩).pf U4 (show 0 ≤ (F 25 2 + 1).toInt ∧ (F 25 2 + 1).toInt ≤ 30 by omega) (by decide)
    exact ok_some (QKc.cb G q4)
  refine ok_call body ?_
  rintro ⟨v, P2, F2, A2, J2⟩ hr
  exact ok_some hr
theorem h_cForget (G : Gc P F A) : ok (e_SleepWork_forget P F A J) (CBc P F A) := by
  unfold e_SleepWork_forget
  refine ok_cpf ?_
  intro F2 U2
  have q2 := (QKc.rfl' (P := P) G.1).pf U2 (show 0 ≤ (0 : Int32).toInt ∧ (0 : Int32).toInt ≤ 30 by decide) (by decide)
  exact cb_stale (q2.g G) (pe (q2.2.2.2.2.2.2 1)) q2.hk
theorem h_cFits {n : Nat} {x1 x2 x3 : Int32} (G : Gc P F A) (hn : 1800 ≤ n) : ok (e_SleepWork_fits n P F A J x1 x2 x3) (CBc P F A) := by
  have l0 : (0 : Int32).toInt = 0 := by decide
  have lm : (-1 : Int32).toInt = -1 := by decide
  unfold e_SleepWork_fits
  refine ok_call (s_isMan G) ?_
  intro v vp
  refine ok_cond (fun _ => cb0 G) (fun c => ?_)
  rw [i_neq, l0] at c
  have a := vp.resolve_left c
  refine ok_call s_isKnownBy ?_
  intro w _
  refine ok_cond (fun _ => cb0 G) (fun _ => ?_)
  refine ok_cond (fun c3 => ?_) (fun _ => cb0 G)
  rw [i_ge] at c3
  refine ok_call (s_fits G ⟨by omega, by omega⟩ (by omega)) ?_
  rintro ⟨u, P2, F2, A2, J2⟩ q
  dsimp only at q ⊢
  refine ok_cond (fun c4 => ?_) (fun _ => ok_some (QKc.cb G q))
  rw [i_ne] at c4
  refine ok_cond (fun _ => ok_some (QKc.cb G q)) (fun c5 => ?_)
  rw [i_nge] at c5
  have a1 : 0 ≤ (F2 32 15).toInt ∧ (F2 32 15).toInt ≤ 37 := q.2.1.1 32 15
  refine ok_ldn (by omega) (by omega) (fun v13 => ?_)
  exact ok_call s_codeOf (fun v _ => ok_some (QKc.cb G q))
theorem h_cSuspects {n : Nat} {x1 : Int32} (G : Gc P F A) (hn : 1800 ≤ n) : ok (e_SleepWork_suspects n P F A J x1) (CBc P F A) := by
  have l0 : (0 : Int32).toInt = 0 := by decide
  unfold e_SleepWork_suspects
  refine ok_call s_isKnownBy ?_
  intro w _
  refine ok_cond (fun _ => cb0 G) (fun _ => ?_)
  unfold e_Evening_suspectBits
  refine ok_call (s_suspectBits_4 G (by decide) (by omega)) ?_
  rintro ⟨v, P2, F2, A2, J2⟩ q
  exact ok_some (QKc.cb G q)
theorem h_cPairs {n : Nat} {x1 x2 x3 : Int32} (G : Gc P F A) (hn : 1800 ≤ n) : ok (e_SleepWork_pairs n P F A J x1 x2 x3) (CBc P F A) := by
  have l0 : (0 : Int32).toInt = 0 := by decide
  have lm : (-1 : Int32).toInt = -1 := by decide
  unfold e_SleepWork_pairs
  refine ok_call (s_areTwoMen G) ?_
  intro v vp
  refine ok_cond (fun _ => cb0 G) (fun c => ?_)
  rw [i_neq, l0] at c
  have a := vp.resolve_left c
  refine ok_call s_isKnownBy ?_
  intro w _
  refine ok_cond (fun _ => ?_) (fun _ => cb0 G)
  unfold e_Evening_fittingPairs
  refine ok_call (s_pairs_6 ⟨by omega, by omega⟩ ⟨by omega, by omega⟩ G (QKc.rfl' G.1) (by decide) (by omega)) ?_
  rintro ⟨v, P2, F2, A2, J2⟩ q
  exact ok_some (QKc.cb G q)
theorem h_cHold {x1 : Int32} (G : Gc P F A) : ok (e_SleepWork_hold P F A J x1) (CBc P F A) := by
  have l0 : (0 : Int32).toInt = 0 := by decide
  have l3 : (3 : Int32).toInt = 3 := by decide
  unfold e_SleepWork_hold
  refine ok_cond (fun _ => cb0 G) (fun c => ?_)
  rw [i_nlt] at c
  refine ok_cond (fun c2 => ?_) (fun _ => cb0 G)
  rw [i_lt] at c2
  have kk := k_sl (m := x1.toInt.toNat) (by omega)
  refine ok_car (by omega) (by omega) kk.1 ?_
  refine ok_call (s_copy (r1 := 2) kk.1 (by omega) G.1) ?_
  rintro ⟨u, P3, F3, A3, J3⟩ ⟨g1, g2, g3, g4, g5⟩
  dsimp only at g1 g2 g3 g4 g5 ⊢
  subst g1
  refine ok_cpf ?_
  intro F4 U4
  have a1 : 0 ≤ (F 0 10).toInt ∧ (F 0 10).toInt ≤ 7 := G.1.1 0 10
  have k10 : F3 0 10 = F 0 10 := g2 0 10 (by omega)
  rw [k10] at U4
  have ex : x1 = Int32.ofNat x1.toInt.toNat := i_nat (by omega)
  have eh : F 0 10 = Int32.ofNat (F 0 10).toInt.toNat := i_nat (by omega)
  have rg : 0 ≤ (F 0 10 ||| (1 <<< (x1 &&& 31))).toInt ∧ (F 0 10 ||| (1 <<< (x1 &&& 31))).toInt ≤ 7 := by
    have := b_rng ⟨(F 0 10).toInt.toNat, by omega⟩ ⟨x1.toInt.toNat, by omega⟩
    rw [← ex, ← eh] at this
    exact this
  have R4 := g4.pf U4 rg
  have t3 : ∀ r k, ¬ (r = 0 ∧ k = 10) → r ≠ 29 + x1.toInt.toNat → F4 r k = F r k := fun r k a b => (U4.2 r k a).trans (g2 r k b)
  have hne := G.nk kk.1
  refine ok_some ⟨G.mk2 (r0 := 29 + x1.toInt.toNat) R4 rfl rfl rfl (fun q hq k => t3 q k (by omega) (by omega)) (fun q hq o _ => g3 q o (by omega)) (fun r _ _ _ h => g3 r 3 h) (fun m m0 m1 => ?_) (fun u u0 u1 => .inr ⟨u, u0, ?_, ?_⟩) (fun s s0 h => ?_), pe (t3 1 1 (by simp) (by omega)), rfl, fun q hq => ⟨fun k => t3 q k (by omega) (by omega), fun o _ => g3 q o (by omega)⟩⟩
  · rw [show ((1 : Int32), P3, F4, A3, J3).2.2.2.1 = A3 from rfl, g5 m m0 m1]
    exact (G.2.2.2.2.1 m m0 m1).cg (g3 _ 5 hne)
  · have u2 : u < (F4 4 2).toInt := u1
    rw [t3 4 2 (by simp) (by omega)] at u2
    exact u2
  · show ((F4 4 1).toInt + u) % 20 = _
    rw [t3 4 1 (by simp) (by omega)]
    rfl
  · have h' : (F4 0 10 &&& (1 <<< (Int32.ofNat s &&& 31))) ≠ 0 := h
    rw [U4.1] at h'
    have bh := b_hold ⟨(F 0 10).toInt.toNat, by omega⟩ ⟨x1.toInt.toNat, by omega⟩ ⟨s, s0⟩
    rw [← ex, ← eh] at bh
    rcases bh h' with z | z
    · left
      have z' : s = x1.toInt.toNat := z
      omega
    · exact .inr z
theorem h_cRestore {x1 : Int32} (G : Gc P F A) : ok (e_SleepWork_restore P F A J x1) (CBc P F A) := by
  have l0 : (0 : Int32).toInt = 0 := by decide
  have l3 : (3 : Int32).toInt = 3 := by decide
  unfold e_SleepWork_restore
  refine ok_cond (fun _ => cb0 G) (fun c => ?_)
  rw [i_nlt] at c
  refine ok_cond (fun _ => cb0 G) (fun c2 => ?_)
  rw [i_nge] at c2
  refine ok_cond (fun c3 => ?_) (fun _ => cb0 G)
  rw [i_ne] at c3
  have kk := k_sl (m := x1.toInt.toNat) (by omega)
  have ex : x1 = Int32.ofNat x1.toInt.toNat := i_nat (by omega)
  refine ok_car (by omega) (by omega) kk.1 ?_
  have lv : LVc A (P 0 8) (29 + x1.toInt.toNat) := G.2.2.2.2.2.2 x1.toInt.toNat (by omega) (by rw [← ex]; exact fun e => c3 (by rw [e]))
  refine ok_call (s_copy (r0 := 2) (r1 := 29 + x1.toInt.toNat) (by decide) (by omega) G.1) ?_
  rintro ⟨u, P3, F3, A3, J3⟩ hc
  have hp := hc.1
  dsimp only at hp ⊢
  subst hp
  obtain ⟨G3, e11⟩ := Gc.now (r1 := 2) G hc (fun m m0 m1 => lv m m0 m1) (fun r k h => rfl) rfl (Int.le_refl _)
  dsimp only at G3 e11
  refine ok_cpf ?_
  intro F4 U4
  have G4 : Gc P3 F4 A3 := G3.mk2 (r0 := 2) (G3.1.pf U4 (show 0 ≤ (0 : Int32).toInt ∧ (0 : Int32).toInt ≤ 20 by decide)) rfl rfl rfl (fun q hq k => U4.2 q k (by omega)) (fun _ _ _ _ => rfl) (fun _ _ _ _ _ => rfl) G3.2.2.2.2.1 (fun u u0 u1 => absurd u1 (by unfold cf; rw [U4.1]; omega)) (fun s _ h => .inr (by rw [U4.2 0 10 (by simp)] at h; exact h))
  exact cb_stale G4 (pe ((U4.2 1 1 (by simp)).trans e11)) ((hc.hk (F := F) (fun _ _ _ => rfl)).tr ⟨rfl, fun q hq => ⟨fun k => U4.2 q k (by omega), fun _ _ => rfl⟩⟩)
theorem TPc.hk (t : TPc F F' A A') : HK P F A P F' A' := ⟨rfl, fun q hq => ⟨fun k => t.1 q k (by omega), fun o _ => t.2.1 q o (by omega)⟩⟩
theorem h_cFeed {n : Nat} {F : Nat → Nat → Int32} {A : Nat → Nat → Nat → Int32} {x1 x2 x3 x4 x5 : Int32} (G : Gc P F A) (hn : 50 ≤ n) : ok (e_SleepWork_feed n P F A J x1 x2 x3 x4 x5) (fun r => HK P F A r.2.1 r.2.2.1 r.2.2.2.1 ∧ (Gc r.2.1 r.2.2.1 r.2.2.2.1 ∧ r.2.1 32 9 = P 32 9) ∧ ((cf F 1 1 + 20 ≤ 2000 ∧ r.1.toInt = cf F 1 1 + 20 ∧ cf r.2.2.1 1 1 = cf F 1 1 + 20) ∨ (2000 < cf F 1 1 + 20 ∧ r.1.toInt = -1 ∧ cf r.2.2.1 1 1 = cf F 1 1))) := by
  have l0 : (0 : Int32).toInt = 0 := by decide
  have l1 : (1 : Int32).toInt = 1 := by decide
  have l20 : (20 : Int32).toInt = 20 := by decide
  have l2 : (2000 : Int32).toInt = 2000 := by decide
  have lm : (-1 : Int32).toInt = -1 := by decide
  have a1 : 0 ≤ (F 1 1).toInt ∧ (F 1 1).toInt ≤ 2000 := G.1.1 1 1
  have e1 := i_add (x := F 1 1) (y := 20) (by omega) (by omega)
  unfold e_SleepWork_feed e_Tape_hasSpace
  have sp : ok (cond (g_cnd .gt ((F 1 1) + 20) 2000) (some (0 : Int32)) (some 1)) (fun v => (v.toInt = 0 ∧ 2000 < cf F 1 1 + 20) ∨ (v.toInt = 1 ∧ cf F 1 1 + 20 ≤ 2000)) := by
    unfold cf
    refine ok_cond (fun c => ?_) (fun c => ?_)
    · rw [i_gt] at c
      exact ok_some (.inl ⟨l0, by omega⟩)
    · rw [i_ngt] at c
      exact ok_some (.inr ⟨l1, by omega⟩)
  refine ok_call sp ?_
  intro v vp
  refine ok_cond (fun c => ?_) (fun c => ?_)
  · rw [i_ne, l0] at c
    refine ok_call (s_addWord G.1 (by omega) (by omega)) ?_
    rintro ⟨u2, P2, F2, A2, J2⟩ ⟨g2, t2, s2⟩
    dsimp only at g2 t2 s2 ⊢
    subst g2
    refine ok_call (s_addWord t2.2.2 (by omega) (by omega)) ?_
    rintro ⟨u3, P3, F3, A3, J3⟩ ⟨g3, t3, s3⟩
    dsimp only at g3 t3 s3 ⊢
    subst g3
    refine ok_call (s_addWord t3.2.2 (by omega) (by omega)) ?_
    rintro ⟨u4, P4, F4, A4, J4⟩ ⟨g4, t4, s4⟩
    dsimp only at g4 t4 s4 ⊢
    subst g4
    refine ok_call (s_addWord t4.2.2 (by omega) (by omega)) ?_
    rintro ⟨u5, P5, F5, A5, J5⟩ ⟨g5, t5, s5⟩
    dsimp only at g5 t5 s5 ⊢
    subst g5
    refine ok_call (s_addWord t5.2.2 (by omega) (by omega)) ?_
    rintro ⟨u6, P6, F6, A6, J6⟩ ⟨g6, t6, s6⟩
    dsimp only at g6 t6 s6 ⊢
    subst g6
    have tt := (((t2.tr t3).tr t4).tr t5).tr t6
    refine ok_some ⟨tt.hk, ⟨tt.g G, rfl⟩, .inl ⟨by omega, ?_, ?_⟩⟩
    · show cf F6 1 1 = _
      omega
    · show cf F6 1 1 = _
      omega
  · rw [i_nne, l0] at c
    exact ok_some ⟨HK.rfl', ⟨G, rfl⟩, .inr ⟨by omega, lm, rfl⟩⟩
theorem h_cBack {F : Nat → Nat → Int32} {A : Nat → Nat → Nat → Int32} {x1 : Int32} (G : Gc P F A) : ok (e_SleepWork_back P F A J x1) (fun r => HK P F A r.2.1 r.2.2.1 r.2.2.2.1 ∧ (Gc r.2.1 r.2.2.1 r.2.2.2.1 ∧ r.2.1 32 9 = P 32 9) ∧ ((0 ≤ x1.toInt ∧ x1.toInt ≤ cf F 1 1 ∧ r.1.toInt = cf F 1 1 - x1.toInt ∧ cf r.2.2.1 1 1 = cf F 1 1 - x1.toInt) ∨ ((x1.toInt < 0 ∨ cf F 1 1 < x1.toInt) ∧ r.1.toInt = -1 ∧ cf r.2.2.1 1 1 = cf F 1 1))) := by
  have l0 : (0 : Int32).toInt = 0 := by decide
  have lm : (-1 : Int32).toInt = -1 := by decide
  have a1 : 0 ≤ (F 1 1).toInt ∧ (F 1 1).toInt ≤ 2000 := G.1.1 1 1
  unfold e_SleepWork_back
  refine ok_cond (fun c => ?_) (fun c => ?_)
  · rw [i_lt] at c
    exact ok_some ⟨HK.rfl', ⟨G, rfl⟩, .inr ⟨.inl (by omega), lm, rfl⟩⟩
  · rw [i_nlt] at c
    refine ok_cond (fun c2 => ?_) (fun c2 => ?_)
    · rw [i_le] at c2
      have e1 := i_sub (x := F 1 1) (y := x1) (by omega) (by omega)
      refine ok_cpf ?_
      intro F2 U2
      have t : TPc F F2 A A := ⟨U2.2, fun _ _ _ => rfl, G.1.pf U2 (show 0 ≤ (F 1 1 - x1).toInt ∧ (F 1 1 - x1).toInt ≤ 2000 by omega)⟩
      have k2 : (F2 1 1).toInt = (F 1 1).toInt - x1.toInt := by rw [U2.1]; omega
      exact ok_some ⟨t.hk, ⟨t.g G, rfl⟩, .inl ⟨by omega, c2, k2, k2⟩⟩
    · rw [i_nle] at c2
      exact ok_some ⟨HK.rfl', ⟨G, rfl⟩, .inr ⟨.inr c2, lm, rfl⟩⟩
end H9eu
end Qz128
section Qz129
/-! what both sides share between calls: the counts of the house in use; answers that rest on them -/
section H9ev
variable {JW JK : Nat → Int64} {P P' : Nat → Nat → Nat} {F F' : Nat → Nat → Int32} {A A' : Nat → Nat → Nat → Int32} {J : Nat → Nat → Nat → Int64} {Fm Fm' : Nat → Int32} {Am Am' : Nat → Nat → Int32} {Jm : Nat → Nat → Int64} {x1 x2 x3 : Int32} {r k q : Nat}
def CX (P : Nat → Nat → Nat) (F : Nat → Nat → Int32) (A : Nat → Nat → Nat → Int32) (Fm : Nat → Int32) (Am : Nat → Nat → Int32) : Prop := HC (P 0 8) F A Fm Am
/-- the reference's house in use is as it was -/
def MF (F F' : Nat → Int32) (A A' : Nat → Nat → Int32) : Prop := F' 18 = F 18 ∧ ∀ q, 8 ≤ q → q ≤ 44 → A' q = A q
theorem MF.rfl' : MF Fm Fm Am Am := ⟨rfl, fun _ _ _ => rfl⟩
theorem CX.c (h : CX P F A Fm Am) (G : Gc P F A) (k : HK P F A P' F' A') : CX P' F' A' Fm Am := by
  have d := k.2 _ G.live
  unfold CX
  rw [k.1]
  refine ⟨fun q hq => (d.1 _).trans (h.1 q hq), (d.1 14).trans h.2.1, fun j j0 j1 => ?_⟩
  rw [d.1 16] at j1
  rw [ci_fr (d.2 5 (by decide))]
  exact h.2.2 j j0 j1
theorem CX.m (h : CX P F A Fm Am) (k : MF Fm Fm' Am Am') : CX P F A Fm' Am' := by
  unfold CX HC
  rw [k.1, k.2 12 (by decide) (by decide), ai_fr (k.2 22 (by decide) (by decide))]
  exact ⟨fun q hq => by rw [k.2 (rq q) (by have := rq_in q; omega) (by have := rq_in q; omega)]; exact h.1 q hq, h.2⟩
theorem po_and {α : Type} {o : Option α} {Q R : α → Prop} (h : po o Q) (k : po o R) : po o (fun a => Q a ∧ R a) := fun a ha => ⟨h a ha, k a ha⟩
theorem gg_zr {x v : Int32} (h : m_zr x = some v) : v = x := by
  unfold m_zr at h
  split at h
  · cases h; rfl
  · cases h
/-- what the class's reader leaves as it was -/
theorem s_rt {n : Nat} (G : Gc P F A) (hn : 6000 ≤ n) : ok (e_Reader_readText n P F A J (P 0 9) 3) (fun r => (∀ r' k, r' ≠ 37 → r.2.1 r' k = P r' k) ∧ RTc r.2.1 (P 0 9) F A r) := by
  have hk := G.k09
  have l0 := i_0
  unfold e_Reader_readText
  refine ok_call (s_open hk G.1 (by omega)) ?_
  rintro ⟨u, P2, F2, A2, J2⟩ ⟨oP, x5, x6, V⟩
  dsimp only at oP x5 x6 V ⊢
  refine ok_mono (s_readText_10 x5 x6 hk V (by decide) (by omega)) (fun r hr => ?_)
  have e := hr.1
  rw [e]
  exact ⟨oP, hr⟩
/-- the house that was read is the house in use -/
theorem po_move (R : Rc F A) (hl : c_kind (P 0 9) = 6) : po (e_SleepWork_moveIn P F A J) (fun r => r.2.1 0 8 = P 0 9 ∧ (∀ k, r.2.2.1 (P 0 9) k = F (P 0 9) k) ∧ ∀ o, r.2.2.2.1 (P 0 9) o = A (P 0 9) o) := by
  have q1 : ∀ {r : Nat}, c_kind r ≠ 6 → P 0 9 ≠ r := fun h e => h (by rw [← e]; exact hl)
  unfold e_SleepWork_moveIn
  refine po_bl (fun _ h1 => ?_)
  obtain ⟨-, rfl⟩ := gg_chk h1
  refine po_bl (fun _ h2 => ?_)
  obtain ⟨-, rfl⟩ := gg_chk h2
  refine po_bl (fun P3 h3 => ?_)
  have u3 := gg_cpp h3
  refine po_bl (fun P4 h4 => ?_)
  have u4 := gg_cpp h4
  have x8 : P4 0 8 = P 0 9 := (u4.2 0 8 (by simp)).trans u3.1
  refine po_call (s_copy (r0 := 2) (r1 := 3) (by decide) (by decide) R).po ?_
  rintro ⟨u, P6, F7, A8, J9⟩ ⟨g1, g2, g3, -, -⟩
  dsimp only at g1 g2 g3 ⊢
  subst g1
  refine po_bl (fun Fa ha => ?_)
  have ua := gg_cpf ha
  refine po_bl (fun Fb hb => ?_)
  have ub := gg_cpf hb
  refine po_bl (fun Fc hc => ?_)
  have uc := gg_cpf hc
  refine po_bl (fun _ h5 => ?_)
  obtain ⟨-, rfl⟩ := gg_chk h5
  unfold e_Evening_enter e_Ways_drop e_Evening_setStale
  have en : po ((c_pp P6 32 4 (P6 0 8)).bind fun P1 => ((c_pf Fc 36 101 (-1)).bind fun F1 => some ((), P1, F1, A8, J9)).bind fun (_, P3, F4, A5, J6) => ((c_pf F4 32 6 (-1)).bind fun F1 => some ((), P3, F1, A5, J6)).bind fun (_, P8, F9, A10, J11) => some ((), P8, F9, A10, J11)) (fun r => r.2.1 0 8 = P6 0 8 ∧ (∀ k, r.2.2.1 (P 0 9) k = Fc (P 0 9) k) ∧ r.2.2.2.1 = A8) := by
    refine po_bl (fun Pd hd => ?_)
    have ud := gg_cpp hd
    refine po_call (R := fun r => r.2.1 = Pd ∧ (∀ k, r.2.2.1 (P 0 9) k = Fc (P 0 9) k) ∧ r.2.2.2.1 = A8) (po_bl (fun Fe he => po_some ⟨rfl, fun k => (gg_cpf he).2 _ k (fun e => q1 (by decide) e.1), rfl⟩)) ?_
    rintro ⟨u, P7, F7', A7, J7⟩ ⟨w1, w2, w3⟩
    dsimp only at w1 w2 w3 ⊢
    subst w1
    subst w3
    refine po_call (R := fun r => r.2.1 = P7 ∧ (∀ k, r.2.2.1 (P 0 9) k = F7' (P 0 9) k) ∧ r.2.2.2.1 = A7) (po_bl (fun Fe he => po_some ⟨rfl, fun k => (gg_cpf he).2 _ k (fun e => q1 (by decide) e.1), rfl⟩)) ?_
    rintro ⟨u, P8, F8', A8', J8⟩ ⟨w4, w5, w6⟩
    dsimp only at w4 w5 w6 ⊢
    exact po_some ⟨by rw [w4]; exact ud.2 0 8 (by simp), fun k => (w5 k).trans (w2 k), w6⟩
  refine po_call en ?_
  rintro ⟨u, P9, F9, A9, J9'⟩ ⟨e1, e2, e3⟩
  dsimp only at e1 e2 e3 ⊢
  refine po_some ⟨e1.trans x8, fun k => ?_, fun o => ?_⟩
  · show F9 (P 0 9) k = F (P 0 9) k
    rw [e2 k, uc.2 _ k (fun e => q1 (by decide) e.1), ub.2 _ k (fun e => q1 (by decide) e.1), ua.2 _ k (fun e => q1 (by decide) e.1)]
    exact g2 _ k (q1 (by decide))
  · show A9 (P 0 9) o = A (P 0 9) o
    rw [e3]
    exact g3 _ o (q1 (by decide))
theorem HC.ls {d : Nat} (h : HC d F A Fm Am) (S : SAm Fm Am) (e : Fm' 18 = Fm 18) (L : LSm (Fm 18).toInt Am Am') (hr : (F d 16).toInt ≤ 6) : HC d F A Fm' Am' := by
  have r18 : 0 ≤ (Fm 18).toInt ∧ (Fm 18).toInt ≤ 1 := S.1 18
  have one : ∀ {j : Nat}, sgm j = 1 → Am' j (Fm 18).toInt.toNat = Am j (Fm 18).toInt.toNat := fun {j} hj => i_ext (L j (Fm 18).toInt (by rw [hj]; omega) (by rw [hj]; omega))
  unfold HC
  rw [e]
  refine ⟨fun q hq => (h.1 q hq).trans (one ?_).symm, h.2.1.trans (one rfl).symm, fun k k0 k1 => (h.2.2 k k0 k1).trans (L 22 _ ?_ ?_).symm⟩
  · have : ∀ q, q < 4 → sgm (rq q) = 1 := by decide
    exact this q hq
  · show 6 * (Fm 18).toInt ≤ _
    omega
  · show _ < 6 * (Fm 18).toInt + 6
    omega
theorem HC.cc {d : Nat} (h : HC d F A Fm Am) (hF : ∀ k, F' d k = F d k) (hA : ∀ o, A' d o = A d o) : HC d F' A' Fm Am := by
  unfold HC
  rw [ci_fr (hA 5)]
  exact ⟨fun q hq => (hF _).trans (h.1 q hq), (hF 14).trans h.2.1, fun k k0 k1 => h.2.2 k k0 (by rw [← hF 16]; exact k1)⟩
/-- read, on both sides -/
theorem p2_cread5 {n m : Nat} (hW : WKx JW JK) (G : Gc P F A) (S : SAm Fm Am) (tp : TPx F A Fm Am) (hc : CX P F A Fm Am) (jw : J 37 6 = JW) (jk : Jm 7 = JK) (hn : 6000 ≤ n) (hm : 12100 ≤ m) : P2 (e_SleepWork_read n P F A J) (d_read m Fm Am Jm) (fun a b => (a.1 = b.1 ∧ JP JW a ∧ JQ JK b) ∧ CX a.2.1 a.2.2.1 a.2.2.2.1 b.2.1 b.2.2.1) := by
  have hl := G.k09
  have q1 : ∀ {r : Nat}, c_kind r ≠ 6 → P 0 9 ≠ r := fun h e => h (by rw [← e]; exact hl)
  have q8 : ∀ {r : Nat}, c_kind r ≠ 6 → P 0 8 ≠ r := fun h e => h (by rw [← e]; exact G.k08)
  have hne : P 0 8 ≠ P 0 9 := by rcases G.2.1 with h | h <;> (rw [h.1, h.2]; decide)
  have h16 : (F (P 0 8) 16).toInt ≤ 6 := by
    have a : 0 ≤ (F (P 0 8) 16).toInt ∧ (F (P 0 8) 16).toInt ≤ 6 := by have := G.1.1 (P 0 8) 16; rw [G.k08] at this; exact this
    exact a.2
  unfold e_SleepWork_read
  refine p2_bl (fun _ h1 => ?_)
  obtain ⟨hk, rfl⟩ := gg_chk h1
  refine p2_bindl (p2_okl (s_rt (J := J) G hn) (p2_read hW hk G.1 S tp jw jk hn hm)) ?_
  rintro ⟨v2, P3, F4, A5, J6⟩ b ⟨⟨e1, ja, jb, good, bad⟩, ⟨oP, t1, t2, t3, t4, t5⟩⟩
  dsimp only at e1 good bad oP t1 t2 t3 t4 t5 ⊢
  have pf : po (e_Reader_placeOfFault P3 F4 A5 J6) (fun _ => True) := fun _ _ => trivial
  refine po_call pf ?_
  intro v7 _
  refine po_bl (fun F8 h8 => ?_)
  have u8 := gg_cpf h8
  refine po_bl (fun F9 h9 => ?_)
  have u9 := gg_cpf h9
  have o9 : ∀ q k, c_kind q = 6 → F9 q k = F4 q k := fun q k hq => (u9.2 q k (fun e => absurd hq (by rw [e.1]; decide))).trans (u8.2 q k (fun e => absurd hq (by rw [e.1]; decide)))
  refine po_cond (fun c => ?_) (fun c => ?_)
  · rw [i_ne, i_0] at c
    refine po_some ⟨⟨e1, ja, jb⟩, ?_⟩
    obtain ⟨b1, -, -, b4, -⟩ := bad c
    show HC (P3 0 8) F9 A5 b.2.1 b.2.2.1
    rw [oP 0 8 (by decide)]
    exact (HC.ls hc S b1 b4 h16).cc (fun k => (o9 _ k G.k08).trans (t3 _ k (q8 (by decide)) hne (q8 (by decide)))) (fun o => t4 _ o (q8 (by decide)) hne (q8 (by decide)))
  · rw [i_nne, i_0] at c
    have R9 : Rc F9 A5 := (t2.pf u8 trivial).pf u9 (show 0 ≤ (0 : Int32).toInt ∧ (0 : Int32).toInt ≤ 2000 by decide)
    have y9 : P3 0 9 = P 0 9 := oP 0 9 (by decide)
    refine po_call (po_and (jc_move ja) (po_move R9 (by rw [y9]; exact hl))) ?_
    rintro ⟨u, P4, F5, A6, J7⟩ ⟨h2, m1, m2, m3⟩
    refine po_some ⟨⟨e1, h2, jb⟩, ?_⟩
    show HC (P4 0 8) F5 A6 b.2.1 b.2.2.1
    dsimp only at m1 m2 m3
    rw [y9] at m1 m2 m3
    rw [m1]
    exact (good c).1.cc (fun k => (m2 k).trans (o9 _ k hl)) m3
end H9ev
end Qz129
section Qz130
/-! answers that rest on the counts of the house alone -/
section H9ew
variable {n m : Nat} {P P' : Nat → Nat → Nat} {F F' : Nat → Nat → Int32} {A A' : Nat → Nat → Nat → Int32} {J : Nat → Nat → Nat → Int64} {Fm Fm' : Nat → Int32} {Am Am' : Nat → Nat → Int32} {Jm : Nat → Nat → Int64} {x1 x2 x3 x4 : Int32} {r k q : Nat}
/-- a truth value and what it says -/
def BV (v : Int32) (p : Prop) : Prop := (v = 1 ∧ p) ∨ (v = 0 ∧ ¬ p)
theorem BV.eq {v w : Int32} {p q : Prop} (h : BV v p) (h' : BV w q) (e : p ↔ q) : v = w := by
  rcases h with ⟨rfl, h⟩ | ⟨rfl, h⟩
  · rcases h' with ⟨rfl, h'⟩ | ⟨rfl, h'⟩
    · rfl
    · exact absurd (e.mp h) h'
  · rcases h' with ⟨rfl, h'⟩ | ⟨rfl, h'⟩
    · exact absurd (e.mpr h') h
    · rfl
theorem BV.iff {v : Int32} {p q : Prop} (h : BV v p) (e : p ↔ q) : BV v q := h.imp (fun h => ⟨h.1, e.mp h.2⟩) (fun h => ⟨h.1, fun x => h.2 (e.mpr x)⟩)
theorem v_cMan : po (e_SleepWork_isMan P F A J x1) (fun v => BV v (0 ≤ x1.toInt ∧ x1.toInt < (F (P 0 8) 17).toInt)) := by
  unfold e_SleepWork_isMan
  refine po_cond (fun c => po_some (.inr ⟨rfl, fun h => ?_⟩)) (fun c => ?_)
  · rw [i_lt, i_0] at c; omega
  rw [i_nlt, i_0] at c
  refine po_bl (fun _ h => ?_)
  obtain ⟨-, rfl⟩ := gg_chk h
  refine po_cond (fun c2 => po_some (.inr ⟨rfl, fun h => ?_⟩)) (fun c2 => po_some (.inl ⟨rfl, c, ?_⟩))
  · rw [i_ge] at c2; omega
  · rw [i_nge] at c2; exact c2
theorem v_cTool : po (e_SleepWork_isTool P F A J x1) (fun v => BV v (0 ≤ x1.toInt ∧ x1.toInt < (F (P 0 8) 15).toInt)) := by
  unfold e_SleepWork_isTool
  refine po_cond (fun c => po_some (.inr ⟨rfl, fun h => ?_⟩)) (fun c => ?_)
  · rw [i_lt, i_0] at c; omega
  rw [i_nlt, i_0] at c
  refine po_bl (fun _ h => ?_)
  obtain ⟨-, rfl⟩ := gg_chk h
  refine po_cond (fun c2 => po_some (.inr ⟨rfl, fun h => ?_⟩)) (fun c2 => po_some (.inl ⟨rfl, c, ?_⟩))
  · rw [i_ge] at c2; omega
  · rw [i_nge] at c2; exact c2
theorem v_cRoom : po (e_SleepWork_isRoom P F A J x1) (fun v => BV v (0 ≤ x1.toInt ∧ x1.toInt < (F (P 0 8) 13).toInt)) := by
  unfold e_SleepWork_isRoom
  refine po_cond (fun c => po_some (.inr ⟨rfl, fun h => ?_⟩)) (fun c => ?_)
  · rw [i_lt, i_0] at c; omega
  rw [i_nlt, i_0] at c
  refine po_bl (fun _ h => ?_)
  obtain ⟨-, rfl⟩ := gg_chk h
  refine po_cond (fun c2 => po_some (.inr ⟨rfl, fun h => ?_⟩)) (fun c2 => po_some (.inl ⟨rfl, c, ?_⟩))
  · rw [i_ge] at c2; omega
  · rw [i_nge] at c2; exact c2
theorem v_cStep : po (e_House_hasStep P F A J r x1 x2) (fun v => BV v (0 ≤ x1.toInt ∧ x1.toInt < (F r 16).toInt ∧ 0 ≤ x2.toInt ∧ x2.toInt < ci A r 5 x1.toInt)) := by
  unfold e_House_hasStep
  refine po_cond (fun c => po_some (.inr ⟨rfl, fun h => ?_⟩)) (fun c => ?_)
  · rw [i_lt, i_0] at c; omega
  rw [i_nlt, i_0] at c
  refine po_cond (fun c2 => po_some (.inr ⟨rfl, fun h => ?_⟩)) (fun c2 => ?_)
  · rw [i_ge] at c2; omega
  rw [i_nge] at c2
  refine po_cond (fun c3 => po_some (.inr ⟨rfl, fun h => ?_⟩)) (fun c3 => ?_)
  · rw [i_lt, i_0] at c3; omega
  rw [i_nlt, i_0] at c3
  refine po_bl (fun v4 h4 => ?_)
  have g4 : v4.toInt = ci A r 5 x1.toInt := by rw [(gg_ld h4).2.2]; rfl
  refine po_cond (fun c5 => po_some (.inr ⟨rfl, fun h => ?_⟩)) (fun c5 => po_some (.inl ⟨rfl, c, c2, c3, ?_⟩))
  · rw [i_ge] at c5; omega
  · rw [i_nge] at c5; omega
theorem v_din : po (d_in x1 x2 x3) (fun v => BV v (x2.toInt ≤ x1.toInt ∧ x1.toInt ≤ x3.toInt)) := by
  unfold d_in
  refine po_cond (fun c => po_some (.inr ⟨rfl, fun h => ?_⟩)) (fun c => ?_)
  · rw [i_lt] at c; omega
  rw [i_nlt] at c
  refine po_cond (fun c2 => po_some (.inr ⟨rfl, fun h => ?_⟩)) (fun c2 => po_some (.inl ⟨rfl, c, ?_⟩))
  · rw [i_gt] at c2; omega
  · rw [i_ngt] at c2; exact c2
theorem v_din0 {v : Int32} (hv : 0 ≤ v.toInt) : po (d_in x1 0 (v - 1)) (fun w => BV w (0 ≤ x1.toInt ∧ x1.toInt < v.toInt)) := by
  refine po_mono v_din (fun w h => h.iff ?_)
  rw [i_0, i_sub (by rw [i_1]; omega) (by rw [i_1]; have := i_rng v; omega), i_1]
  omega
/-- a count of the house in use -/
theorem v_dcnt {j : Nat} (hv : 0 ≤ (Am j (Fm 18).toInt.toNat).toInt) : po ((m_ld (Am j) 2 (Fm 18)).bind fun v1 => (d_in x1 0 (v1 - 1)).bind fun v2 => (m_zr v2).bind fun v3 => some v3) (fun v => BV v (0 ≤ x1.toInt ∧ x1.toInt < (Am j (Fm 18).toInt.toNat).toInt)) := by
  refine po_bl (fun v1 h1 => ?_)
  have e1 := (gg_ld h1).2.2
  rw [← e1] at hv ⊢
  refine po_call (v_din0 hv) ?_
  intro v2 b2
  refine po_bl (fun v3 h3 => ?_)
  rw [gg_zr h3]
  exact po_some b2
theorem SAm.cnt (S : SAm Fm Am) {j : Nat} (hj : j = 11 ∨ j = 12 ∨ j = 17 ∨ j = 19 ∨ j = 29) : 0 ≤ (Am j (Fm 18).toInt.toNat).toInt ∧ (Am j (Fm 18).toInt.toNat).toInt ≤ 12 := by
  have r18 : 0 ≤ (Fm 18).toInt ∧ (Fm 18).toInt ≤ 1 := S.1 18
  rcases hj with rfl | rfl | rfl | rfl | rfl
  · have w : 0 ≤ (Am 11 (Fm 18).toInt.toNat).toInt ∧ (Am 11 (Fm 18).toInt.toNat).toInt ≤ 8 := S.2.1 11 (Fm 18).toInt r18.1
    omega
  · have w : 0 ≤ (Am 12 (Fm 18).toInt.toNat).toInt ∧ (Am 12 (Fm 18).toInt.toNat).toInt ≤ 12 := S.2.1 12 (Fm 18).toInt r18.1
    omega
  · have w : 0 ≤ (Am 17 (Fm 18).toInt.toNat).toInt ∧ (Am 17 (Fm 18).toInt.toNat).toInt ≤ 6 := S.2.1 17 (Fm 18).toInt r18.1
    omega
  · have w : 0 ≤ (Am 19 (Fm 18).toInt.toNat).toInt ∧ (Am 19 (Fm 18).toInt.toNat).toInt ≤ 6 := S.2.1 19 (Fm 18).toInt r18.1
    omega
  · have w : 0 ≤ (Am 29 (Fm 18).toInt.toNat).toInt ∧ (Am 29 (Fm 18).toInt.toNat).toInt ≤ 6 := S.2.1 29 (Fm 18).toInt r18.1
    omega
theorem v_dMan (S : SAm Fm Am) : po (d_isMan Fm Am Jm x1) (fun v => BV v (0 ≤ x1.toInt ∧ x1.toInt < (Am 29 (Fm 18).toInt.toNat).toInt)) := by
  unfold d_isMan d_menNow
  refine po_call (R := fun v => v = Am 29 (Fm 18).toInt.toNat) (po_bl (fun v1 h1 => po_some (gg_ld h1).2.2)) ?_
  intro v1 e1
  have hv := (S.cnt (j := 29) (by simp)).1
  rw [← e1] at hv ⊢
  refine po_call (v_din0 hv) ?_
  intro v2 b2
  refine po_bl (fun v3 h3 => ?_)
  rw [gg_zr h3]
  exact po_some b2
theorem v_dTask (S : SAm Fm Am) : po (d_isTask Fm Am Jm x1) (fun v => BV v (0 ≤ x1.toInt ∧ x1.toInt < (Am 19 (Fm 18).toInt.toNat).toInt)) := by
  unfold d_isTask d_tasksNow
  refine po_call (R := fun v => v = Am 19 (Fm 18).toInt.toNat) (po_bl (fun v1 h1 => po_some (gg_ld h1).2.2)) ?_
  intro v1 e1
  have hv := (S.cnt (j := 19) (by simp)).1
  rw [← e1] at hv ⊢
  refine po_call (v_din0 hv) ?_
  intro v2 b2
  refine po_bl (fun v3 h3 => ?_)
  rw [gg_zr h3]
  exact po_some b2
theorem v_dTool (S : SAm Fm Am) : po (d_isTool Fm Am Jm x1) (fun v => BV v (0 ≤ x1.toInt ∧ x1.toInt < (Am 17 (Fm 18).toInt.toNat).toInt)) := by
  unfold d_isTool
  exact v_dcnt (S.cnt (j := 17) (by simp)).1
theorem v_dRoom (S : SAm Fm Am) : po (d_isRoom Fm Am Jm x1) (fun v => BV v (0 ≤ x1.toInt ∧ x1.toInt < (Am 11 (Fm 18).toInt.toNat).toInt)) := by
  unfold d_isRoom
  exact v_dcnt (S.cnt (j := 11) (by simp)).1
theorem v_dStep (S : SAm Fm Am) : po (d_isStep Fm Am Jm x1 x2) (fun v => BV v (0 ≤ x1.toInt ∧ x1.toInt < (Am 19 (Fm 18).toInt.toNat).toInt ∧ 0 ≤ x2.toInt ∧ x2.toInt < ai Am 22 (6 * (Fm 18).toInt + x1.toInt))) := by
  have r18 : 0 ≤ (Fm 18).toInt ∧ (Fm 18).toInt ≤ 1 := S.1 18
  have c19 := S.cnt (j := 19) (by simp)
  unfold d_isStep d_stepsOf
  refine po_call (v_dTask S) ?_
  intro v1 b1
  rcases b1 with ⟨rfl, p1⟩ | ⟨rfl, p1⟩
  · refine po_cond (fun c => absurd c (by decide)) (fun _ => ?_)
    refine po_call (R := fun v => v.toInt = ai Am 22 (6 * (Fm 18).toInt + x1.toInt) ∧ 0 ≤ v.toInt) (po_bl (fun v3 h3 => ?_)) ?_
    · have g3 := gg_ld h3
      have m6 := i_mulL (c := 6) (k := 6) (x := Fm 18) (by decide) (by omega) (by omega)
      have ix := i_add (x := 6 * Fm 18) (y := x1) (by omega) (by omega)
      have e3 : v3.toInt = ai Am 22 (6 * (Fm 18).toInt + x1.toInt) := by rw [g3.2.2, ix, m6]; rfl
      have w : 0 ≤ ai Am 22 (6 * (Fm 18).toInt + x1.toInt) ∧ ai Am 22 (6 * (Fm 18).toInt + x1.toInt) ≤ 6 := S.2.1 22 (6 * (Fm 18).toInt + x1.toInt) (by omega)
      exact po_some ⟨e3, by omega⟩
    intro v3 b3
    refine po_call (v_din0 b3.2) ?_
    intro v4 b4
    rcases b4 with ⟨rfl, p4⟩ | ⟨rfl, p4⟩
    · refine po_cond (fun c => absurd c (by decide)) (fun _ => po_some (.inl ⟨rfl, p1.1, p1.2, p4.1, by omega⟩))
    · exact po_cond (fun _ => po_some (.inr ⟨rfl, fun h => p4 ⟨h.2.2.1, by omega⟩⟩)) (fun c => absurd c (by decide))
  · exact po_cond (fun _ => po_some (.inr ⟨rfl, fun h => p1 ⟨h.1, h.2.1⟩⟩)) (fun c => absurd c (by decide))
/-- the same on both sides -/
theorem CX.men (h : CX P F A Fm Am) : F (P 0 8) 17 = Am 29 (Fm 18).toInt.toNat := h.1 3 (by decide)
theorem CX.tasks (h : CX P F A Fm Am) : F (P 0 8) 16 = Am 19 (Fm 18).toInt.toNat := h.1 2 (by decide)
theorem CX.tools (h : CX P F A Fm Am) : F (P 0 8) 15 = Am 17 (Fm 18).toInt.toNat := h.1 1 (by decide)
theorem CX.rooms (h : CX P F A Fm Am) : F (P 0 8) 13 = Am 11 (Fm 18).toInt.toNat := h.1 0 (by decide)
theorem CX.stp (h : CX P F A Fm Am) : (0 ≤ x1.toInt ∧ x1.toInt < (F (P 0 8) 16).toInt ∧ 0 ≤ x2.toInt ∧ x2.toInt < ci A (P 0 8) 5 x1.toInt) ↔ (0 ≤ x1.toInt ∧ x1.toInt < (Am 19 (Fm 18).toInt.toNat).toInt ∧ 0 ≤ x2.toInt ∧ x2.toInt < ai Am 22 (6 * (Fm 18).toInt + x1.toInt)) := by
  rw [h.tasks]
  constructor
  · rintro ⟨a, b, c, d⟩
    exact ⟨a, b, c, by rw [← h.2.2 _ a (by rw [show F (P 0 8) 16 = _ from h.tasks]; exact b)]; exact d⟩
  · rintro ⟨a, b, c, d⟩
    exact ⟨a, b, c, by rw [h.2.2 _ a (by rw [show F (P 0 8) 16 = _ from h.tasks]; exact b)]; exact d⟩
/-- the end of a call of the class that answers so -/
theorem v_stale {v : Int32} {p : Prop} (h : BV v p) : po ((e_Evening_setStale P F A J).bind fun (_, P7, F8, A9, J10) => some (v, P7, F8, A9, J10)) (fun r => BV r.1 p) := by
  refine po_call (R := fun _ => True) (fun _ _ => trivial) ?_
  rintro ⟨u, P7, F8, A9, J10⟩ -
  exact po_some h
theorem v_cLay : po (e_SleepWork_lay P F A J x1 x2) (fun r => BV r.1 ((0 ≤ x1.toInt ∧ x1.toInt < (F (P 0 8) 15).toInt) ∧ 0 ≤ x2.toInt ∧ x2.toInt < (F (P 0 8) 13).toInt)) := by
  unfold e_SleepWork_lay
  refine po_call v_cTool ?_
  intro v b
  rcases b with ⟨rfl, p⟩ | ⟨rfl, p⟩
  · refine po_cond (fun c => absurd c (by decide)) (fun _ => ?_)
    refine po_call v_cRoom ?_
    intro v b
    rcases b with ⟨rfl, p2⟩ | ⟨rfl, p2⟩
    · refine po_cond (fun _ => po_bl (fun _ _ => v_stale (.inl ⟨rfl, p, p2⟩))) (fun c => absurd c (by decide))
    · exact po_cond (fun c => absurd c (by decide)) (fun _ => po_some (.inr ⟨rfl, fun h => p2 h.2⟩))
  · exact po_cond (fun _ => po_some (.inr ⟨rfl, fun h => p h.1⟩)) (fun c => absurd c (by decide))
theorem v_cGive : po (e_SleepWork_give P F A J x1 x2) (fun r => BV r.1 ((0 ≤ x1.toInt ∧ x1.toInt < (F (P 0 8) 15).toInt) ∧ 0 ≤ x2.toInt ∧ x2.toInt < (F (P 0 8) 17).toInt)) := by
  unfold e_SleepWork_give
  refine po_call v_cTool ?_
  intro v b
  rcases b with ⟨rfl, p⟩ | ⟨rfl, p⟩
  · refine po_cond (fun c => absurd c (by decide)) (fun _ => ?_)
    refine po_call v_cMan ?_
    intro v b
    rcases b with ⟨rfl, p2⟩ | ⟨rfl, p2⟩
    · refine po_cond (fun _ => po_bl (fun _ _ => v_stale (.inl ⟨rfl, p, p2⟩))) (fun c => absurd c (by decide))
    · exact po_cond (fun c => absurd c (by decide)) (fun _ => po_some (.inr ⟨rfl, fun h => p2 h.2⟩))
  · exact po_cond (fun _ => po_some (.inr ⟨rfl, fun h => p h.1⟩)) (fun c => absurd c (by decide))
theorem v_cBar : po (e_SleepWork_bar P F A J x1 x2) (fun r => BV r.1 (0 ≤ x1.toInt ∧ x1.toInt < (F (P 0 8) 14).toInt)) := by
  unfold e_SleepWork_bar
  refine po_cond (fun c => po_some (.inr ⟨rfl, fun h => ?_⟩)) (fun c => ?_)
  · rw [i_lt, i_0] at c; omega
  rw [i_nlt, i_0] at c
  refine po_bl (fun _ h => ?_)
  obtain ⟨-, rfl⟩ := gg_chk h
  refine po_cond (fun c2 => ?_) (fun c2 => po_some (.inr ⟨rfl, fun h => ?_⟩))
  · rw [i_lt] at c2
    have f : ∀ {rs : Nat} {s : Int32}, po (e_SleepWork_bar_52 P F A J rs s) (fun r => BV r.1 (0 ≤ x1.toInt ∧ x1.toInt < (F (P 0 8) 14).toInt)) := fun {rs s} => by
      unfold e_SleepWork_bar_52
      exact po_bl (fun _ _ => v_stale (.inl ⟨rfl, c, c2⟩))
    exact po_cond (fun _ => f) (fun _ => f)
  · rw [i_nlt] at c2; omega
theorem v_cLeave : po (e_SleepWork_leave P F A J x1 x2 x3) (fun r => BV r.1 ((0 ≤ x1.toInt ∧ x1.toInt < (F (P 0 8) 17).toInt) ∧ ((x2.toInt = -1 ∧ x3.toInt = -1) ∨ (0 ≤ x2.toInt ∧ x2.toInt < (F (P 0 8) 16).toInt ∧ 0 ≤ x3.toInt ∧ x3.toInt < ci A (P 0 8) 5 x2.toInt)))) := by
  have lm : ((-1 : Int32)).toInt = -1 := by decide
  unfold e_SleepWork_leave
  refine po_call v_cMan ?_
  intro v b
  rcases b with ⟨rfl, p⟩ | ⟨rfl, p⟩
  · refine po_cond (fun _ => ?_) (fun c => absurd c (by decide))
    have f46 : ∀ {s : Int32}, ((x2.toInt = -1 ∧ x3.toInt = -1) ∨ (0 ≤ x2.toInt ∧ x2.toInt < (F (P 0 8) 16).toInt ∧ 0 ≤ x3.toInt ∧ x3.toInt < ci A (P 0 8) 5 x2.toInt)) → po (e_SleepWork_leave_46 P F A J x1 x2 x3 s) (fun r => BV r.1 ((0 ≤ x1.toInt ∧ x1.toInt < (F (P 0 8) 17).toInt) ∧ ((x2.toInt = -1 ∧ x3.toInt = -1) ∨ (0 ≤ x2.toInt ∧ x2.toInt < (F (P 0 8) 16).toInt ∧ 0 ≤ x3.toInt ∧ x3.toInt < ci A (P 0 8) 5 x2.toInt)))) := fun {s} hp => by
      unfold e_SleepWork_leave_46 e_SleepWork_leave_69
      exact po_cond (fun _ => po_bl (fun _ _ => v_stale (.inl ⟨rfl, p, hp⟩))) (fun _ => po_bl (fun _ _ => v_stale (.inl ⟨rfl, p, hp⟩)))
    have f24 : ¬ (x2.toInt = -1 ∧ x3.toInt = -1) → po (e_SleepWork_leave_24 P F A J x1 x2 x3) (fun r => BV r.1 ((0 ≤ x1.toInt ∧ x1.toInt < (F (P 0 8) 17).toInt) ∧ ((x2.toInt = -1 ∧ x3.toInt = -1) ∨ (0 ≤ x2.toInt ∧ x2.toInt < (F (P 0 8) 16).toInt ∧ 0 ≤ x3.toInt ∧ x3.toInt < ci A (P 0 8) 5 x2.toInt)))) := fun hn => by
      unfold e_SleepWork_leave_24 e_SleepWork_leave_25
      refine po_cond (fun c => absurd c (by decide)) (fun _ => ?_)
      refine po_bl (fun _ h => ?_)
      obtain ⟨-, rfl⟩ := gg_chk h
      refine po_call v_cStep ?_
      intro v b
      rcases b with ⟨rfl, p2⟩ | ⟨rfl, p2⟩
      · exact po_cond (fun _ => f46 (.inr p2)) (fun c => absurd c (by decide))
      · exact po_cond (fun c => absurd c (by decide)) (fun _ => po_some (.inr ⟨rfl, fun h => h.2.elim hn p2⟩))
    refine po_cond (fun c => ?_) (fun c => ?_)
    · rw [i_ne, lm] at c
      exact f24 (fun h => c h.1)
    · rw [i_nne, lm] at c
      refine po_cond (fun c2 => ?_) (fun c2 => ?_)
      · rw [i_ne, lm] at c2
        exact f24 (fun h => c2 h.2)
      · rw [i_nne, lm] at c2
        unfold e_SleepWork_leave_25
        exact po_cond (fun _ => f46 (.inl ⟨c, c2⟩)) (fun c => absurd c (by decide))
  · exact po_cond (fun c => absurd c (by decide)) (fun _ => po_some (.inr ⟨rfl, fun h => p h.1⟩))
theorem v_dLay (S : SAm Fm Am) : po (d_lay Fm Am Jm x1 x2) (fun r => BV r.1 ((0 ≤ x1.toInt ∧ x1.toInt < (Am 17 (Fm 18).toInt.toNat).toInt) ∧ 0 ≤ x2.toInt ∧ x2.toInt < (Am 11 (Fm 18).toInt.toNat).toInt)) := by
  unfold d_lay
  refine po_call (v_dTool S) ?_
  intro v b
  rcases b with ⟨rfl, p⟩ | ⟨rfl, p⟩
  · refine po_cond (fun c => absurd c (by decide)) (fun _ => ?_)
    refine po_call (v_dRoom S) ?_
    intro v b
    rcases b with ⟨rfl, p2⟩ | ⟨rfl, p2⟩
    · refine po_cond (fun _ => po_bl (fun _ _ => po_some (.inl ⟨rfl, p, p2⟩))) (fun c => absurd c (by decide))
    · exact po_cond (fun c => absurd c (by decide)) (fun _ => po_some (.inr ⟨rfl, fun h => p2 h.2⟩))
  · exact po_cond (fun _ => po_some (.inr ⟨rfl, fun h => p h.1⟩)) (fun c => absurd c (by decide))
theorem v_dGive (S : SAm Fm Am) : po (d_give Fm Am Jm x1 x2) (fun r => BV r.1 ((0 ≤ x1.toInt ∧ x1.toInt < (Am 17 (Fm 18).toInt.toNat).toInt) ∧ 0 ≤ x2.toInt ∧ x2.toInt < (Am 29 (Fm 18).toInt.toNat).toInt)) := by
  unfold d_give
  refine po_call (v_dTool S) ?_
  intro v b
  rcases b with ⟨rfl, p⟩ | ⟨rfl, p⟩
  · refine po_cond (fun c => absurd c (by decide)) (fun _ => ?_)
    refine po_call (v_dMan S) ?_
    intro v b
    rcases b with ⟨rfl, p2⟩ | ⟨rfl, p2⟩
    · refine po_cond (fun _ => po_bl (fun _ _ => po_some (.inl ⟨rfl, p, p2⟩))) (fun c => absurd c (by decide))
    · exact po_cond (fun c => absurd c (by decide)) (fun _ => po_some (.inr ⟨rfl, fun h => p2 h.2⟩))
  · exact po_cond (fun _ => po_some (.inr ⟨rfl, fun h => p h.1⟩)) (fun c => absurd c (by decide))
theorem v_dBar (S : SAm Fm Am) : po (d_bar Fm Am Jm x1 x2) (fun r => BV r.1 (0 ≤ x1.toInt ∧ x1.toInt < (Am 12 (Fm 18).toInt.toNat).toInt)) := by
  unfold d_bar
  refine po_bl (fun v1 h1 => ?_)
  have e1 := (gg_ld h1).2.2
  have hv := (S.cnt (j := 12) (by simp)).1
  rw [← e1] at hv ⊢
  refine po_call (v_din0 hv) ?_
  intro v b
  rcases b with ⟨rfl, p⟩ | ⟨rfl, p⟩
  · have f : ∀ {s t : Int32}, po (d_bar_58 Fm Am Jm s t) (fun r => BV r.1 (0 ≤ x1.toInt ∧ x1.toInt < v1.toInt)) := fun {s t} => by
      unfold d_bar_58
      exact po_bl (fun _ _ => po_some (.inl ⟨rfl, p⟩))
    exact po_cond (fun _ => po_cond (fun _ => po_bl (fun _ _ => f)) (fun _ => po_bl (fun _ _ => f))) (fun c => absurd c (by decide))
  · exact po_cond (fun c => absurd c (by decide)) (fun _ => po_some (.inr ⟨rfl, p⟩))
theorem v_dLeave (S : SAm Fm Am) : po (d_leave Fm Am Jm x1 x2 x3) (fun r => BV r.1 ((0 ≤ x1.toInt ∧ x1.toInt < (Am 29 (Fm 18).toInt.toNat).toInt) ∧ ((x2.toInt = -1 ∧ x3.toInt = -1) ∨ (0 ≤ x2.toInt ∧ x2.toInt < (Am 19 (Fm 18).toInt.toNat).toInt ∧ 0 ≤ x3.toInt ∧ x3.toInt < ai Am 22 (6 * (Fm 18).toInt + x2.toInt))))) := by
  have lm : ((-1 : Int32)).toInt = -1 := by decide
  have left : po (d_isLeft Fm Am Jm x2 x3) (fun v => BV v ((x2.toInt = -1 ∧ x3.toInt = -1) ∨ (0 ≤ x2.toInt ∧ x2.toInt < (Am 19 (Fm 18).toInt.toNat).toInt ∧ 0 ≤ x3.toInt ∧ x3.toInt < ai Am 22 (6 * (Fm 18).toInt + x2.toInt)))) := by
    have f : ¬ (x2.toInt = -1 ∧ x3.toInt = -1) → po (d_isLeft_10 Fm Am Jm x2 x3) (fun v => BV v ((x2.toInt = -1 ∧ x3.toInt = -1) ∨ (0 ≤ x2.toInt ∧ x2.toInt < (Am 19 (Fm 18).toInt.toNat).toInt ∧ 0 ≤ x3.toInt ∧ x3.toInt < ai Am 22 (6 * (Fm 18).toInt + x2.toInt)))) := fun hn => by
      unfold d_isLeft_10
      refine po_call (v_dStep S) ?_
      intro v b
      rcases b with ⟨rfl, p2⟩ | ⟨rfl, p2⟩
      · exact po_cond (fun c => absurd c (by decide)) (fun _ => po_some (.inl ⟨rfl, .inr p2⟩))
      · exact po_cond (fun _ => po_some (.inr ⟨rfl, fun h => h.elim hn p2⟩)) (fun c => absurd c (by decide))
    unfold d_isLeft
    refine po_cond (fun c => ?_) (fun c => ?_)
    · rw [i_ne, lm] at c
      exact f (fun h => c h.1)
    · rw [i_nne, lm] at c
      refine po_cond (fun c2 => ?_) (fun c2 => ?_)
      · rw [i_eq, lm] at c2
        exact po_some (.inl ⟨rfl, .inl ⟨c, c2⟩⟩)
      · rw [i_neq, lm] at c2
        exact f (fun h => c2 h.2)
  unfold d_leave
  refine po_call (v_dMan S) ?_
  intro v b
  rcases b with ⟨rfl, p⟩ | ⟨rfl, p⟩
  · refine po_cond (fun c => absurd c (by decide)) (fun _ => ?_)
    refine po_call left ?_
    intro v b
    rcases b with ⟨rfl, p2⟩ | ⟨rfl, p2⟩
    · refine po_cond (fun _ => po_bl (fun _ _ => po_bl (fun _ _ => po_some (.inl ⟨rfl, p, p2⟩)))) (fun c => absurd c (by decide))
    · exact po_cond (fun c => absurd c (by decide)) (fun _ => po_some (.inr ⟨rfl, fun h => p2 h.2⟩))
  · exact po_cond (fun _ => po_some (.inr ⟨rfl, fun h => p h.1⟩)) (fun c => absurd c (by decide))
theorem p2_lay (G : Gc P F A) (S : SAm Fm Am) (hc : CX P F A Fm Am) : P2 (e_SleepWork_lay P F A J x1 x2) (d_lay Fm Am Jm x1 x2) (fun a b => a.1 = b.1) :=
  p2_of v_cLay (v_dLay S) (fun a b h h' => h.eq h' (by rw [hc.tools, hc.rooms]))
theorem p2_give (G : Gc P F A) (S : SAm Fm Am) (hc : CX P F A Fm Am) : P2 (e_SleepWork_give P F A J x1 x2) (d_give Fm Am Jm x1 x2) (fun a b => a.1 = b.1) :=
  p2_of v_cGive (v_dGive S) (fun a b h h' => h.eq h' (by rw [hc.tools, hc.men]))
theorem p2_bar (G : Gc P F A) (S : SAm Fm Am) (hc : CX P F A Fm Am) : P2 (e_SleepWork_bar P F A J x1 x2) (d_bar Fm Am Jm x1 x2) (fun a b => a.1 = b.1) :=
  p2_of v_cBar (v_dBar S) (fun a b h h' => h.eq h' (by rw [show F (P 0 8) 14 = _ from hc.2.1]))
theorem p2_leave (G : Gc P F A) (S : SAm Fm Am) (hc : CX P F A Fm Am) : P2 (e_SleepWork_leave P F A J x1 x2 x3) (d_leave Fm Am Jm x1 x2 x3) (fun a b => a.1 = b.1) :=
  p2_of v_cLeave (v_dLeave S) (fun a b h h' => h.eq h' (by rw [hc.men, hc.stp]))
end H9ew
end Qz130
