/-! the tapes and read, side by side -/
section D3
variable {JW JK : Nat → Int64} {n m : Nat} {P : Nat → Nat → Nat} {F : Nat → Nat → Int32} {A : Nat → Nat → Nat → Int32} {J : Nat → Nat → Nat → Int64} {Fm : Nat → Int32} {Am : Nat → Nat → Int32} {Jm : Nat → Nat → Int64} {x1 x2 x3 x4 x5 : Int32}
theorem nar_n (v : Int32) : vp_nar .byte (vp_nar .byte v) = vp_nar .byte v := by
  show (v.toInt8.toInt32).toInt8.toInt32 = v.toInt8.toInt32
  rw [Int8.toInt8_toInt32]
def TPr (J : Nat → Nat → Nat → Int64) (Jm : Nat → Nat → Int64) {α β : Type} (a : cR α) (b : mR β) : Prop := TPx a.2.2.1 a.2.2.2.1 b.2.1 b.2.2.1 ∧ a.2.2.2.2 = J ∧ b.2.2.2 = Jm
theorem p2_put3 : ∀ {n m : Nat} {P : Nat → Nat → Nat} {F : Nat → Nat → Int32} {A : Nat → Nat → Nat → Int32} {Fm : Nat → Int32} {Am : Nat → Nat → Int32} {x2 : Int32}, TPx F A Fm Am → P2 (e_Tape_addWord_3 n P F A J x1 x2) (d_put_3 m Fm Am Jm x1 x2) (TPr J Jm) := by
  have l2 : (2000 : Int32).toInt = 2000 := by decide
  have l1 := i_1
  intro n
  induction n with
  | zero => intro m P F A Fm Am x2 _ a b ha _; cases ha
  | succ n ih =>
    intro m P F A Fm Am x2 tp
    cases m with
    | zero => intro a b _ hb; cases hb
    | succ m =>
      unfold e_Tape_addWord_3 d_put_3
      by_cases c : g_cnd .lt x2 0 = true
      · rw [c, cond_true, cond_true]
        exact p2_some ⟨tp, rfl, rfl⟩
      · rw [Bool.not_eq_true] at c
        rw [c, cond_false, cond_false]
        refine p2_br (fun Am2 e2 => ?_)
        have a2 := gg_st e2
        have ef := tp.1
        rw [i_nge.mpr (by rw [l2, ef]; have := a2.2.1; omega), cond_false]
        refine p2_bl (fun A3 e3 => ?_)
        have a3 := (gg_cst e3).2.2
        refine p2_bl (fun F4 e4 => ?_)
        have u4 := gg_cpf e4
        refine p2_br (fun Fm3 e5 => ?_)
        have u5 := gg_pf e5
        rw [ef] at a3
        have f4 : F4 1 1 = Fm3 2 := by rw [u4.1, u5.1, ef]
        have s5 : (Fm3 2).toInt = (Fm 2).toInt + 1 := by rw [u5.1, i_add (by omega) (by omega), i_1]
        refine ih ⟨f4, fun i hi => ?_⟩
        by_cases e : (i : Int) = (Fm 2).toInt
        · have ei : i = (Fm 2).toInt.toNat := by omega
          have w1 : (A3 1 1 (Fm 2).toInt.toNat).toInt = _ := a3.1
          have w2 : (Am2 1 (Fm 2).toInt.toNat).toInt = _ := a2.2.2.2.1
          rw [ei]
          have w3 := i_ext w2
          exact ⟨i_ext (w1.trans w2.symm), by rw [w3, nar_n]⟩
        · have w1 : A3 1 1 i = A 1 1 i := i_ext (a3.2.1 (i : Int) (by omega) e)
          have w2 : Am2 1 i = Am 1 i := ai_nat (a2.2.2.2.2 (i : Int) (by omega) e)
          rw [w1, w2]
          exact tp.2 i (by omega)
theorem p2_put (tp : TPx F A Fm Am) : P2 (e_Tape_addWord n P F A J x1) (d_put m Fm Am Jm x1) (TPr J Jm) := p2_put3 tp
theorem p2_feed (tp : TPx F A Fm Am) : P2 (e_SleepWork_feed n P F A J x1 x2 x3 x4 x5) (d_feed m Fm Am Jm x1 x2 x3 x4 x5) (TPr J Jm) := by
  unfold e_SleepWork_feed e_Tape_hasSpace d_feed
  rw [tp.1]
  by_cases c : ((Fm 2) + 20).toInt ≤ (2000 : Int32).toInt
  · rw [i_ngt.mpr c, cond_false, Option.bind_some, i_ne.mpr (by decide), cond_true, i_le.mpr c, cond_true]
    refine p2_call (p2_put tp) ?_
    rintro ⟨_, P1, F1, A1, J1⟩ ⟨_, Fm1, Am1, Jm1⟩ ⟨t1, rfl, rfl⟩
    refine p2_call (p2_put t1) ?_
    rintro ⟨_, P2, F2, A2, J2⟩ ⟨_, Fm2, Am2, Jm2⟩ ⟨t2, rfl, rfl⟩
    refine p2_call (p2_put t2) ?_
    rintro ⟨_, P3, F3, A3, J3⟩ ⟨_, Fm3, Am3, Jm3⟩ ⟨t3, rfl, rfl⟩
    refine p2_call (p2_put t3) ?_
    rintro ⟨_, P4, F4, A4, J4⟩ ⟨_, Fm4, Am4, Jm4⟩ ⟨t4, rfl, rfl⟩
    refine p2_call (p2_put t4) ?_
    rintro ⟨_, P5, F5, A5, J5⟩ ⟨_, Fm5, Am5, Jm5⟩ ⟨t5, rfl, rfl⟩
    exact p2_some ⟨t5, rfl, rfl⟩
  · rw [i_gt.mpr (by omega), cond_true, Option.bind_some, i_nne.mpr rfl, cond_false, i_nle.mpr (by omega), cond_false]
    exact p2_some ⟨tp, rfl, rfl⟩
theorem p2_back (tp : TPx F A Fm Am) (r2 : 0 ≤ (Fm 2).toInt) : P2 (e_SleepWork_back P F A J x1) (d_back Fm Am Jm x1) (TPr J Jm) := by
  unfold e_SleepWork_back d_back
  rw [tp.1]
  by_cases c : x1.toInt < 0
  · rw [i_lt.mpr (by rw [i_0]; exact c), cond_true, cond_true]
    exact p2_some ⟨tp, rfl, rfl⟩
  · rw [i_nlt.mpr (by rw [i_0]; omega), cond_false, cond_false]
    by_cases c2 : x1.toInt ≤ (Fm 2).toInt
    · rw [i_le.mpr c2, cond_true, cond_true]
      refine p2_bl (fun F3 e3 => ?_)
      have u3 := gg_cpf e3
      refine p2_br (fun Fm3 e4 => ?_)
      have u4 := gg_pf e4
      have rr := i_rng (Fm 2)
      have s : (Fm3 2).toInt = (Fm 2).toInt - x1.toInt := by rw [u4.1, i_sub (by omega) (by omega)]
      exact p2_some ⟨⟨by show F3 1 1 = Fm3 2; rw [u3.1, u4.1], fun i hi => tp.2 i (by have hi : (i : Int) < (Fm3 2).toInt := hi; omega)⟩, rfl, rfl⟩
    · rw [i_nle.mpr (by omega), cond_false, cond_false]
      exact p2_some ⟨tp, rfl, rfl⟩
theorem p2_bindl {α β γ : Type} {o : Option α} {z : Option β} {f : α → Option γ} {R : α → β → Prop} {Q : γ → β → Prop} (h : P2 o z R) (k : ∀ a b, R a b → po (f a) (fun c => Q c b)) : P2 (o.bind f) z Q := by
  intro c b hc hb
  obtain ⟨a, ha, hc⟩ := Option.bind_eq_some_iff.mp hc
  exact k a b (h a b ha hb) c hc
theorem jc_copy {q q' : Nat} {w : Nat → Int64} (h : J 37 6 = w) : po (e_State_copy P F A J q q') (JP w) := by
  unfold e_State_copy
  exact po_bl (fun _ _ => po_bl (fun _ _ => po_bl (fun _ _ => po_bl (fun _ _ => po_bl (fun _ _ => po_bl (fun _ _ => po_bl (fun _ _ => po_bl (fun _ _ => po_bl (fun _ _ => po_some h)))))))))
theorem jc_stale {w : Nat → Int64} (h : J 37 6 = w) : po (e_Evening_setStale P F A J) (JP w) := by
  unfold e_Evening_setStale
  exact po_bl (fun _ _ => po_some h)
theorem jc_drop {w : Nat → Int64} (h : J 37 6 = w) : po (e_Ways_drop P F A J) (JP w) := by
  unfold e_Ways_drop
  repeat' (first | exact po_some h | refine po_cond (fun _ => ?_) (fun _ => ?_) | refine po_bl (fun _ _ => ?_))
theorem jc_enter {q : Nat} {w : Nat → Int64} (h : J 37 6 = w) : po (e_Evening_enter P F A J q) (JP w) := by
  unfold e_Evening_enter
  refine po_bl (fun _ _ => ?_)
  refine po_call (jc_drop h) ?_
  rintro ⟨_, P1, F1, A1, J1⟩ h1
  refine po_call (jc_stale h1) ?_
  rintro ⟨_, P2, F2, A2, J2⟩ h2
  exact po_some h2
theorem jc_move {w : Nat → Int64} (h : J 37 6 = w) : po (e_SleepWork_moveIn P F A J) (JP w) := by
  unfold e_SleepWork_moveIn
  refine po_bl (fun _ _ => po_bl (fun _ _ => po_bl (fun _ _ => po_bl (fun _ _ => ?_))))
  refine po_call (jc_copy h) ?_
  rintro ⟨_, P1, F1, A1, J1⟩ h1
  refine po_bl (fun _ _ => po_bl (fun _ _ => po_bl (fun _ _ => po_bl (fun _ _ => ?_))))
  refine po_call (jc_enter h1) ?_
  rintro ⟨_, P2, F2, A2, J2⟩ h2
  exact po_some h2
/-- read, on both sides -/
theorem p2_cread (hW : WKx JW JK) (G : Gc P F A) (S : SAm Fm Am) (tp : TPx F A Fm Am) (jw : J 37 6 = JW) (jk : Jm 7 = JK) (hn : 6000 ≤ n) (hm : 12100 ≤ m) : P2 (e_SleepWork_read n P F A J) (d_read m Fm Am Jm) (fun a b => a.1 = b.1 ∧ JP JW a ∧ JQ JK b) := by
  unfold e_SleepWork_read
  refine p2_bl (fun q1 h1 => ?_)
  obtain ⟨hk, rfl⟩ := gg_chk h1
  refine p2_bindl (p2_read hW hk G.1 S tp jw jk hn hm) ?_
  rintro ⟨v2, P3, F4, A5, J6⟩ b ⟨e1, ja, jb, -, -⟩
  dsimp only at e1 ⊢
  refine po_bl (fun _ _ => po_bl (fun _ _ => po_bl (fun _ _ => po_cond (fun _ => po_some ⟨e1, ja, jb⟩) (fun _ => ?_))))
  refine po_call (jc_move ja) ?_
  rintro ⟨_, P4, F5, A6, J7⟩ h2
  exact po_some ⟨e1, h2, jb⟩
end D3
