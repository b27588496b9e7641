section C9
variable {γ δ : Type} {JW JK : Nat → Int64} {d n m : Nat} {P : Nat → Nat → Nat} {F : Nat → Nat → Int32} {A : Nat → Nat → Nat → Int32} {J : Nat → Nat → Nat → Int64} {Fm : Nat → Int32} {Am : Nat → Nat → Int32} {Jm : Nat → Nat → Int64}
theorem p2_pol {x : Option γ} {z : Option δ} {Q : γ → δ → Prop} {R : γ → Prop} (h : po x R) (k : P2 x z Q) : P2 x z (fun a b => Q a b ∧ R a) := fun a b ha hb => ⟨k a b ha hb, h a ha⟩
theorem p2_por {x : Option γ} {z : Option δ} {Q : γ → δ → Prop} {R : δ → Prop} (h : po z R) (k : P2 x z Q) : P2 x z (fun a b => Q a b ∧ R b) := fun a b ha hb => ⟨k a b ha hb, h b hb⟩
/-- the reference takes its tape for its text -/
theorem w_10 {x : Option γ} {Q : γ → mR Int32 → Prop} {F1 : Nat → Int32} (hF : IFm F1) (ks : ∀ (m' : Nat) (A' : Nat → Nat → Int32), IAm A' → (∀ q, q ≠ 2 → A' q = Am q) → (∀ i : Nat, (i : Int) < (F1 4).toInt → A' 2 i = vp_nar .byte (Am 1 i)) → 9000 ≤ m' → P2 x ((m_pf F1 2 0).bind fun F3 => (d_cut m' F3 A' Jm).bind fun (_, F5, A6, J7) => rbody m' F5 A6 J7) Q) : ∀ {m : Nat} {A : Nat → Nat → Int32} {x1 : Int32}, IAm A → (∀ q, q ≠ 2 → A q = Am q) → 0 ≤ x1.toInt ∧ x1.toInt ≤ 2000 → (∀ i : Nat, (i : Int) < x1.toInt → A 2 i = vp_nar .byte (Am 1 i)) → 12000 - x1.toInt < (m : Int) → P2 x (d_read_10 m F1 A Jm x1) Q := by
  have r4 : 0 ≤ (F1 4).toInt ∧ (F1 4).toInt ≤ 2000 := hF 4
  have l1 := i_1
  intro m
  induction m with
  | zero => intro A x1 _ _ _ _ hn; omega
  | succ m ih =>
    intro A x1 hA o hx hb hn
    unfold d_read_10
    refine p2_cr (fun c => ?_) (fun c => ?_)
    · rw [i_ge] at c
      exact ks m A hA o (fun i hi => hb i (by omega)) (by omega)
    · rw [i_nge] at c
      have e3 := i_add (x := x1) (y := 1) (by omega) (by omega)
      refine p2_br (fun v ev => ?_)
      have av := gg_ld ev
      refine p2r_st (j := 2) hA (by omega) (by omega) trivial ?_
      intro A2 a2 o2 s2 n2
      refine ih a2 (fun q hq => (o2 q hq).trans (o q hq)) (by omega) (fun i hi => ?_) (by omega)
      by_cases e : (i : Int) = x1.toInt
      · have ei : i = x1.toInt.toNat := by omega
        have w : (A2 2 x1.toInt.toNat).toInt = (vp_nar .byte v).toInt := s2
        rw [ei]
        refine i_ext (w.trans ?_)
        rw [av.2.2, o 1 (by decide)]
      · have w : ai A2 2 (i : Int) = ai A 2 (i : Int) := n2 (i : Int) (by omega) e
        exact (ai_nat w).trans (hb i (by omega))
theorem nar_b (v : Int32) : -128 ≤ (vp_nar .byte v).toInt ∧ (vp_nar .byte v).toInt ≤ 127 := by
  have e : vp_nar .byte v = v.toInt8.toInt32 := rfl
  rw [e, Int8.toInt_toInt32]
  exact ⟨Int8.le_toInt _, by have := Int8.toInt_lt v.toInt8; omega⟩
/-- the tapes of both sides -/
def TPx (F : Nat → Nat → Int32) (A : Nat → Nat → Nat → Int32) (Fm : Nat → Int32) (Am : Nat → Nat → Int32) : Prop := F 1 1 = Fm 2 ∧ ∀ i : Nat, (i : Int) < (Fm 2).toInt → A 1 1 i = Am 1 i ∧ vp_nar .byte (Am 1 i) = Am 1 i
/-- what both leave of a text -/
def RR (JW JK : Nat → Int64) (d : Nat) (Fm : Nat → Int32) (Am : Nat → Nat → Int32) (a : cR Int32) (b : mR Int32) : Prop := a.1 = b.1 ∧ JP JW a ∧ JQ JK b ∧ (a.1.toInt = 0 → HC d a.2.2.1 a.2.2.2.1 b.2.1 b.2.2.1 ∧ (HWx d a.2.2.1 a.2.2.2.1 b.2.1 b.2.2.1 ∧ LHx d a.2.2.1 a.2.2.2.1 b.2.1 b.2.2.1 ∧ SVx (a.2.2.1 d 17).toInt 3 a.2.2.1 a.2.2.2.1 b.2.2.1 47 0) ∧ (b.2.1 74).toInt = 0 ∧ (b.2.1 77).toInt = 0 ∧ (∀ i, 0 ≤ i → i < 3 → ai b.2.2.1 61 i = 0)) ∧ (a.1.toInt ≠ 0 → b.2.1 18 = Fm 18 ∧ b.2.1 74 = Fm 74 ∧ b.2.1 77 = Fm 77 ∧ LSm (Fm 18).toInt Am b.2.2.1 ∧ (∀ q, 45 ≤ q → b.2.2.1 q = Am q))
theorem p2_read (hW : WKx JW JK) (hk : c_kind d = 6) (R : Rc F A) (S : SAm Fm Am) (tp : TPx F A Fm Am) (jw : J 37 6 = JW) (jk : Jm 7 = JK) (hn : 6000 ≤ n) (hm : 12100 ≤ m) : P2 (e_Reader_readText n P F A J d 3) (d_read m Fm Am Jm) (RR JW JK d Fm Am) := by
  have hd := kd37 hk
  have r2 : 0 ≤ (Fm 2).toInt ∧ (Fm 2).toInt ≤ 2000 := S.1 2
  have r18 : 0 ≤ (Fm 18).toInt ∧ (Fm 18).toInt ≤ 1 := S.1 18
  unfold e_Reader_readText d_read
  refine p2r_pf S.1 (show 0 ≤ (Fm 2).toInt ∧ (Fm 2).toInt ≤ 2000 from r2) ?_
  intro F1 hF1 k1 o1
  refine w_10 (Am := Am) hF1 (fun m' A' hA' oA bA hm' => ?_) S.2.1 (fun _ _ => rfl) (by decide) (fun i hi => by rw [i_0] at hi; omega) (by rw [i_0]; omega)
  refine p2r_pf hF1 (show 0 ≤ (0 : Int32).toInt ∧ (0 : Int32).toInt ≤ 2000 by decide) ?_
  intro F3 hF3 k3 o3
  have f3 : ∀ q, q ≠ 2 → q ≠ 4 → F3 q = Fm q := fun q h2 h4 => (o3 q h2).trans (o1 q h4)
  have e4 : F3 4 = Fm 2 := (o3 4 (by decide)).trans k1
  have e14 : F1 4 = Fm 2 := k1
  have bt : BTx A F3 A' := by
    intro i hi
    rw [e4] at hi
    have b := bA i (by rw [e14]; exact hi)
    have t := tp.2 i hi
    rw [b, t.2]
    have g := nar_b (Am 1 i)
    rw [t.2] at g
    exact ⟨t.1, g⟩
  refine p2_call (p2_pol (v_open (P := P) (J := J) hk R (by omega)) <| p2_okl (s_open (P := P) (J := J) hk R (by omega)) (p2_okr (s_d_cut (J := Jm) hF3 hA' (by omega)) (p2_open (P := P) hW hk R (by rw [e4]; exact tp.1) (by rw [e4]; exact r2.1) (by rw [e4]; exact r2.2) bt jw jk (by omega)))) ?_
  rintro ⟨u, P5, F5, A5, J5⟩ ⟨u', Fm5, Am5, Jm5⟩ ⟨⟨⟨⟨sq, fo⟩, cu⟩, op⟩, vo⟩
  obtain ⟨b5, a5, p5, o5, -⟩ := cu
  obtain ⟨oP, x5, x6, V⟩ := op
  obtain ⟨w7, w9, w10, w12, wc, w14⟩ := fo
  dsimp only at b5 a5 p5 o5 oP x5 x6 V w7 w9 w10 w12 wc w14 ⊢
  have K := sq.tks
  obtain ⟨-, -, -, -, -, -, jw5, jk5⟩ := sq
  dsimp only at jw5 jk5
  have e18 : F3 18 = Fm 18 := f3 18 (by decide) (by decide)
  have c7 : (0 : Int32).toInt = 0 := i_0
  refine p2_mono (Q := RR JW JK d Fm Am) (R := fun a b => ((RQ d (Fm 18).toInt Fm Am a b ∨ True) ∧ RR JW JK d Fm Am a b)) ?_ (fun a b h => h.2)
  refine w_body (F := F3) (A := A') (A0 := Am) b5 a5 p5 o5 oA (by rw [e18]; exact r18) (by omega) (fun n' F' A6 D hn' z11 z13 z15 z12 z20 z19 fF zA oA6 z41 z34 => ?_)
  have g3 : A6 3 = Am5 3 := oA6 3 (by decide) (by decide)
  have g4 : A6 4 = Am5 4 := oA6 4 (by decide) (by decide)
  have g5 : A6 5 = Am5 5 := oA6 5 (by decide) (by decide)
  let T : TS := mkT (u, P5, F5, A5, J5) (u', Fm5, Am5, Jm5)
  have RT0 : RT T F5 F' := by
    refine ⟨by rw [w10]; rfl, z13, by rw [w7]; exact i_ext z11.symm, by rw [z11]; decide, by rw [z11]; decide, fun j hj => by rw [z11] at hj; omega, by rw [w12]; exact i_ext z15.symm, fun h => absurd z15 h⟩
  have RX0 : RX T A5 J5 A6 Jm5 := ⟨rfl, rfl, rfl, rfl, rfl, g3, g4, g5, rfl, rfl⟩
  have s0 : 0 ≤ (F' 19).toInt ∧ (F' 19).toInt ≤ 1 := by rw [z19, e18]; omega
  have az : ∀ q, q = 11 ∨ q = 12 ∨ q = 17 ∨ q = 19 ∨ q = 29 ∨ q = 33 → (0 : Int32) = A6 q (F' 19).toInt.toNat := by
    intro q hq
    have := zA q hq
    rw [← z19] at this
    exact i_ext (by rw [show (A6 q (F' 19).toInt.toNat).toInt = 0 from this]; rfl)
  have RH0 : RH d F5 A5 J5 F' A6 Jm5 := by
    refine ⟨s0.1, s0.2, fun q hq => ?_, ?_, ?_, fun k k0 k1 => ?_, ⟨by rw [z20]; decide, fun q hq => ?_, fun k hk => ?_, fun q hq i i0 i1 => ?_, fun k k' _ hk => ?_⟩, z12⟩
    · rw [wc q hq]; exact az _ (by have := rq_in q; omega)
    · rw [w14]; exact az _ (by omega)
    · rw [w9]; exact az _ (by omega)
    · have e : F5 d 16 = 0 := wc 2 (by decide)
      rw [e] at k1
      exact absurd k1 (by rw [i_0]; omega)
    · rw [wc q hq, i_0]
      exact ⟨by decide, by unfold ql; split <;> decide⟩
    · rw [z20] at hk; omega
    · rw [wc q hq, i_0] at i1; omega
    · rw [z20] at hk; omega
  have W0 : RW d F5 A5 F' A6 := by
    have c1 : F5 d 15 = 0 := wc 1 (by decide)
    have c2 : F5 d 16 = 0 := wc 2 (by decide)
    have c3 : F5 d 17 = 0 := wc 3 (by decide)
    refine RW.nil vo.1 w14 c1 c2 c3 (i_ext (vo.2.1.trans ?_))
    rw [z19]
    exact z41.symm
  have L0 : RL (F' 19).toInt d F5 A5 F' A6 := by
    have c0 : F5 d 1304 = 0 := vo.2.2.1
    refine ⟨by rw [c0]; decide, fun k k0 k1 => .inl ⟨vo.2.2.2 k k0 k1, ?_⟩⟩
    rw [z19]
    have := z34 k k0 k1
    omega
  have L := q_loop (n := n) (m := n') (x4 := 0) K x5 x6 hk (s := 1 - (F3 18).toInt) (l := (F3 18).toInt) ⟨by rw [e18]; omega, by rw [e18]; omega, rfl⟩ RT0 RX0 RH0 W0 L0 V D (by decide) (by rw [i_0, z11]; decide) (by rw [i_0]; omega) (by rw [z11]; omega)
  refine p2_mono (p2_por (jm_219 (w := JK) jk5) (p2_pol (jc_10 (w := JW) jw5) L)) (fun a b h => ⟨.inr trivial, ?_⟩)
  obtain ⟨⟨⟨q1, q2, q3⟩, ja⟩, jb⟩ := h
  refine ⟨q1, ja, jb, q2, fun h => ?_⟩
  obtain ⟨f, L', g⟩ := q3 h
  refine ⟨?_, ?_, ?_, by rw [← e18]; exact L', g⟩
  · rw [f 18 (by decide), fF 18 (by decide), e18]
  · rw [f 74 (by decide), fF 74 (by decide), f3 74 (by decide) (by decide)]
  · rw [f 77 (by decide), fF 77 (by decide), f3 77 (by decide) (by decide)]
end C9
