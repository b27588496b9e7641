/-! worth, and what a night wins, on both sides -/
section H9ez9
variable {h q : Nat} {t k x N E : Int} {ex : Prop} {P : Nat → Nat → Nat} {F F' : Nat → Nat → Int32} {A A' A1 : Nat → Nat → Nat → Int32} {J : Nat → Nat → Nat → Int64} {Fm Fm' : Nat → Int32} {Am Am' Am1 : Nat → Nat → Int32} {Jm : Nat → Nat → Int64} {x1 x2 x3 x4 x5 y1 y2 y3 : Int32} {D : Int → Int → Int} {β γ δ : Type}
theorem i_self (x : Int32) : x - x = 0 := i_ext (by
  have r := i_rng x
  rw [i_sub (by omega) (by omega), i_0]
  omega)
/-- what a step has won -/
theorem w_step (d n g s : Int32) : (if n < d then n else d) * g - (d - (if n < d then n else d)) * s = (if n.toInt ≤ d.toInt then n else d) * g - (if d.toInt ≤ n.toInt then 0 else d - n) * s := by
  by_cases c : n < d
  · rw [if_pos c]
    rw [Int32.lt_iff_toInt_lt] at c
    rw [if_pos (by omega), if_neg (by omega)]
  · rw [if_neg c, i_self]
    rw [Int32.lt_iff_toInt_lt] at c
    rw [if_pos (show d.toInt ≤ n.toInt by omega)]
    by_cases e : n.toInt ≤ d.toInt
    · rw [if_pos e, i_ext (show n.toInt = d.toInt by omega)]
    · rw [if_neg e]
/-- the done of an evening on both sides -/
def DNx (q : Nat) (A : Nat → Nat → Nat → Int32) (Am : Nat → Nat → Int32) : Prop := ∀ k : Int, 0 ≤ k → k < 36 → ci A q 1 k = ai Am 48 (6 + k)
theorem p2_worth21 (H : NHx h F A Fm Am) (S : DNx q A Am) (t0 : 0 ≤ t) (t1 : t < (F h 16).toInt) (e1 : y1.toInt = t) (e4 : x4.toInt = t * 6 + ci A h 5 t) : ∀ {n m : Nat} {x3 x5 y3 : Int32}, x5.toInt = t * 6 + y3.toInt → 0 ≤ y3.toInt → y3.toInt ≤ ci A h 5 t → P2 (e_House_worth_21 n P F A J h q x3 x4 x5) (d_worthOf_4 m Fm Am Jm y1 x3 y3) (fun a b => a = b) := by
  have ct := H.ct
  have hs := H.sd
  have s6 := H.s6 t0
  intro n
  induction n with
  | zero => intro m x3 x5 y3 _ _ _ a b ha; cases ha
  | succ n ih =>
    intro m x3 x5 y3 e5 u0 u1
    cases m with
    | zero => intro a b _ hb; cases hb
    | succ m =>
      unfold e_House_worth_21 d_worthOf_4
      refine p2_r (v_steps hs (by omega)) ?_
      intro v1 q1
      rw [e1, ← H.stp t0 t1] at q1
      refine p2_cl (fun c => ?_) (fun c => ?_)
      · rw [i_ge] at c
        refine p2_cr (fun _ => p2_some rfl) (fun c2 => ?_)
        rw [i_nge] at c2
        omega
      · rw [i_nge] at c
        refine p2_cr (fun c2 => ?_) (fun _ => ?_)
        · rw [i_ge] at c2
          omega
        refine p2_r (v_stepAt hs (by omega) (by omega)) ?_
        intro w3 q3
        refine p2_bl (fun v3 h3 => p2_bl (fun v4 h4 => p2_bl (fun v5 h5 => p2_bl (fun v6 h6 => p2_bl (fun v7 h7 => ?_)))))
        refine p2_br (fun w4 k4 => p2_br (fun w5 k5 => ?_))
        obtain ⟨-, r7, r8, r9, -⟩ := H.row t0 t1 u0 (by omega)
        have g3 := (gl h3).2.2
        have g4 := (gl h4).2.2
        have g5 := (gl h5).2.2
        have g6 := (gl h6).2.2
        have g7 := (gl h7).2.2
        have a4 := (gm k4).2.2
        have a5 := (gm k5).2.2
        rw [e5] at g3 g4 g5 g6 g7
        rw [rx6 (by omega) (by omega), e1] at a4
        rw [q3, e1] at a5
        have z6 : v6 = v3 := i_ext (by omega)
        have d0 := S (t * 6 + y3.toInt) (by omega) (by omega)
        have z3 : v3 = w4 := i_ext (by
          rw [g3, a4, d0]
          congr 1
          omega)
        have z4 : v4 = w5 := i_ext (by omega)
        subst z6
        subst z3
        subst z4
        have e51 := i_p1 (x := x5) (by omega)
        have e31 := i_p1 (x := y3) (by omega)
        rw [w_step]
        have fin : ∀ {s2 g : Int32}, g = (if v4.toInt ≤ v6.toInt then v4 else v6) → s2 = (if v6.toInt ≤ v4.toInt then 0 else v6 - v4) → P2 ((e_House_worth_21 n) P F A J h q (x3 + ((if v4.toInt ≤ v6.toInt then v4 else v6) * v5 - (if v6.toInt ≤ v4.toInt then 0 else v6 - v4) * v7)) x4 (x5 + 1)) (d_worthOf_85 (d_worthOf_4 m) m Fm Am Jm y1 y3 w3 x3 (g * v5) s2) (fun a b => a = b) := fun {s2 g} hg hs2 => by
          unfold d_worthOf_85
          refine p2_br (fun w9 k9 => ?_)
          have a9 := (gm k9).2.2
          rw [q3, e1] at a9
          have z9 : v7 = w9 := i_ext (by omega)
          subst z9
          rw [hg, hs2]
          exact ih (by omega) (by omega) (by omega)
        have mid : ∀ {g : Int32}, g = (if v4.toInt ≤ v6.toInt then v4 else v6) → P2 ((e_House_worth_21 n) P F A J h q (x3 + ((if v4.toInt ≤ v6.toInt then v4 else v6) * v5 - (if v6.toInt ≤ v4.toInt then 0 else v6 - v4) * v7)) x4 (x5 + 1)) (d_worthOf_61 (d_worthOf_4 m) m Fm Am Jm y1 y3 w3 v6 v4 x3 g) (fun a b => a = b) := fun {g} hg => by
          unfold d_worthOf_61
          refine p2_br (fun w7 k7 => ?_)
          have a7 := (gm k7).2.2
          rw [q3, e1] at a7
          have z7 : v5 = w7 := i_ext (by omega)
          subst z7
          refine p2_cr (fun c5 => ?_) (fun c5 => ?_)
          · rw [i_le] at c5
            exact fin hg (by rw [if_pos c5])
          · rw [i_nle] at c5
            exact fin hg (by rw [if_neg (by omega)])
        refine p2_cr (fun c5 => ?_) (fun c5 => ?_)
        · rw [i_ge] at c5
          exact mid (by rw [if_pos c5])
        · rw [i_nge] at c5
          exact mid (by rw [if_neg (by omega)])
theorem p2_worth {n m : Nat} (H : NHx h F A Fm Am) (S : DNx q A Am) (t0 : 0 ≤ t) (t1 : t < (F h 16).toInt) (e2 : x2.toInt = t) (e1 : y1.toInt = t) : P2 (e_House_worth n P F A J h q x2) (d_worthOf m Fm Am Jm y1) (fun a b => a = b) := by
  have ct := H.ct
  have s6 := H.s6 t0
  unfold e_House_worth d_worthOf
  refine p2_bl (fun v1 h1 => ?_)
  have g1 := (gl h1).2.2
  rw [e2] at g1
  have m6 := i_mulR (c := 6) (k := 6) (x := x2) (by decide) (by omega) (by omega)
  exact p2_worth21 H S t0 t1 e1 (by rw [i_add (by rw [m6]; omega) (by rw [m6]; omega), m6]; omega) (by rw [m6, i_0]; omega) (by rw [i_0]; omega) (by rw [i_0]; omega)
theorem p2_worthAll4 (H : NHx h F A Fm Am) (S : DNx q A Am) : ∀ {n m : Nat} {x2 x3 y3 : Int32}, x3.toInt = y3.toInt → 0 ≤ x3.toInt → P2 (e_House_worthOfAll_4 n P F A J h q x2 x3) (d_worthNow_4 m Fm Am Jm x2 y3) (fun a b => a = b) := by
  have ct := H.ct
  have hk := H.tks
  intro n
  induction n with
  | zero => intro m x2 x3 y3 _ _ a b ha; cases ha
  | succ n ih =>
    intro m x2 x3 y3 exy x0
    cases m with
    | zero => intro a b _ hb; cases hb
    | succ m =>
      unfold e_House_worthOfAll_4 d_worthNow_4
      refine p2_r v_tasksNow ?_
      intro v1 q1
      refine p2_cl (fun c => ?_) (fun c => ?_)
      · rw [i_ge] at c
        refine p2_cr (fun _ => p2_some rfl) (fun c2 => ?_)
        rw [i_nge] at c2
        omega
      · rw [i_nge] at c
        refine p2_cr (fun c2 => ?_) (fun _ => ?_)
        · rw [i_ge] at c2
          omega
        refine p2_call (p2_worth H S x0 c rfl exy.symm) ?_
        rintro v _ rfl
        have e31 := i_p1 (x := x3) (by omega)
        have e21 := i_p1 (x := y3) (by omega)
        exact ih (by omega) (by omega)
/-- the worth of all tasks -/
theorem p2_worthAll {n m : Nat} (H : NHx h F A Fm Am) (S : DNx q A Am) : P2 (e_House_worthOfAll n P F A J h q) (d_worthNow m Fm Am Jm) (fun a b => a = b) := by
  unfold e_House_worthOfAll d_worthNow
  exact p2_worthAll4 H S rfl (by decide)
/-- the reference puts the night down too -/
def NWx (ex : Prop) (h q : Nat) (F : Nat → Nat → Int32) (A : Nat → Nat → Nat → Int32) (Am : Nat → Nat → Int32) (y : Int) : Prop := (∀ k : Int, 0 ≤ k → k < 36 → ci A q 1 k = ai Am 48 (6 + k)) ∧ (∀ k : Int, 0 ≤ k → k < 6 → ci A q 2 k = ai Am 48 k ∧ 0 ≤ ci A q 2 k) ∧ (∀ k : Int, 0 ≤ k → k < 6 → ci A q 4 k = ai Am 48 (72 + k)) ∧ ∀ m : Int, 0 ≤ m → m < (F h 17).toInt → (m < y → LQx h F A (ci A q 3 m) (ai Am 48 (42 + m)) (ai Am 48 (48 + m)) ∧ ci A q 5 m = ai Am 48 (54 + m) ∧ ci A q 6 m = ai Am 48 (60 + m) ∧ (ex → ci A q 7 m = ai Am 48 (66 + m))) ∧ (y ≤ m → ci A q 5 m = ai Am 55 m ∧ A q 6 m.toNat = Am 48 (60 + m).toNat + Am 55 m.toNat ∧ (ex → ci A q 7 m = ai Am 48 (66 + m)) ∧ ((ai Am 56 m = 1 ∧ ci A q 3 m = -1) ∨ (ai Am 56 m = 0 ∧ LQx h F A (ci A q 3 m) (ai Am 48 (42 + m)) (ai Am 54 m))))
theorem p2_wn20 {z : Option γ} {Q : γ → mR Int32 → Prop} {s78 s79 : Int}
    (kk : ∀ {m : Nat} {Am' : Nat → Nat → Int32}, NHx h F A Fm Am' → SBx ex h q F A Am' 48 0 → (∀ j, j ≠ 48 → Am' j = Am j) → ai Am' 48 78 = s78 → (∃ z : Int32, z.toInt = s79 ∧ ai Am' 48 79 = (z + 1).toInt) → P2 z ((d_worthNow m Fm Am' Jm).bind fun v11 => some (v11 - x1, Fm, Am', Jm)) Q) : ∀ {m : Nat} {Am1 : Nat → Nat → Int32} {y2 : Int32}, NHx h F A Fm Am1 → NWx ex h q F A Am1 y2.toInt → (∀ j, j ≠ 48 → Am1 j = Am j) → ai Am1 48 78 = s78 → ai Am1 48 79 = s79 → 0 ≤ y2.toInt → P2 z (d_wholeNight_20 m Fm Am1 Jm x1 y2) Q := by
  intro m
  induction m with
  | zero => intro Am1 y2 _ _ _ _ _ _ a b _ hb; cases hb
  | succ m ih =>
    intro Am1 y2 H W o e78 e79 y0
    have ct := H.ct
    have hm := H.men
    obtain ⟨W1, W2, W3, W4⟩ := W
    unfold d_wholeNight_20
    refine p2_r v_menNow ?_
    intro v7 q7
    refine p2_cr (fun c => ?_) (fun c => ?_)
    · rw [i_ge] at c
      refine p2_br (fun v9 h9 => p2_br (fun A10 h10 => ?_))
      have g9 := (gm h9).2.2
      have M := gg_st h10
      have l79 : (79 : Int32).toInt = 79 := by decide
      rw [l79] at g9 M
      refine kk (H.fr (fun _ => rfl) (fun _ _ => rfl) rfl (fun j _ _ => M.2.2.1 j (by omega))) (SBx.mk0 (fun k k0 k1 => ?_) (fun k k0 k1 => ?_) (fun k k0 k1 => ?_) (fun k k0 k1 => ?_)) (fun j hj => (M.2.2.1 j hj).trans (o j hj)) (by rw [M.2.2.2.2 78 (by decide) (by decide)]; exact e78) ⟨v9, by rw [g9]; exact e79, M.2.2.2.1⟩
      · rw [M.2.2.2.2 _ (by omega) (by omega)]; exact W1 k k0 k1
      · rw [M.2.2.2.2 _ (by omega) (by omega)]; exact W2 k k0 k1
      · rw [M.2.2.2.2 _ (by omega) (by omega)]; exact W3 k k0 k1
      · rw [M.2.2.2.2 _ (by omega) (by omega), M.2.2.2.2 _ (by omega) (by omega), M.2.2.2.2 _ (by omega) (by omega), M.2.2.2.2 _ (by omega) (by omega), M.2.2.2.2 _ (by omega) (by omega)]
        exact (W4 k k0 k1).1 (by omega)
    · rw [i_nge] at c
      have i54 := kx1 (c := 54) (x := y2) (k := 54) (by decide) (by decide) (by omega)
      have i60 := kx1 (c := 60) (x := y2) (k := 60) (by decide) (by decide) (by omega)
      have i48 := kx1 (c := 48) (x := y2) (k := 48) (by decide) (by decide) (by omega)
      have i42 := kx1 (c := 42) (x := y2) (k := 42) (by decide) (by decide) (by omega)
      have e21 := i_p1 (x := y2) (by omega)
      have lm : (-1 : Int32).toInt = -1 := by decide
      refine p2_br (fun v12 h12 => p2_br (fun A13 h13 => p2_br (fun v14 h14 => p2_br (fun v15 h15 => p2_br (fun A16 h16 => p2_br (fun v17 h17 => p2_br (fun A18 h18 => p2_br (fun v19 h19 => ?_))))))))
      have g12 := (gm h12).2.2
      have M13 := gg_st h13
      have g14 := gg_ld h14
      have g15 := gg_ld h15
      have M16 := gg_st h16
      have g17 := (gm h17).2.2
      have M18 := gg_st h18
      have g19 := (gm h19).2.2
      rw [i54] at M13
      rw [i60] at M16 g14
      rw [i48] at M18
      rw [ai_fr (M16.2.2.1 54 (by decide)), ai_fr (M13.2.2.1 54 (by decide))] at g17
      rw [ai_fr (M18.2.2.1 56 (by decide)), ai_fr (M16.2.2.1 56 (by decide)), ai_fr (M13.2.2.1 56 (by decide))] at g19
      have o18 : ∀ j, j ≠ 48 → A18 j = Am1 j := fun j hj => by rw [M18.2.2.1 j hj, M16.2.2.1 j hj, M13.2.2.1 j hj]
      have b18 : ∀ i, 0 ≤ i → i ≠ 48 + y2.toInt → i ≠ 54 + y2.toInt → i ≠ 60 + y2.toInt → ai A18 48 i = ai Am1 48 i := fun i i0 h1 h2 h3 => by rw [M18.2.2.2.2 i i0 h1, M16.2.2.2.2 i i0 h3, M13.2.2.2.2 i i0 h2]
      have b54 : ai A18 48 (54 + y2.toInt) = ai Am1 55 y2.toInt := by rw [M18.2.2.2.2 _ (by omega) (by omega), M16.2.2.2.2 _ (by omega) (by omega), M13.2.2.2.1]; exact g12
      have b60 : ai A18 48 (60 + y2.toInt) = (Am1 48 (60 + y2.toInt).toNat + Am1 55 y2.toInt.toNat).toInt := by
        rw [M18.2.2.2.2 _ (by omega) (by omega), M16.2.2.2.1, g14.2.2, g15.2.2, M13.2.2.1 55 (by decide)]
        have e : A13 48 (60 + y2.toInt).toNat = Am1 48 (60 + y2.toInt).toNat := i_ext (M13.2.2.2.2 (60 + y2.toInt) (by omega) (by omega))
        rw [e]
      have b48 : ai A18 48 (48 + y2.toInt) = ai Am1 54 y2.toInt := by rw [M18.2.2.2.1]; exact g17
      obtain ⟨w5, w6, w7, w8⟩ := (W4 y2.toInt y0 (by omega)).2 (Int.le_refl _)
      have H18 : NHx h F A Fm A18 := H.fr (fun _ => rfl) (fun _ _ => rfl) rfl (fun j _ _ => o18 j (by omega))
      -- going on, with what he left as it may be
      have go : ∀ {B : Nat → Nat → Int32}, (∀ j, j ≠ 48 → B j = A18 j) → (∀ i, 0 ≤ i → i ≠ 42 + y2.toInt → i ≠ 48 + y2.toInt → ai B 48 i = ai A18 48 i) → LQx h F A (ci A q 3 y2.toInt) (ai B 48 (42 + y2.toInt)) (ai B 48 (48 + y2.toInt)) → P2 z (d_wholeNight_20 m Fm B Jm x1 (y2 + 1)) Q := fun {B} oB bB lB => by
        have bb : ∀ i, 0 ≤ i → i ≠ 42 + y2.toInt → i ≠ 48 + y2.toInt → i ≠ 54 + y2.toInt → i ≠ 60 + y2.toInt → ai B 48 i = ai Am1 48 i := fun i i0 h1 h2 h3 h4 => (bB i i0 h1 h2).trans (b18 i i0 h2 h3 h4)
        refine ih (H18.fr (fun _ => rfl) (fun _ _ => rfl) rfl (fun j _ _ => oB j (by omega))) ⟨fun k k0 k1 => ?_, fun k k0 k1 => ?_, fun k k0 k1 => ?_, fun k k0 k1 => ⟨fun k2 => ?_, fun k2 => ?_⟩⟩ (fun j hj => (oB j hj).trans ((o18 j hj).trans (o j hj))) (by rw [bb 78 (by decide) (by omega) (by omega) (by omega) (by omega)]; exact e78) (by rw [bb 79 (by decide) (by omega) (by omega) (by omega) (by omega)]; exact e79) (by omega)
        · rw [bb _ (by omega) (by omega) (by omega) (by omega) (by omega)]; exact W1 k k0 k1
        · rw [bb _ (by omega) (by omega) (by omega) (by omega) (by omega)]; exact W2 k k0 k1
        · rw [bb _ (by omega) (by omega) (by omega) (by omega) (by omega)]; exact W3 k k0 k1
        · by_cases e : k = y2.toInt
          · subst e
            refine ⟨lB, ?_, ?_, fun hx => ?_⟩
            · rw [bB _ (by omega) (by omega) (by omega), b54]; exact w5
            · rw [bB _ (by omega) (by omega) (by omega), b60, ← w6]; rfl
            · rw [bb _ (by omega) (by omega) (by omega) (by omega) (by omega)]; exact w7 hx
          · rw [bb _ (by omega) (by omega) (by omega) (by omega) (by omega), bb _ (by omega) (by omega) (by omega) (by omega) (by omega), bb _ (by omega) (by omega) (by omega) (by omega) (by omega), bb _ (by omega) (by omega) (by omega) (by omega) (by omega), bb _ (by omega) (by omega) (by omega) (by omega) (by omega)]
            exact (W4 k k0 k1).1 (by omega)
        · have e60 : B 48 (60 + k).toNat = Am1 48 (60 + k).toNat := i_ext (bb (60 + k) (by omega) (by omega) (by omega) (by omega) (by omega))
          rw [e60, oB 55 (by decide), o18 55 (by decide), ai_fr (oB 55 (by decide)), ai_fr (o18 55 (by decide)), ai_fr (oB 56 (by decide)), ai_fr (o18 56 (by decide)), ai_fr (oB 54 (by decide)), ai_fr (o18 54 (by decide)), bb (66 + k) (by omega) (by omega) (by omega) (by omega) (by omega), bb (42 + k) (by omega) (by omega) (by omega) (by omega) (by omega)]
          exact (W4 k k0 k1).2 (by omega)
      refine p2_cr (fun c2 => ?_) (fun c2 => ?_)
      · rw [i_ne, i_0] at c2
        refine p2_br (fun A21 h21 => p2_br (fun A22 h22 => ?_))
        have M21 := gg_st h21
        have M22 := gg_st h22
        rw [i42, lm] at M21
        rw [i48, lm] at M22
        refine go (fun j hj => (M22.2.2.1 j hj).trans (M21.2.2.1 j hj)) (fun i i0 h1 h2 => by rw [M22.2.2.2.2 i i0 h2, M21.2.2.2.2 i i0 h1]) ?_
        rw [M22.2.2.2.1, M22.2.2.2.2 _ (by omega) (by omega), M21.2.2.2.1]
        rcases w8 with ⟨-, w8⟩ | ⟨w8, -⟩
        · exact .inl ⟨w8, rfl, rfl⟩
        · omega
      · rw [i_nne, i_0] at c2
        unfold d_wholeNight_108
        refine go (fun _ _ => rfl) (fun _ _ _ _ => rfl) ?_
        rcases w8 with ⟨w8, -⟩ | ⟨-, w8⟩
        · omega
        · rw [b48, b18 _ (by omega) (by omega) (by omega) (by omega)]
          exact w8
end H9ez9
