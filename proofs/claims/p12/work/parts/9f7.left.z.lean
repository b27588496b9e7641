section Qz153
/-! what men left in a good text: nothing, or a step of a known task (the reference alone) -/
section H9f7
variable {n : Nat} {F F' F0 : Nat → Int32} {A A' A0 : Nat → Nat → Int32} {J : Nat → Nat → Int64} {x1 x2 s1 s3 s4 : Int32} {l s c : Int}
def LTw (s : Int) (A : Nat → Nat → Int32) (m : Int) : Prop := 0 ≤ ai A 31 (6 * s + m) ∨ (ai A 31 (6 * s + m) = -1 ∧ ai A 32 (6 * s + m) = -1)
def XFm (F : Nat → Int32) (A : Nat → Nat → Int32) : Prop := 1 ≤ (F 13).toInt ∨ 1 ≤ (F 15).toInt ∨ ∀ m, 0 ≤ m → m < ai A 29 (F 19).toInt → LTw (F 19).toInt A m
theorem LTw.fr {m : Int} (h : LTw s A m) (h1 : ai A' 31 (6 * s + m) = ai A 31 (6 * s + m)) (h2 : ai A' 32 (6 * s + m) = ai A 32 (6 * s + m)) : LTw s A' m := by
  unfold LTw
  rw [h1, h2]
  exact h
theorem XFm.fr (X : XFm F A) (h13 : 1 ≤ (F 13).toInt → 1 ≤ (F' 13).toInt) (h15 : 1 ≤ (F 15).toInt → 1 ≤ (F' 15).toInt) (k : F' 19 = F 19) (r29 : A' 29 = A 29) (r31 : A' 31 = A 31) (r32 : A' 32 = A 32) : XFm F' A' := by
  rcases X with h | h | h
  · exact .inl (h13 h)
  · exact .inr (.inl (h15 h))
  · refine .inr (.inr (fun m m0 m1 => ?_))
    rw [k] at m1 ⊢
    rw [ai_fr r29] at m1
    exact (h m m0 m1).fr (by rw [ai_fr r31]) (by rw [ai_fr r32])
theorem XFm.q (X : XFm F A) (q : QCm F F' A A') : XFm F' A' := X.fr q.2.2.2.2.2.1 q.2.2.2.2.2.2 (q.2.2.1 19 (by decide)) (q.2.2.2.1 29) (q.2.2.2.1 31) (q.2.2.2.1 32)
theorem IAm.sto {j : Nat} {i v : Int} (hA : IAm A) (o : ∀ q, q ≠ j → A' q = A q) (e : ai A' j i = v) (r : ∀ q, 0 ≤ q → q ≠ i → ai A' j q = ai A j q) (hv : rA j i v) : IAm A' := by
  intro q k k0
  by_cases hq : q = j
  · subst hq
    by_cases hk : k = i
    · subst hk
      rw [e]
      exact hv
    · rw [r k k0 hk]
      exact hA q k k0
  · rw [ai_fr (o q hq)]
    exact hA q k k0
/-- the end of a man's sentence -/
def Xw (F : Nat → Int32) (A : Nat → Nat → Int32) : Prop := 1 ≤ (F 13).toInt ∨ 1 ≤ (F 15).toInt ∨ ∀ m, 0 ≤ m → m < ai A 29 (F 19).toInt + 1 → LTw (F 19).toInt A m
theorem Xw.q (X : Xw F A) (q : QCm F F' A A') : Xw F' A' := by
  have k := q.2.2.1 19 (by decide)
  rcases X with h | h | h
  · exact .inl (q.2.2.2.2.2.1 h)
  · exact .inr (.inl (q.2.2.2.2.2.2 h))
  · refine .inr (.inr (fun m m0 m1 => ?_))
    rw [k] at m1 ⊢
    rw [ai_fr (q.2.2.2.1 29)] at m1
    exact (h m m0 m1).fr (by rw [ai_fr (q.2.2.2.1 31)]) (by rw [ai_fr (q.2.2.2.1 32)])
theorem x_tellMan_118 (hF : IFm F) (hA : IAm A) (X : Xw F A) : po (d_tellMan_118 n F A J x2) (fun r => XFm r.2.1 r.2.2.1) := by
  unfold d_tellMan_118
  refine po_call (q_must hF hA).po ?_
  rintro ⟨u, F28, A29, J30⟩ q
  dsimp only at q ⊢
  have X2 := X.q q
  have r19 : 0 ≤ (F28 19).toInt ∧ (F28 19).toInt ≤ 1 := q.1 19
  refine po_cond (fun c => ?_) (fun c => po_some ?_)
  · refine po_bl (fun v32 h32 => ?_)
    unfold d_notes
    refine po_call (R := fun (r : Unit × (Nat → Int32) × (Nat → Nat → Int32) × (Nat → Nat → Int64)) => (∀ q, q ≠ 20 → r.2.1 q = F28 q) ∧ (∀ q, q ≠ 9 → q ≠ 10 → r.2.2.1 q = A29 q)) ?_ ?_
    · refine po_bl (fun _ _ => po_bl (fun _ _ => po_bl (fun A3 h3 => po_bl (fun A4 h4 => po_bl (fun F5 h5 => po_some ⟨(gg_pf h5).2, fun q a b => ((gg_st h4).2.2.1 q b).trans ((gg_st h3).2.2.1 q a)⟩)))))
    rintro ⟨u, F34, A35, J36⟩ ⟨w1, w2⟩
    dsimp only at w1 w2 ⊢
    refine po_bl (fun v37 h37 => po_bl (fun A38 h38 => po_some ?_))
    have g := gg_ld h37
    have U := (gg_st h38).2.2
    have k19 : F34 19 = F28 19 := w1 19 (by decide)
    rw [k19] at g U
    have e37 : v37.toInt = ai A29 29 (F28 19).toInt := by
      rw [g.2.2, w2 29 (by decide) (by decide)]
      rfl
    have r29 : 0 ≤ ai A29 29 (F28 19).toInt ∧ ai A29 29 (F28 19).toInt ≤ 6 := q.2.1 29 _ r19.1
    have e1 := i_p1 (x := v37) (by omega)
    show XFm F34 A38
    unfold XFm
    rw [w1 13 (by decide), w1 15 (by decide), k19, U.2.1, e1, e37]
    refine X2.imp id (fun h => h.imp id (fun h m m0 m1 => (h m m0 m1).fr ?_ ?_))
    · rw [ai_fr (U.1 31 (by decide)), ai_fr (w2 31 (by decide) (by decide))]
    · rw [ai_fr (U.1 32 (by decide)), ai_fr (w2 32 (by decide) (by decide))]
  · show XFm F28 A29
    exact X2.imp id (fun h => h.imp id (fun h m m0 m1 => h m m0 (by omega)))
theorem x_tellMan_114 (hF : IFm F) (hA : IAm A) (rx : 0 ≤ s3.toInt ∧ s3.toInt ≤ 1) (e1 : s1.toInt = 6 * (F 19).toInt + ai A 29 (F 19).toInt) (X : 1 ≤ (F 13).toInt ∨ 1 ≤ (F 15).toInt ∨ ((∀ m, 0 ≤ m → m < ai A 29 (F 19).toInt → LTw (F 19).toInt A m) ∧ 0 ≤ ai A 31 s1.toInt)) : po (d_tellMan_114 n F A J x2 s1 s3 s4) (fun r => XFm r.2.1 r.2.2.1) := by
  unfold d_tellMan_114
  refine po_call (q_bounded hF hA rx).po ?_
  rintro ⟨v39, F40, A41, J42⟩ ⟨q, -⟩
  dsimp only at q ⊢
  refine po_bl (fun A43 h43 => ?_)
  have U := (gg_st h43).2.2
  have hA43 : IAm A43 := q.2.1.sto U.1 rfl U.2.2 trivial
  have k := q.2.2.1 19 (by decide)
  have r19 : 0 ≤ (F 19).toInt ∧ (F 19).toInt ≤ 1 := hF 19
  have r29 : 0 ≤ ai A 29 (F 19).toInt ∧ ai A 29 (F 19).toInt ≤ 6 := hA 29 _ r19.1
  refine x_tellMan_118 (n := n) (x2 := x2) q.1 hA43 ?_
  rcases X with h | h | h
  · exact .inl (q.2.2.2.2.2.1 h)
  · exact .inr (.inl (q.2.2.2.2.2.2 h))
  · refine .inr (.inr (fun m m0 m1 => ?_))
    rw [k] at m1 ⊢
    rw [ai_fr (U.1 29 (by decide)), ai_fr (q.2.2.2.1 29)] at m1
    by_cases e : m = ai A 29 (F 19).toInt
    · refine .inl ?_
      rw [ai_fr (U.1 31 (by decide)), ai_fr (q.2.2.2.1 31), e, ← e1]
      exact h.2
    · exact (h.1 m m0 (by omega)).fr (by rw [ai_fr (U.1 31 (by decide)), ai_fr (q.2.2.2.1 31)]) (by rw [U.2.2 (6 * (F 19).toInt + m) (by omega) (by omega), ai_fr (q.2.2.2.1 32)])
theorem x_tellMan (hF : IFm F) (hA : IAm A) (hn : 50 ≤ n) (N : NCm F A) (X : XFm F A) : po (d_tellMan n F A J) (fun r => XFm r.2.1 r.2.2.1) := by
  have r19 : 0 ≤ (F 19).toInt ∧ (F 19).toInt ≤ 1 := hF 19
  have r29 : 0 ≤ ai A 29 (F 19).toInt ∧ ai A 29 (F 19).toInt ≤ 6 := hA 29 _ r19.1
  unfold d_tellMan
  refine po_bl (fun v1 h1 => ?_)
  have ev : v1.toInt = ai A 29 (F 19).toInt := by
    rw [(gg_ld h1).2.2]
    rfl
  have ex : (6 * F 19 + v1).toInt = 6 * (F 19).toInt + ai A 29 (F 19).toInt := by
    have m := i_mulL (c := 6) (k := 6) (x := F 19) (by decide) (by omega) (by omega)
    rw [i_add (by rw [m]; omega) (by rw [m]; omega), m, ev]
  refine po_call (s_d_named hF hA (by omega)).po ?_
  rintro ⟨v2, F3, A4, J5⟩ ⟨b3, a4, p3, o4, -, w13, w15⟩
  dsimp only at b3 a4 p3 o4 w13 w15 ⊢
  have z3 : 0 ≤ (F3 13).toInt ∧ (F3 13).toInt ≤ 5 := b3 13
  have Q3 : (1 ≤ (F 13).toInt → 1 ≤ (F3 13).toInt) ∧ (1 ≤ (F 15).toInt → 1 ≤ (F3 15).toInt) := ⟨fun h => by omega, fun h => by omega⟩
  have X3 : XFm F3 A4 := X.fr Q3.1 Q3.2 (p3 19 (by decide)) (o4 29 (by decide)) (o4 31 (by decide)) (o4 32 (by decide))
  have N3 : NCm F3 A4 := N.fr0 (p3 19 (by decide)) (p3 20 (by decide)) (fun q _ => o4 q (by simp))
  refine po_call (q_known (x1 := 0) b3 a4 (by omega) N3.1 (by decide)).po ?_
  rintro ⟨v6, F7, A8, J9⟩ ⟨q7, y0, -, y1⟩
  dsimp only at q7 y0 y1 ⊢
  have X7 := X3.q q7
  have k7 : F7 19 = F 19 := (q7.2.2.1 19 (by decide)).trans (p3 19 (by decide))
  have a8 : ∀ q, A8 q = A q := fun q => (q7.2.2.2.1 q).trans (o4 q (by simp))
  refine po_bl (fun A10 h10 => po_bl (fun A11 h11 => po_bl (fun A12 h12 => ?_)))
  have U10 := (gg_st h10).2.2
  have U11 := (gg_st h11).2.2
  have U12 := (gg_st h12).2.2
  rw [ex] at U10 U11 U12
  have l0 : (0 : Int32).toInt = 0 := by decide
  have l2 : (2 : Int32).toInt = 2 := by decide
  have lm : (-1 : Int32).toInt = -1 := by decide
  have r11 : 0 ≤ ai A4 11 (F3 19).toInt ∧ ai A4 11 (F3 19).toInt ≤ 8 := a4 11 _ (by rw [p3 19 (by decide)]; omega)
  have hA10 : IAm A10 := q7.2.1.sto U10.1 U10.2.1 U10.2.2 (show -1 ≤ v6.toInt ∧ v6.toInt ≤ 7 by omega)
  have hA11 : IAm A11 := hA10.sto U11.1 U11.2.1 U11.2.2 (show -1 ≤ (-1 : Int32).toInt ∧ (-1 : Int32).toInt ≤ 5 by decide)
  have hA12 : IAm A12 := hA11.sto U12.1 U12.2.1 U12.2.2 trivial
  have c29 : ai A12 29 (F 19).toInt = ai A 29 (F 19).toInt := by rw [ai_fr (U12.1 29 (by decide)), ai_fr (U11.1 29 (by decide)), ai_fr (U10.1 29 (by decide)), ai_fr (a8 29)]
  have d31 : ai A12 31 (6 * (F 19).toInt + ai A 29 (F 19).toInt) = -1 := by rw [ai_fr (U12.1 31 (by decide)), U11.2.1]; exact lm
  have d32 : ai A12 32 (6 * (F 19).toInt + ai A 29 (F 19).toInt) = -1 := by rw [U12.2.1]; exact lm
  have o31 : ∀ m, 0 ≤ m → m < ai A 29 (F 19).toInt → ai A12 31 (6 * (F 19).toInt + m) = ai A8 31 (6 * (F 19).toInt + m) := fun m m0 m1 => by rw [ai_fr (U12.1 31 (by decide)), U11.2.2 _ (by omega) (by omega), ai_fr (U10.1 31 (by decide))]
  have o32 : ∀ m, 0 ≤ m → m < ai A 29 (F 19).toInt → ai A12 32 (6 * (F 19).toInt + m) = ai A8 32 (6 * (F 19).toInt + m) := fun m m0 m1 => by rw [U12.2.2 _ (by omega) (by omega), ai_fr (U11.1 32 (by decide)), ai_fr (U10.1 32 (by decide))]
  have k8 : ai A8 29 (F 19).toInt = ai A 29 (F 19).toInt := by rw [ai_fr (a8 29)]
  have old : 1 ≤ (F7 13).toInt ∨ 1 ≤ (F7 15).toInt ∨ ∀ m, 0 ≤ m → m < ai A 29 (F 19).toInt → LTw (F 19).toInt A12 m := by
    have X7' := X7
    unfold XFm at X7'
    rw [k7, k8] at X7'
    exact X7'.imp id (fun h => h.imp id (fun h m m0 m1 => (h m m0 m1).fr (o31 m m0 m1) (o32 m m0 m1)))
  have W12 : Xw F7 A12 := by
    unfold Xw
    rw [k7, c29]
    refine old.imp id (fun h => h.imp id (fun h m m0 m1 => ?_))
    by_cases e : m = ai A 29 (F 19).toInt
    · rw [e]
      exact .inr ⟨d31, d32⟩
    · exact h m m0 (by omega)
  have z7 : 0 ≤ (F7 13).toInt ∧ (F7 13).toInt ≤ 5 := q7.1 13
  refine po_cond (fun c => x_tellMan_118 q7.1 hA12 W12) (fun c => ?_)
  refine po_bl (fun v14 _ => ?_)
  refine po_cond (fun c => x_tellMan_118 q7.1 hA12 W12) (fun c => ?_)
  refine po_call (q_goesOn q7.1 hA12).po ?_
  rintro ⟨u, F17, A18, J19⟩ q17
  dsimp only at q17 ⊢
  have N12 : NCm F7 A12 := N3.fr0 (q7.2.2.1 19 (by decide)) (q7.2.2.1 20 (by decide)) (fun q hq => (U12.1 q (by omega)).trans ((U11.1 q (by omega)).trans ((U10.1 q (by omega)).trans (q7.2.2.2.1 q))))
  have N17 : NCm F17 A18 := N12.fr0 (q17.2.2.1 19 (by decide)) (q17.2.2.1 20 (by decide)) (fun q _ => q17.2.2.2.1 q)
  refine po_call (q_known (x1 := 2) q17.1 q17.2.1 (by omega) N17.1 (by decide)).po ?_
  rintro ⟨v20, F21, A22, J23⟩ ⟨q21, t0, t1, t2⟩
  dsimp only at q21 t0 t1 t2 ⊢
  refine po_bl (fun A24 h24 => ?_)
  have U24 := (gg_st h24).2.2
  rw [ex] at U24
  have k17 : F17 19 = F 19 := (q17.2.2.1 19 (by decide)).trans k7
  have k21 : F21 19 = F 19 := (q21.2.2.1 19 (by decide)).trans k17
  have r19' : 0 ≤ ai A18 19 (F17 19).toInt ∧ ai A18 19 (F17 19).toInt ≤ 6 := q17.2.1 19 _ (by rw [k17]; omega)
  have hA24 : IAm A24 := q21.2.1.sto U24.1 U24.2.1 U24.2.2 (show -1 ≤ v20.toInt ∧ v20.toInt ≤ 5 by omega)
  have a22 : ∀ q, A22 q = A12 q := fun q => (q21.2.2.2.1 q).trans (q17.2.2.2.1 q)
  have c24 : ai A24 29 (F 19).toInt = ai A 29 (F 19).toInt := by rw [ai_fr (U24.1 29 (by decide)), ai_fr (a22 29), c29]
  have e114 : (6 * F 19 + v1).toInt = 6 * (F21 19).toInt + ai A24 29 (F21 19).toInt := by rw [k21, c24]; exact ex
  have W24 : 1 ≤ (F21 13).toInt ∨ 1 ≤ (F21 15).toInt ∨ ((∀ m, 0 ≤ m → m < ai A24 29 (F21 19).toInt → LTw (F21 19).toInt A24 m) ∧ 0 ≤ ai A24 31 (6 * F 19 + v1).toInt) := by
    rw [k21, c24, ex, U24.2.1]
    rcases t1 with h | h | h
    · rcases old with g | g | g
      · exact .inl (q21.2.2.2.2.2.1 (q17.2.2.2.2.2.1 g))
      · exact .inr (.inl (q21.2.2.2.2.2.2 (q17.2.2.2.2.2.2 g)))
      · exact .inr (.inr ⟨fun m m0 m1 => (g m m0 m1).fr (by rw [U24.2.2 _ (by omega) (by omega), ai_fr (a22 31)]) (by rw [ai_fr (U24.1 32 (by decide)), ai_fr (a22 32)]), h⟩)
    · exact .inl h
    · exact .inr (.inl h)
  refine po_cond (fun c => po_bl (fun v26 _ => ?_)) (fun c => ?_)
  · exact x_tellMan_114 q21.1 hA24 (by decide) e114 W24
  · exact x_tellMan_114 q21.1 hA24 (by decide) e114 W24
/-- a sentence that wants room -/
theorem x_room {x1 x2 : Int32} {D : (Nat → Int32) → (Nat → Nat → Int32) → (Nat → Nat → Int64) → Option (Unit × (Nat → Int32) × (Nat → Nat → Int32) × (Nat → Nat → Int64))} (h : RDm l s F0 F A0 A) (h13 : (F 13).toInt = 0) (X : XFm F A) (hD : ∀ F2 J2, RDm l s F0 F2 A0 A → (F2 13).toInt = 0 → x1.toInt ≠ x2.toInt → F2 19 = F 19 → XFm F2 A → po (D F2 A J2) (fun r => XFm r.2.1 r.2.2.1)) : po ((d_roomFor F A J x1 x2).bind fun (_, F5, A6, J7) => cond (g_cnd .ne (F5 13) 0) (some ((), F5, A6, J7)) ((D F5 A6 J7).bind fun (_, F10, A11, J12) => some ((), F10, A11, J12))) (fun r => XFm r.2.1 r.2.2.1) := by
  have l0 : (0 : Int32).toInt = 0 := by decide
  refine po_call (q_roomFor h.1 h.2.1 h13).po ?_
  rintro ⟨u, F2, A2, J2⟩ ⟨q, w⟩
  dsimp only at q w ⊢
  have h2 := h.qc q
  have X2 := X.q q
  have e := q.eq
  subst e
  refine po_cond (fun c => po_some X2) (fun c => ?_)
  rw [i_nne] at c
  refine po_call (hD F2 J2 h2 (by omega) (by omega) (q.2.2.1 19 (by decide)) X2) ?_
  rintro ⟨u3, F3, A3, J3⟩ g
  exact po_some g
theorem x_fail {J : Nat → Nat → Int64} (h : RDm l s F0 F A0 A) (X : XFm F A) : po ((d_fail F A J 1).bind fun (_, F24, A25, J26) => some ((), F24, A25, J26)) (fun r => XFm r.2.1 r.2.2.1) := by
  refine po_call (q_fail h.1 h.2.1 (by decide)).po ?_
  rintro ⟨u, F2, A2, J2⟩ ⟨q, -⟩
  exact po_some (X.q q)
theorem x_tell0 (hs : 0 ≤ s ∧ s ≤ 1 ∧ s = 1 - l) (h : RDm l s F0 F A0 A) (h13 : (F 13).toInt = 0) (hn : 640 ≤ n) (X : XFm F A) : po (d_tell0 n F A J) (fun r => XFm r.2.1 r.2.2.1) := by
  have hF := h.1
  have hA := h.2.1
  have r11 : 0 ≤ (F 11).toInt ∧ (F 11).toInt ≤ 400 := hF 11
  have e19 := h.2.2.2.1
  have fl : ∀ {J}, po ((d_fail F A J 1).bind fun (_, F24, A25, J26) => some ((), F24, A25, J26)) (fun r => XFm r.2.1 r.2.2.1) := fun {J} => x_fail h X
  have hl : ∀ {F2}, RDm l s F0 F2 A0 A → 0 ≤ l ∧ (F2 18).toInt = l ∧ (F2 19).toInt = 1 - l := fun g => ⟨by omega, g.2.2.1, by rw [g.2.2.2.1]; omega⟩
  unfold d_tell0
  refine po_bl (fun v _ => ?_)
  refine po_cond (fun _ => ?_) (fun _ => ?_)
  · refine po_bl (fun x xe => ?_)
    have ve := gg_ld xe
    have xr : ai A 11 (F 19).toInt = x.toInt := by rw [ve.2.2]; rfl
    refine x_room (D := fun F A J => d_tellRoom n F A J) h h13 X (fun F2 J2 g z ne k19 X2 => ?_)
    have l8 : (8 : Int32).toInt = 8 := by decide
    have r : 0 ≤ ai A 11 (F 19).toInt ∧ ai A 11 (F 19).toInt ≤ 8 := hA 11 _ (by omega)
    refine po_mono (s_d_tellRoom (l := l) g.1 g.2.1 (by omega) (hl g) g.2.2.2.2.1 (by rw [k19]; omega) z).po ?_
    rintro ⟨u, F3, A3, J3⟩ ⟨m1, m2, m3, m4, m5, m6, m7, m8, m9⟩
    dsimp only at m1 m2 m3 m4 m5 m6 m7 m8 m9 ⊢
    have z15 : 0 ≤ (F3 15).toInt ∧ (F3 15).toInt ≤ 5 := m1 15
    exact X2.fr (fun h => by omega) (fun h => by omega) (m3 19 (by decide)) (m4 29 (by decide)) (m4 31 (by decide)) (m4 32 (by decide))
  refine po_cond (fun _ => ?_) (fun _ => ?_)
  · refine po_bl (fun x xe => ?_)
    have ve := gg_ld xe
    have xr : ai A 12 (F 19).toInt = x.toInt := by rw [ve.2.2]; rfl
    refine x_room (D := fun F A J => d_tellDoor n F A J) h h13 X (fun F2 J2 g z ne k19 X2 => ?_)
    have l8 : (12 : Int32).toInt = 12 := by decide
    have r : 0 ≤ ai A 12 (F 19).toInt ∧ ai A 12 (F 19).toInt ≤ 12 := hA 12 _ (by omega)
    refine po_mono (s_d_tellDoor (l := l) g.1 g.2.1 (by omega) (hl g) g.2.2.2.2.1 (by rw [k19]; omega) z).po ?_
    rintro ⟨u, F3, A3, J3⟩ ⟨m1, m2, m3, m4, m5, m6, m7, m8, m9⟩
    dsimp only at m1 m2 m3 m4 m5 m6 m7 m8 m9 ⊢
    have z15 : 0 ≤ (F3 15).toInt ∧ (F3 15).toInt ≤ 5 := m1 15
    exact X2.fr (fun h => by omega) (fun h => by omega) (m3 19 (by decide)) (m4 29 (by decide)) (m4 31 (by decide)) (m4 32 (by decide))
  refine po_cond (fun _ => fl) (fun _ => ?_)
  refine po_cond (fun _ => ?_) (fun _ => ?_)
  · refine po_bl (fun x xe => ?_)
    have ve := gg_ld xe
    have xr : ai A 17 (F 19).toInt = x.toInt := by rw [ve.2.2]; rfl
    refine x_room (D := fun F A J => d_tellTool n F A J) h h13 X (fun F2 J2 g z ne k19 X2 => ?_)
    have l8 : (6 : Int32).toInt = 6 := by decide
    have r : 0 ≤ ai A 17 (F 19).toInt ∧ ai A 17 (F 19).toInt ≤ 6 := hA 17 _ (by omega)
    refine po_mono (s_d_tellTool (l := l) g.1 g.2.1 (by omega) (hl g) g.2.2.2.2.1 (by rw [k19]; omega) z).po ?_
    rintro ⟨u, F3, A3, J3⟩ ⟨m1, m2, m3, m4, m5, m6, m7, m8, m9⟩
    dsimp only at m1 m2 m3 m4 m5 m6 m7 m8 m9 ⊢
    have z15 : 0 ≤ (F3 15).toInt ∧ (F3 15).toInt ≤ 5 := m1 15
    exact X2.fr (fun h => by omega) (fun h => by omega) (m3 19 (by decide)) (m4 29 (by decide)) (m4 31 (by decide)) (m4 32 (by decide))
  refine po_cond (fun _ => ?_) (fun _ => ?_)
  · refine po_bl (fun x xe => ?_)
    have ve := gg_ld xe
    have xr : ai A 19 (F 19).toInt = x.toInt := by rw [ve.2.2]; rfl
    refine x_room (D := fun F A J => d_tellTask n F A J) h h13 X (fun F2 J2 g z ne k19 X2 => ?_)
    have l8 : (6 : Int32).toInt = 6 := by decide
    have r : 0 ≤ ai A 19 (F 19).toInt ∧ ai A 19 (F 19).toInt ≤ 6 := hA 19 _ (by omega)
    refine po_mono (s_d_tellTask (l := l) g.1 g.2.1 (by omega) (hl g) g.2.2.2.2.1 (by rw [k19]; omega) z).po ?_
    rintro ⟨u, F3, A3, J3⟩ ⟨m1, m2, m3, m4, m5, m6, m7, m8, m9⟩
    dsimp only at m1 m2 m3 m4 m5 m6 m7 m8 m9 ⊢
    have z15 : 0 ≤ (F3 15).toInt ∧ (F3 15).toInt ≤ 5 := m1 15
    exact X2.fr (fun h => by omega) (fun h => by omega) (m3 19 (by decide)) (m4 29 (by decide)) (m4 31 (by decide)) (m4 32 (by decide))
  refine po_cond (fun _ => ?_) (fun _ => ?_)
  · refine po_call (q_goesOn1 hF hA).po ?_
    rintro ⟨u, F2, A2, J2⟩ ⟨q, w1, w2⟩
    dsimp only at q w1 w2 ⊢
    have g := h.qc q
    have X2 := X.q q
    have e := q.eq
    subst e
    have l1 : (1 : Int32).toInt = 1 := by decide
    have r2 : 0 ≤ (F2 11).toInt ∧ (F2 11).toInt ≤ 400 := q.1 11
    have e1 := i_sub (x := F2 11) (y := 1) (by omega) (by omega)
    refine po_call (s_d_tellStep (l := l) q.1 q.2.1 (by omega) g.2.2.2.2.1 (hl g) (by omega)).po ?_
    rintro ⟨u, F3, A3, J3⟩ ⟨m1, m2, m3, m4, m5, m6, m7, m8, m9⟩
    dsimp only at m1 m2 m3 m4 m5 m6 m7 m8 m9 ⊢
    exact po_some (X2.fr m7 m8 (m3 19 (by decide)) (m4 29 (by decide)) (m4 31 (by decide)) (m4 32 (by decide)))
  refine po_cond (fun _ => fl) (fun _ => ?_)
  refine po_cond (fun _ => fl) (fun _ => ?_)
  refine po_cond (fun _ => ?_) (fun _ => ?_)
  · refine po_bl (fun x xe => ?_)
    refine x_room (D := fun F A J => d_tellMan n F A J) h h13 X (fun F2 J2 g z ne k19 X2 => ?_)
    exact x_tellMan g.1 g.2.1 (by omega) g.2.2.2.2.1 X2
  refine po_cond (fun _ => fl) (fun _ => ?_)
  refine po_cond (fun _ => ?_) (fun _ => ?_)
  · refine po_bl (fun x xe => ?_)
    have ve := gg_ld xe
    have xr : ai A 33 (F 19).toInt = x.toInt := by rw [ve.2.2]; rfl
    refine x_room (D := fun F A J => d_tellLaw n F A J) h h13 X (fun F2 J2 g z ne k19 X2 => ?_)
    have l8 : (8 : Int32).toInt = 8 := by decide
    obtain ⟨a1, a2, a3, a4, a5, a6, a7, a8, a9, a10, a11, a12⟩ := g
    obtain ⟨b1, b2, b3⟩ := a9.resolve_left (by omega)
    have b0 := a8.resolve_left (by omega)
    have r33 : 0 ≤ ai A 33 s ∧ ai A 33 s ≤ 8 := hA 33 _ (by omega)
    have h33 : ai A 33 s < 8 := by rw [← e19]; rw [← e19] at r33; omega
    refine po_mono (s_d_tellLaw hs a1 a2 (by omega) a5 a4 a7 ⟨b0, by omega⟩ h33 (.inr b2)).po ?_
    rintro ⟨u, F3, A3, J3⟩ ⟨m1, m2, m3, m4, m5, m6, m7, m8, m9, m10⟩
    dsimp only at m1 m2 m3 m4 m5 m6 m7 m8 m9 m10 ⊢
    exact X2.fr m7 m8 (m3 19 (by decide)) (m4 29 (by decide)) (m4 31 (by decide)) (m4 32 (by decide))
  refine po_cond (fun _ => fl) (fun _ => ?_)
  refine po_cond (fun _ => fl) (fun _ => ?_)
  refine po_cond (fun _ => fl) (fun _ => ?_)
  refine po_cond (fun _ => ?_) (fun _ => fl)
  · refine po_call (q_goesOn1 hF hA).po ?_
    rintro ⟨u, F2, A2, J2⟩ ⟨q, w1, w2⟩
    dsimp only at q w1 w2 ⊢
    have X2 := X.q q
    refine po_call (q_bounded q.1 q.2.1 (by decide)).po ?_
    rintro ⟨v3, F3, A3, J3⟩ ⟨q3, y0, y1, y2⟩
    dsimp only at q3 y0 y1 y2 ⊢
    have X3 := X2.q q3
    refine po_bl (fun A4 h4 => ?_)
    have U := (gg_st h4).2.2
    have hA4 : IAm A4 := q3.2.1.sto U.1 rfl U.2.2 (show 0 ≤ ai A4 41 _ ∧ ai A4 41 _ ≤ 9999 by rw [U.2.1]; exact ⟨y0, y1⟩)
    have X4 : XFm F3 A4 := X3.fr id id rfl (U.1 29 (by decide)) (U.1 31 (by decide)) (U.1 32 (by decide))
    refine po_call (q_must q3.1 hA4).po ?_
    rintro ⟨u, F5, A5, J5⟩ q5
    exact po_some (X4.q q5)
/-- a first evening writes into row 47 alone -/
def KB (Fr : Nat → Int32) (Ar : Nat → Nat → Int32) (F : Nat → Int32) (A : Nat → Nat → Int32) : Prop := F = Fr ∧ ∀ q, q ≠ 47 → A q = Ar q
theorem KB.rfl' : KB F A F A := ⟨rfl, fun _ _ => rfl⟩
theorem kb_st {γ : Type} {Fr : Nat → Int32} {Ar : Nat → Nat → Int32} {j n : Nat} {i x : Int32} {g : (Nat → Nat → Int32) → Option γ} {Q : γ → Prop} (h : KB Fr Ar F A) (hj : j = 47) (kk : ∀ A', KB Fr Ar F A' → po (g A') Q) : po ((m_st A j n i x).bind g) Q :=
  po_bl (fun A' e => kk A' ⟨h.1, fun q hq => ((gg_st e).2.2.1 q (by omega)).trans (h.2 q hq)⟩)
end H9f7
section G9f7
variable {Fr : Nat → Int32} {Ar : Nat → Nat → Int32}
theorem kb_d_begins_219 {K176 : (Nat → Int32) → (Nat → Nat → Int32) → (Nat → Nat → Int64) → Int32 → Option (Unit × (Nat → Int32) × (Nat → Nat → Int32) × (Nat → Nat → Int64))} {n : Nat} {F : Nat → Int32} {A : Nat → Nat → Int32} {J : Nat → Nat → Int64} {x1 : Int32} (hK176 : ∀ (a0 : Nat → Int32) (a1 : Nat → Nat → Int32) (a2 : Nat → Nat → Int64) (a3 : Int32), KB Fr Ar a0 a1 → po (K176 a0 a1 a2 a3) (fun r => KB Fr Ar r.2.1 r.2.2.1)) (h : KB Fr Ar F A) : po (d_begins_219 K176 n F A J x1) (fun r => KB Fr Ar r.2.1 r.2.2.1) := by
  unfold d_begins_219
  repeat' (first
    | with_reducible exact po_some (by assumption)
    | (with_reducible refine kb_st (by assumption) (by decide) ?_; intro _ _)
    | with_reducible exact hK176 _ _ _ _ (by assumption)
    | (intros; with_reducible exact hK176 _ _ _ _ (by assumption))
    | with_reducible refine po_cond (fun _ => ?_) (fun _ => ?_)
    | with_reducible refine po_bind_cond (fun _ => ?_) (fun _ => ?_)
    | with_reducible refine po_bl (fun _ _ => ?_))
theorem kb_d_begins_176   : ∀ {n : Nat} {F : Nat → Int32} {A : Nat → Nat → Int32} {J : Nat → Nat → Int64} {x1 : Int32}, KB Fr Ar F A → po (d_begins_176  n F A J x1) (fun r => KB Fr Ar r.2.1 r.2.2.1) := by
  intro n
  induction n with
  | zero => intro F A J x1 _ r hr; cases hr
  | succ n ih =>
    intro F A J x1 h
    unfold d_begins_176
    repeat' (first
      | with_reducible exact po_some (by assumption)
      | (with_reducible refine kb_st (by assumption) (by decide) ?_; intro _ _)
      | with_reducible refine kb_d_begins_219 ?_ (by assumption)
      | (with_reducible refine po_call (kb_d_begins_219 ?_ (by assumption)) ?_)
      | with_reducible exact ih (by assumption)
      | (with_reducible refine po_call (ih (by assumption)) ?_; rintro ⟨_, _, _, _⟩ _; try dsimp only)
      | (intros; with_reducible exact ih (by assumption))
      | with_reducible refine po_cond (fun _ => ?_) (fun _ => ?_)
      | with_reducible refine po_bind_cond (fun _ => ?_) (fun _ => ?_)
      | with_reducible refine po_bl (fun _ _ => ?_))
theorem kb_d_begins_132   : ∀ {n : Nat} {F : Nat → Int32} {A : Nat → Nat → Int32} {J : Nat → Nat → Int64} {x1 : Int32}, KB Fr Ar F A → po (d_begins_132  n F A J x1) (fun r => KB Fr Ar r.2.1 r.2.2.1) := by
  intro n
  induction n with
  | zero => intro F A J x1 _ r hr; cases hr
  | succ n ih =>
    intro F A J x1 h
    unfold d_begins_132
    repeat' (first
      | with_reducible exact po_some (by assumption)
      | (with_reducible refine kb_st (by assumption) (by decide) ?_; intro _ _)
      | with_reducible exact kb_d_begins_176 (by assumption)
      | (with_reducible refine po_call (kb_d_begins_176 (by assumption)) ?_; rintro ⟨_, _, _, _⟩ _; try dsimp only)
      | with_reducible exact ih (by assumption)
      | (with_reducible refine po_call (ih (by assumption)) ?_; rintro ⟨_, _, _, _⟩ _; try dsimp only)
      | (intros; with_reducible exact ih (by assumption))
      | with_reducible refine po_cond (fun _ => ?_) (fun _ => ?_)
      | with_reducible refine po_bind_cond (fun _ => ?_) (fun _ => ?_)
      | with_reducible refine po_bl (fun _ _ => ?_))
theorem kb_d_begins_59   : ∀ {n : Nat} {F : Nat → Int32} {A : Nat → Nat → Int32} {J : Nat → Nat → Int64} {x1 : Int32}, KB Fr Ar F A → po (d_begins_59  n F A J x1) (fun r => KB Fr Ar r.2.1 r.2.2.1) := by
  intro n
  induction n with
  | zero => intro F A J x1 _ r hr; cases hr
  | succ n ih =>
    intro F A J x1 h
    unfold d_begins_59
    repeat' (first
      | with_reducible exact po_some (by assumption)
      | (with_reducible refine kb_st (by assumption) (by decide) ?_; intro _ _)
      | with_reducible exact kb_d_begins_132 (by assumption)
      | (with_reducible refine po_call (kb_d_begins_132 (by assumption)) ?_; rintro ⟨_, _, _, _⟩ _; try dsimp only)
      | with_reducible exact ih (by assumption)
      | (with_reducible refine po_call (ih (by assumption)) ?_; rintro ⟨_, _, _, _⟩ _; try dsimp only)
      | (intros; with_reducible exact ih (by assumption))
      | with_reducible refine po_cond (fun _ => ?_) (fun _ => ?_)
      | with_reducible refine po_bind_cond (fun _ => ?_) (fun _ => ?_)
      | with_reducible refine po_bl (fun _ _ => ?_))
theorem kb_d_begins_23   : ∀ {n : Nat} {F : Nat → Int32} {A : Nat → Nat → Int32} {J : Nat → Nat → Int64} {x1 : Int32}, KB Fr Ar F A → po (d_begins_23  n F A J x1) (fun r => KB Fr Ar r.2.1 r.2.2.1) := by
  intro n
  induction n with
  | zero => intro F A J x1 _ r hr; cases hr
  | succ n ih =>
    intro F A J x1 h
    unfold d_begins_23
    repeat' (first
      | with_reducible exact po_some (by assumption)
      | (with_reducible refine kb_st (by assumption) (by decide) ?_; intro _ _)
      | with_reducible exact kb_d_begins_59 (by assumption)
      | (with_reducible refine po_call (kb_d_begins_59 (by assumption)) ?_; rintro ⟨_, _, _, _⟩ _; try dsimp only)
      | with_reducible exact ih (by assumption)
      | (with_reducible refine po_call (ih (by assumption)) ?_; rintro ⟨_, _, _, _⟩ _; try dsimp only)
      | (intros; with_reducible exact ih (by assumption))
      | with_reducible refine po_cond (fun _ => ?_) (fun _ => ?_)
      | with_reducible refine po_bind_cond (fun _ => ?_) (fun _ => ?_)
      | with_reducible refine po_bl (fun _ _ => ?_))
theorem kb_d_begins_2   : ∀ {n : Nat} {F : Nat → Int32} {A : Nat → Nat → Int32} {J : Nat → Nat → Int64} {x1 : Int32}, KB Fr Ar F A → po (d_begins_2  n F A J x1) (fun r => KB Fr Ar r.2.1 r.2.2.1) := by
  intro n
  induction n with
  | zero => intro F A J x1 _ r hr; cases hr
  | succ n ih =>
    intro F A J x1 h
    unfold d_begins_2
    repeat' (first
      | with_reducible exact po_some (by assumption)
      | (with_reducible refine kb_st (by assumption) (by decide) ?_; intro _ _)
      | with_reducible exact kb_d_begins_23 (by assumption)
      | (with_reducible refine po_call (kb_d_begins_23 (by assumption)) ?_; rintro ⟨_, _, _, _⟩ _; try dsimp only)
      | with_reducible exact ih (by assumption)
      | (with_reducible refine po_call (ih (by assumption)) ?_; rintro ⟨_, _, _, _⟩ _; try dsimp only)
      | (intros; with_reducible exact ih (by assumption))
      | with_reducible refine po_cond (fun _ => ?_) (fun _ => ?_)
      | with_reducible refine po_bind_cond (fun _ => ?_) (fun _ => ?_)
      | with_reducible refine po_bl (fun _ _ => ?_))
theorem kb_d_begins {n : Nat} {F : Nat → Int32} {A : Nat → Nat → Int32} {J : Nat → Nat → Int64}  (h : KB Fr Ar F A) : po (d_begins n F A J) (fun r => KB Fr Ar r.2.1 r.2.2.1) := by
  unfold d_begins
  repeat' (first
    | with_reducible exact po_some (by assumption)
    | (with_reducible refine kb_st (by assumption) (by decide) ?_; intro _ _)
    | with_reducible exact kb_d_begins_2 (by assumption)
    | (with_reducible refine po_call (kb_d_begins_2 (by assumption)) ?_; rintro ⟨_, _, _, _⟩ _; try dsimp only)
    | with_reducible refine po_cond (fun _ => ?_) (fun _ => ?_)
    | with_reducible refine po_bind_cond (fun _ => ?_) (fun _ => ?_)
    | with_reducible refine po_bl (fun _ _ => ?_))
end G9f7
section K9f7
variable {F F0 : Nat → Int32} {A0 : Nat → Nat → Int32} {l s : Int}
/-- what men left, in the evening of now -/
def XL7 (F : Nat → Int32) (A : Nat → Nat → Int32) : Prop := (∀ m, 0 ≤ m → m < ai A 29 (F 18).toInt → 0 ≤ ai A 47 (42 + m) ∨ (ai A 47 (42 + m) = -1 ∧ ai A 47 (48 + m) = -1)) ∧ (∀ k : Int, 0 ≤ k → k < 36 → ai A 47 (6 + k) = 0) ∧ ∀ k : Int, 0 ≤ k → k < 6 → ai A 19 (F 18).toInt ≤ k → ai A 47 k = 0
def RPx (r : Int32 × (Nat → Int32) × (Nat → Nat → Int32) × (Nat → Nat → Int64)) : Prop := RPm r ∧ (r.1.toInt ≠ 0 ∨ XL7 r.2.1 r.2.2.1)
theorem x_read_322 : ∀ {n : Nat} {F : Nat → Int32} {A : Nat → Nat → Int32} {J : Nat → Nat → Int64} {x1 : Int32}, po (d_read_322 n F A J x1) (fun r => r.2.1 = F ∧ ∀ q, q ≠ 61 → r.2.2.1 q = A q) := by
  intro n
  induction n with
  | zero => intro F A J x1 r hr; cases hr
  | succ n ih =>
    intro F A J x1
    unfold d_read_322
    refine po_cond (fun _ => po_some ⟨rfl, fun _ _ => rfl⟩) (fun _ => po_bl (fun A48 h => ?_))
    have U := (gg_st h).2.2
    exact po_mono ih (fun r h => ⟨h.1, fun q hq => (h.2 q hq).trans (U.1 q hq)⟩)
theorem x_read_271 {n : Nat} {A : Nat → Nat → Int32} {J : Nat → Nat → Int64} {s1 : Int32} (hF : IFm F) (hA : IAm A) (X : XFm F A) : po (d_read_271 n F A J s1) (fun r => r.1.toInt ≠ 0 ∨ XL7 r.2.1 r.2.2.1) := by
  unfold d_read_271
  refine po_bl (fun F37 h37 => ?_)
  have u := gg_pf h37
  have u13 : F37 13 = F 13 := u.2 13 (by decide)
  have u15 : F37 15 = F 15 := u.2 15 (by decide)
  refine po_cond (fun c13 => po_cond (fun c15 => ?_) (fun c => po_some (.inl ?_))) (fun c => po_some (.inl ?_))
  · rw [i_le, i_0, u13] at c13
    rw [i_le, i_0, u15] at c15
    have X3 := (X.resolve_left (by omega)).resolve_left (by omega)
    refine po_bl (fun F40 h40 => ?_)
    have u40 := gg_pf h40
    have k19 : F40 18 = F 19 := u40.1.trans (u.2 19 (by decide))
    have hF40 : IFm F40 := by
      intro k
      by_cases e : k = 18
      · subst e
        rw [k19]
        exact hF 19
      · rw [u40.2 k e]
        by_cases e2 : k = 17
        · subst e2
          exact trivial
        · rw [u.2 k e2]
          exact hF k
    refine po_call (po_and (v_begins hF40 hA) (kb_d_begins KB.rfl')) ?_
    rintro ⟨u2, F42, A43, J44⟩ ⟨b1, b2, b3⟩
    dsimp only at b1 b2 b3 ⊢
    subst b2
    refine po_bl (fun F45 h45 => po_bl (fun F46 h46 => ?_))
    have k46 : F46 18 = F 19 := ((gg_pf h46).2 18 (by decide)).trans (((gg_pf h45).2 18 (by decide)).trans k19)
    rw [k19] at b1
    refine po_mono x_read_322 (fun r h => .inr ⟨fun m m0 m1 => ?_, fun k k0 k1 => ?_, fun k k0 k1 k2 => ?_⟩)
    · rw [h.1, k46] at m1
      rw [ai_fr (h.2 29 (by decide)), ai_fr (b3 29 (by decide))] at m1
      rw [ai_fr (h.2 47 (by decide))]
      have e := b1.2.2.2.1 m m0 m1
      rw [e.1, e.2.1]
      exact X3 m m0 m1
    · rw [ai_fr (h.2 47 (by decide))]
      exact b1.1 k k0 k1
    · rw [h.1, k46] at k2
      rw [ai_fr (h.2 19 (by decide)), ai_fr (b3 19 (by decide))] at k2
      rw [ai_fr (h.2 47 (by decide))]
      exact (b1.2.1 k k0 k1).2 k2
  · rw [i_nle, i_0] at c
    show (F37 15).toInt ≠ 0
    omega
  · rw [i_nle, i_0] at c
    show (F37 13).toInt ≠ 0
    omega
theorem x_read_219p (hs : 0 ≤ s ∧ s ≤ 1 ∧ s = 1 - l) : ∀ {n : Nat} {F' : Nat → Int32} {A' : Nat → Nat → Int32} {J : Nat → Nat → Int64}, RDm l s F F' A0 A' → XFm F' A' → ((1 ≤ (F' 13).toInt ∧ 500 ≤ n) ∨ 1500 - (F' 11).toInt < (n : Int)) → po (d_read_219 n F' A' J) (fun r => r.1.toInt ≠ 0 ∨ XL7 r.2.1 r.2.2.1) := by
  intro n
  induction n with
  | zero => intro F' A' J R X hn r hr; cases hr
  | succ n ih =>
    intro F' A' J R X hn
    have r11 : 0 ≤ (F' 11).toInt ∧ (F' 11).toInt ≤ 400 := R.1 11
    have r13 : 0 ≤ (F' 13).toInt ∧ (F' 13).toInt ≤ 5 := R.1 13
    have go : po (d_read_241 n F' A' J) (fun r => r.1.toInt ≠ 0 ∨ XL7 r.2.1 r.2.2.1) := by
      unfold d_read_241
      exact po_cond (fun _ => po_cond (fun _ => x_read_271 R.1 R.2.1 X) (fun _ => x_read_271 R.1 R.2.1 X)) (fun _ => x_read_271 R.1 R.2.1 X)
    unfold d_read_219
    refine po_cond (fun _ => go) (fun c1 => ?_)
    rw [i_nne, i_0] at c1
    refine po_bl (fun v _ => ?_)
    refine po_cond (fun _ => go) (fun c2 => ?_)
    refine po_call (po_and (s_d_tell0 hs R c1 (by omega)).po (x_tell0 hs R c1 (by omega) X)) ?_
    rintro ⟨u, F2, A2, J2⟩ ⟨⟨T1, T2⟩, T3⟩
    dsimp only at T1 T2 T3 ⊢
    exact ih T1 T3 (by omega)
theorem x_read_219 (hs : 0 ≤ s ∧ s ≤ 1 ∧ s = 1 - l) (S : SAm F0 A0) (e0 : (F0 18).toInt = l) (h2 : (F 2).toInt = 0) (f18 : F 18 = F0 18) (f74 : F 74 = F0 74) {n : Nat} {F' : Nat → Int32} {A' : Nat → Nat → Int32} {J : Nat → Nat → Int64} (R : RDm l s F F' A0 A') (hn : (1 ≤ (F' 13).toInt ∧ 500 ≤ n) ∨ 1500 - (F' 11).toInt < (n : Int)) (X : XFm F' A') : ok (d_read_219 n F' A' J) RPx := ok_and (s_d_read_219 hs S e0 h2 f18 f74 R hn) (x_read_219p hs R X hn)
theorem x_read_177 (hs : 0 ≤ s ∧ s ≤ 1 ∧ s = 1 - l) (S : SAm F0 A0) (e0 : (F0 18).toInt = l) (hF : IFm F) (h2 : (F 2).toInt = 0) (f18 : F 18 = F0 18) (f74 : F 74 = F0 74) (e19 : (F 19).toInt = s) (z11 : (F 11).toInt = 0) (z12 : (F 12).toInt = 0) (z13 : (F 13).toInt = 0) (z15 : (F 15).toInt = 0) (z20 : (F 20).toInt = 0) (z49 : (F 49).toInt = 50 * s) (z56 : (F 56).toInt = 420 * s) : ∀ {n : Nat} {A : Nat → Nat → Int32} {J : Nat → Nat → Int64} {x1 : Int32}, IAm A → LSm l A0 A → (∀ q, q = 11 ∨ q = 12 ∨ q = 17 ∨ q = 19 ∨ q = 29 ∨ q = 33 → ai A q s = 0) → (∀ q, 45 ≤ q → A q = A0 q) → (∀ k, 0 ≤ k → k < x1.toInt → ai A 34 (6 * s + k) = 0 ∧ ai A 35 (6 * s + k) = 0) → 0 ≤ x1.toInt ∧ x1.toInt ≤ 6 → 1510 - x1.toInt < (n : Int) → ok (d_read_177 n F A J x1) RPx := by
  intro n
  induction n with
  | zero => intro A J x1 hA L z o lw hx hn; exact absurd hn (by omega)
  | succ n ih =>
    intro A J x1 hA L z o lw hx hn
    have l1 : (1 : Int32).toInt = 1 := by decide
    have l6 : (6 : Int32).toInt = 6 := by decide
    have l0 : (0 : Int32).toInt = 0 := by decide
    unfold d_read_177
    refine ok_cond (fun c => ?_) (fun c => ?_)
    · rw [i_ge] at c
      have zA := z 11 (by omega)
      have zB := z 12 (by omega)
      have zC := z 17 (by omega)
      have zD := z 19 (by omega)
      have zE := z 29 (by omega)
      have zG := z 33 (by omega)
      refine x_read_219 hs S e0 h2 f18 f74 ⟨hF, hA, by rw [f18]; exact e0, e19, ⟨fun q h0 h1 => absurd h1 (by omega), ?_⟩, L, ⟨by omega, by omega, .inr ⟨z12, by omega⟩⟩, .inr (by omega), .inr ⟨by omega, fun b p q => absurd q (by omega), fun m m0 m1 b p q => ?_⟩, .inr (.inr ⟨fun d h0 h1 => absurd h1 (by omega), fun t h0 h1 => absurd h1 (by omega), fun t q h0 h1 => absurd h1 (by omega), fun m h0 h1 => absurd h1 (by omega)⟩), fun _ _ => rfl, o⟩ (.inr (by omega)) (.inr (.inr (fun m m0 m1 => absurd m1 (by rw [e19, zE]; omega))))
      · unfold CTm
        rw [e19]
        omega
      · have := lw m m0 (by omega)
        omega
    · rw [i_nge] at c
      have e1 := i_mulL (c := 6) (k := 6) (x := F 19) (by decide) (by omega) (by omega)
      have e2 := i_add (x := 6 * F 19) (y := x1) (by omega) (by omega)
      have e3 := i_add (x := x1) (y := 1) (by omega) (by omega)
      refine ok_st (j := 34) hA (by omega) (by omega) (show 0 ≤ (0 : Int32).toInt ∧ (0 : Int32).toInt ≤ 100 by decide) ?_
      intro A2 a2 o2 s2 n2
      refine ok_st (j := 35) a2 (by omega) (by omega) (show 0 ≤ (0 : Int32).toInt ∧ (0 : Int32).toInt ≤ 100 by decide) ?_
      intro A3 a3 o3 s3 n3
      have zz : (6 * F 19 + x1).toInt = 6 * s + x1.toInt := by omega
      rw [zz] at s2 n2 s3 n3
      have L2 : LSm l A0 A2 := L.st (by omega) 6 rfl o2 n2 ⟨by omega, by omega⟩ (by omega)
      have L3 : LSm l A0 A3 := L2.st (by omega) 6 rfl o3 n3 ⟨by omega, by omega⟩ (by omega)
      refine ih a3 L3 (fun q hq => by rw [ai_fr (o3 q (by omega)), ai_fr (o2 q (by omega))]; exact z q hq) (fun q hq => (o3 q (by omega)).trans ((o2 q (by omega)).trans (o q hq))) (fun k h0 h1 => ?_) (by omega) (by omega)
      rw [ai_fr (o3 34 (by decide))]
      by_cases e : k = x1.toInt
      · rw [e]
        exact ⟨s2.trans l0, s3.trans l0⟩
      · rw [n2 _ (by omega) (by omega), n3 _ (by omega) (by omega), ai_fr (o2 35 (by decide))]
        exact lw k h0 (by omega)
theorem x_read_10 (S : SAm F0 A0) (hF : IFm F) (f18 : F 18 = F0 18) (f74 : F 74 = F0 74) : ∀ {n : Nat} {A : Nat → Nat → Int32} {J : Nat → Nat → Int64} {x1 : Int32}, IAm A → (∀ q, q ≠ 2 → A q = A0 q) → 0 ≤ x1.toInt ∧ x1.toInt ≤ 2000 → 12000 - x1.toInt < (n : Int) → ok (d_read_10 n F A J x1) RPx := by
  intro n
  induction n with
  | zero => intro A J x1 hA o hx hn; exact absurd hn (by omega)
  | succ n ih =>
    intro A J x1 hA o hx hn
    have r4 : 0 ≤ (F 4).toInt ∧ (F 4).toInt ≤ 2000 := hF 4
    have r18 : 0 ≤ (F 18).toInt ∧ (F 18).toInt ≤ 1 := hF 18
    have l1 : (1 : Int32).toInt = 1 := by decide
    have l0 : (0 : Int32).toInt = 0 := by decide
    unfold d_read_10
    refine ok_cond (fun c => ?_) (fun c => ?_)
    · refine ok_pf hF (show 0 ≤ (0 : Int32).toInt ∧ (0 : Int32).toInt ≤ 2000 by decide) ?_
      intro F3 b3 k3 p3
      refine ok_call (s_d_cut b3 hA (by omega)) ?_
      rintro ⟨u, F5, A5, J5⟩ ⟨b5, a5, p5, o5, -⟩
      dsimp only at b5 a5 p5 o5 ⊢
      refine ok_pf b5 (show 0 ≤ (0 : Int32).toInt ∧ (0 : Int32).toInt ≤ 400 by decide) ?_
      intro F6 b6 k6 p6
      refine ok_pf b6 (show 0 ≤ (0 : Int32).toInt ∧ (0 : Int32).toInt ≤ 7 by decide) ?_
      intro F7 b7 k7 p7
      refine ok_pf b7 (show 0 ≤ (0 : Int32).toInt ∧ (0 : Int32).toInt ≤ 5 by decide) ?_
      intro F8 b8 k8 p8
      refine ok_pf b8 (show 0 ≤ (0 : Int32).toInt ∧ (0 : Int32).toInt ≤ 5 by decide) ?_
      intro F9 b9 k9 p9
      have g18 : F9 18 = F 18 := (p9 18 (by decide)).trans ((p8 18 (by decide)).trans ((p7 18 (by decide)).trans ((p6 18 (by decide)).trans ((p5 18 (by decide)).trans (p3 18 (by decide))))))
      have e1 := i_sub (x := 1) (y := F9 18) (by rw [g18]; omega) (by rw [g18]; omega)
      rw [g18] at e1
      refine ok_pf b9 (show 0 ≤ (1 - F9 18).toInt ∧ (1 - F9 18).toInt ≤ 1 by rw [g18]; omega) ?_
      intro F10 b10 k10 p10
      refine ok_pf b10 (show 0 ≤ (0 : Int32).toInt ∧ (0 : Int32).toInt ≤ 32 by decide) ?_
      intro F11 b11 k11 p11
      have x19 : (F11 19).toInt = 1 - (F 18).toInt := by rw [p11 19 (by decide), k10, g18]; omega
      refine ok_st (j := 11) a5 (by omega) (by omega) (show 0 ≤ (0 : Int32).toInt ∧ (0 : Int32).toInt ≤ 8 by decide) ?_
      intro A6 a6 o6 s6 n6
      refine ok_st (j := 12) a6 (by omega) (by omega) (show 0 ≤ (0 : Int32).toInt ∧ (0 : Int32).toInt ≤ 12 by decide) ?_
      intro A7 a7 o7 s7 n7
      refine ok_st (j := 17) a7 (by omega) (by omega) (show 0 ≤ (0 : Int32).toInt ∧ (0 : Int32).toInt ≤ 6 by decide) ?_
      intro A8 a8 o8 s8 n8
      refine ok_st (j := 19) a8 (by omega) (by omega) (show 0 ≤ (0 : Int32).toInt ∧ (0 : Int32).toInt ≤ 6 by decide) ?_
      intro A9 a9 o9 s9 n9
      refine ok_st (j := 29) a9 (by omega) (by omega) (show 0 ≤ (0 : Int32).toInt ∧ (0 : Int32).toInt ≤ 6 by decide) ?_
      intro A10 a10 o10 s10 n10
      refine ok_st (j := 33) a10 (by omega) (by omega) (show 0 ≤ (0 : Int32).toInt ∧ (0 : Int32).toInt ≤ 8 by decide) ?_
      intro A11 a11 o11 s11 n11
      refine ok_st (j := 41) a11 (by omega) (by omega) (show 0 ≤ (480 : Int32).toInt ∧ (480 : Int32).toInt ≤ 9999 by decide) ?_
      intro A12 a12 o12 s12 n12
      have e2 := i_mulL (c := 50) (k := 50) (x := F11 19) (by decide) (by omega) (by omega)
      refine ok_pf b11 (show 0 ≤ (50 * F11 19).toInt ∧ (50 * F11 19).toInt ≤ 100 by omega) ?_
      intro F12 b12 k12 p12
      have y19 : (F12 19).toInt = 1 - (F 18).toInt := by rw [p12 19 (by decide)]; exact x19
      have e3 := i_mulL (c := 420) (k := 420) (x := F12 19) (by decide) (by omega) (by omega)
      refine ok_pf b12 (show 0 ≤ (420 * F12 19).toInt ∧ (420 * F12 19).toInt ≤ 840 by omega) ?_
      intro F13 b13 k13 p13
      have L5 : LSm (F 18).toInt A0 A5 := ((LSm.rfl' (F 18).toInt A0).fr [2] (fun q hq => o q (fun e => hq (by rw [e]; decide))) (by decide)).fr [3, 4, 5] o5 (by decide)
      have L6 := L5.st r18.1 1 rfl o6 n6 ⟨by omega, by omega⟩ (by omega)
      have L7 := L6.st r18.1 1 rfl o7 n7 ⟨by omega, by omega⟩ (by omega)
      have L8 := L7.st r18.1 1 rfl o8 n8 ⟨by omega, by omega⟩ (by omega)
      have L9 := L8.st r18.1 1 rfl o9 n9 ⟨by omega, by omega⟩ (by omega)
      have L10 := L9.st r18.1 1 rfl o10 n10 ⟨by omega, by omega⟩ (by omega)
      have L11 := L10.st r18.1 1 rfl o11 n11 ⟨by omega, by omega⟩ (by omega)
      have L12 := L11.st r18.1 1 rfl o12 n12 ⟨by omega, by omega⟩ (by omega)
      have fr : ∀ q, q ∉ ([11, 12, 13, 15, 19, 20, 49, 56] : List Nat) → F13 q = F5 q := fun q hq => (p13 q (fun e => hq (by rw [e]; decide))).trans ((p12 q (fun e => hq (by rw [e]; decide))).trans ((p11 q (fun e => hq (by rw [e]; decide))).trans ((p10 q (fun e => hq (by rw [e]; decide))).trans ((p9 q (fun e => hq (by rw [e]; decide))).trans ((p8 q (fun e => hq (by rw [e]; decide))).trans ((p7 q (fun e => hq (by rw [e]; decide))).trans (p6 q (fun e => hq (by rw [e]; decide)))))))))
      have oA : ∀ q, q ∉ ([11, 12, 17, 19, 29, 33, 41] : List Nat) → A12 q = A5 q := fun q hq => (o12 q (fun e => hq (by rw [e]; decide))).trans ((o11 q (fun e => hq (by rw [e]; decide))).trans ((o10 q (fun e => hq (by rw [e]; decide))).trans ((o9 q (fun e => hq (by rw [e]; decide))).trans ((o8 q (fun e => hq (by rw [e]; decide))).trans ((o7 q (fun e => hq (by rw [e]; decide))).trans (o6 q (fun e => hq (by rw [e]; decide))))))))
      rw [x19, l0] at s6 s7 s8 s9 s10 s11
      have v11 : ai A12 11 (1 - (F 18).toInt) = 0 := by rw [ai_fr (o12 11 (by decide)), ai_fr (o11 11 (by decide)), ai_fr (o10 11 (by decide)), ai_fr (o9 11 (by decide)), ai_fr (o8 11 (by decide)), ai_fr (o7 11 (by decide))]; exact s6
      have v12 : ai A12 12 (1 - (F 18).toInt) = 0 := by rw [ai_fr (o12 12 (by decide)), ai_fr (o11 12 (by decide)), ai_fr (o10 12 (by decide)), ai_fr (o9 12 (by decide)), ai_fr (o8 12 (by decide))]; exact s7
      have v17 : ai A12 17 (1 - (F 18).toInt) = 0 := by rw [ai_fr (o12 17 (by decide)), ai_fr (o11 17 (by decide)), ai_fr (o10 17 (by decide)), ai_fr (o9 17 (by decide))]; exact s8
      have v19 : ai A12 19 (1 - (F 18).toInt) = 0 := by rw [ai_fr (o12 19 (by decide)), ai_fr (o11 19 (by decide)), ai_fr (o10 19 (by decide))]; exact s9
      have v29 : ai A12 29 (1 - (F 18).toInt) = 0 := by rw [ai_fr (o12 29 (by decide)), ai_fr (o11 29 (by decide))]; exact s10
      have v33 : ai A12 33 (1 - (F 18).toInt) = 0 := by rw [ai_fr (o12 33 (by decide))]; exact s11
      refine x_read_177 (l := (F 18).toInt) (s := 1 - (F 18).toInt) ⟨by omega, by omega, rfl⟩ S (by rw [f18]) b13 ?_ ?_ ?_ ?_ ?_ ?_ ?_ ?_ ?_ ?_ ?_ a12 L12 ?_ ?_ (fun k h0 h1 => absurd h1 (by omega)) (by decide) (by omega)
      · rw [fr 2 (by decide), p5 2 (by decide), k3]; exact l0
      · exact (fr 18 (by decide)).trans ((p5 18 (by decide)).trans ((p3 18 (by decide)).trans f18))
      · exact (fr 74 (by decide)).trans ((p5 74 (by decide)).trans ((p3 74 (by decide)).trans f74))
      · rw [p13 19 (by decide)]; exact y19
      · rw [p13 11 (by decide), p12 11 (by decide), p11 11 (by decide), p10 11 (by decide), p9 11 (by decide), p8 11 (by decide), p7 11 (by decide), k6]; exact l0
      · rw [p13 12 (by decide), p12 12 (by decide), p11 12 (by decide), p10 12 (by decide), p9 12 (by decide), p8 12 (by decide), k7]; exact l0
      · rw [p13 13 (by decide), p12 13 (by decide), p11 13 (by decide), p10 13 (by decide), p9 13 (by decide), k8]; exact l0
      · rw [p13 15 (by decide), p12 15 (by decide), p11 15 (by decide), p10 15 (by decide), k9]; exact l0
      · rw [p13 20 (by decide), p12 20 (by decide), k11]; exact l0
      · rw [p13 49 (by decide), k12]; omega
      · rw [k13]; omega
      · intro q hq
        rcases hq with rfl | rfl | rfl | rfl | rfl | rfl
        · exact v11
        · exact v12
        · exact v17
        · exact v19
        · exact v29
        · exact v33
      · intro q hq
        exact (oA q (by simp; omega)).trans ((o5 q (by simp; omega)).trans (o q (by omega)))
    · rw [i_nge] at c
      have e3 := i_add (x := x1) (y := 1) (by omega) (by omega)
      refine ok_ld (j := 1) hA (by omega) (by omega) ?_
      intro v _ _
      refine ok_st (j := 2) hA (by omega) (by omega) trivial ?_
      intro A2 a2 o2 s2 n2
      exact ih a2 (fun q hq => (o2 q hq).trans (o q hq)) (by omega) (by omega)
theorem x_read {A : Nat → Nat → Int32} {J : Nat → Nat → Int64} {n : Nat} (S : SAm F A) (hn : 12100 ≤ n) : ok (d_read n F A J) RPx := by
  have l0 : (0 : Int32).toInt = 0 := by decide
  unfold d_read
  refine ok_pf S.1 (show 0 ≤ (F 2).toInt ∧ (F 2).toInt ≤ 2000 from S.1 2) ?_
  intro F1 b1 k1 p1
  exact x_read_10 S b1 (p1 18 (by decide)) (p1 74 (by decide)) S.2.1 (fun _ _ => rfl) (by decide) (by omega)
end K9f7
end Qz153
section Qz154
/-! a night of the class: what is done and what there is to do, together never more than before (frames printed by wip/frames.py) -/
section H9fq
variable {P0 : Nat → Nat → Nat} {F0 : Nat → Nat → Int32} {A0 : Nat → Nat → Nat → Int32}
/-- who sleeps where, how many men, what is done, what there is to do, who does what: as before -/
def BFx (P0 : Nat → Nat → Nat) (F0 : Nat → Nat → Int32) (A0 : Nat → Nat → Nat → Int32) (P : Nat → Nat → Nat) (F : Nat → Nat → Int32) (A : Nat → Nat → Nat → Int32) : Prop := (P 36 8 = P0 36 8 ∧ P 36 9 = P0 36 9) ∧ (∀ r, F r 17 = F0 r 17) ∧ (∀ r, r ≠ 36 → A r 1 = A0 r 1 ∧ A r 2 = A0 r 2) ∧ A 36 4 = A0 36 4
theorem BFx.rfl' {P : Nat → Nat → Nat} {F : Nat → Nat → Int32} {A : Nat → Nat → Nat → Int32} : BFx P F A P F A := ⟨⟨rfl, rfl⟩, fun _ => rfl, fun _ _ => ⟨rfl, rfl⟩, rfl⟩
theorem BFx.tr {P P1 P2 : Nat → Nat → Nat} {F F1 F2 : Nat → Nat → Int32} {A A1 A2 : Nat → Nat → Nat → Int32} (a : BFx P F A P1 F1 A1) (b : BFx P1 F1 A1 P2 F2 A2) : BFx P F A P2 F2 A2 := ⟨⟨b.1.1.trans a.1.1, b.1.2.trans a.1.2⟩, fun r => (b.2.1 r).trans (a.2.1 r), fun r hr => ⟨(b.2.2.1 r hr).1.trans (a.2.2.1 r hr).1, (b.2.2.1 r hr).2.trans (a.2.2.1 r hr).2⟩, b.2.2.2.trans a.2.2.2⟩
theorem BFx.st {P : Nat → Nat → Nat} {F : Nat → Nat → Int32} {A A' : Nat → Nat → Nat → Int32} {r o : Nat} {i v : Int} (U : CUm A A' r o i v) (ho : o ≠ 1 ∧ o ≠ 2 ∧ o ≠ 4) : BFx P F A P F A' := ⟨⟨rfl, rfl⟩, fun _ => rfl, fun r' _ => ⟨U.2.2 r' 1 (fun e => ho.1 e.2.symm), U.2.2 r' 2 (fun e => ho.2.1 e.2.symm)⟩, U.2.2 36 4 (fun e => ho.2.2 e.2.symm)⟩
theorem bf_pf {γ : Type} {q k : Nat} {x : Int32} {P : Nat → Nat → Nat} {F : Nat → Nat → Int32} {A : Nat → Nat → Nat → Int32} {g : (Nat → Nat → Int32) → Option γ} {Q : γ → Prop} (h : BFx P0 F0 A0 P F A) (hk : k ≠ 17) (kk : ∀ F', BFx P0 F0 A0 P F' A → po (g F') Q) : po ((c_pf F q k x).bind g) Q :=
  po_bl (fun F' e => kk F' ⟨h.1, fun r => ((gg_cpf e).2 r 17 (fun e => hk e.2.symm)).trans (h.2.1 r), h.2.2⟩)
theorem bf_st {γ : Type} {q o n : Nat} {i x : Int32} {P : Nat → Nat → Nat} {F : Nat → Nat → Int32} {A : Nat → Nat → Nat → Int32} {g : (Nat → Nat → Nat → Int32) → Option γ} {Q : γ → Prop} (h : BFx P0 F0 A0 P F A) (ho : o ≠ 1 ∧ o ≠ 2 ∧ o ≠ 4) (kk : ∀ A', BFx P0 F0 A0 P F A' → po (g A') Q) : po ((c_st A q o n i x).bind g) Q :=
  po_bl (fun A' e => kk A' (h.tr (BFx.st (gg_cst e).2.2 ho)))
theorem bf_sw {γ : Type} {q o n : Nat} {i x : Int32} {P : Nat → Nat → Nat} {F : Nat → Nat → Int32} {A : Nat → Nat → Nat → Int32} {g : (Nat → Nat → Nat → Int32) → Option γ} {Q : γ → Prop} (h : BFx P0 F0 A0 P F A) (hq : q = 36 ∧ o ≠ 4) (kk : ∀ A', BFx P0 F0 A0 P F A' → po (g A') Q) : po ((c_st A q o n i x).bind g) Q :=
  po_bl (fun A' e => kk A' (by
    have U := (gg_cst e).2.2
    exact h.tr ⟨⟨rfl, rfl⟩, fun _ => rfl, fun r hr => ⟨U.2.2 r 1 (fun e => hr (e.1.trans hq.1)), U.2.2 r 2 (fun e => hr (e.1.trans hq.1))⟩, U.2.2 36 4 (fun e => hq.2 e.2.symm)⟩))
theorem bf_fi {γ : Type} {q o n : Nat} {x : Int32} {P : Nat → Nat → Nat} {F : Nat → Nat → Int32} {A : Nat → Nat → Nat → Int32} {g : (Nat → Nat → Nat → Int32) → Option γ} {Q : γ → Prop} (h : BFx P0 F0 A0 P F A) (hq : q = 36 ∧ o ≠ 4) (kk : ∀ A', BFx P0 F0 A0 P F A' → po (g A') Q) : po ((c_fi A q o n x).bind g) Q :=
  po_bl (fun A' e => kk A' (by
    have U := gg_cfi e
    exact h.tr ⟨⟨rfl, rfl⟩, fun _ => rfl, fun r hr => ⟨U r 1 (fun e => hr (e.1.trans hq.1)), U r 2 (fun e => hr (e.1.trans hq.1))⟩, U 36 4 (fun e => hq.2 e.2.symm)⟩))
theorem bf_e_Sleep_wakeUp_99 {K2 : (Nat → Nat → Nat) → (Nat → Nat → Int32) → (Nat → Nat → Nat → Int32) → (Nat → Nat → Nat → Int64) → Int32 → Option (Unit × (Nat → Nat → Nat) × (Nat → Nat → Int32) × (Nat → Nat → Nat → Int32) × (Nat → Nat → Nat → Int64))} {n : Nat} {P : Nat → Nat → Nat} {F : Nat → Nat → Int32} {A : Nat → Nat → Nat → Int32} {J : Nat → Nat → Nat → Int64} {x1 : Int32} (hK2 : ∀ (a0 : Nat → Nat → Nat) (a1 : Nat → Nat → Int32) (a2 : Nat → Nat → Nat → Int32) (a3 : Nat → Nat → Nat → Int64) (a4 : Int32), BFx P0 F0 A0 a0 a1 a2 → po (K2 a0 a1 a2 a3 a4) (fun r => BFx P0 F0 A0 r.2.1 r.2.2.1 r.2.2.2.1)) (h : BFx P0 F0 A0 P F A) : po (e_Sleep_wakeUp_99 K2 n P F A J x1) (fun r => BFx P0 F0 A0 r.2.1 r.2.2.1 r.2.2.2.1) := by
  unfold e_Sleep_wakeUp_99
  repeat' (first
    | with_reducible exact po_some (by assumption)
    | (with_reducible refine bf_pf (by assumption) (by decide) ?_; intro _ _)
    | (with_reducible refine bf_st (by assumption) (by decide) ?_; intro _ _)
    | (with_reducible refine bf_sw (by assumption) (by decide) ?_; intro _ _)
    | (with_reducible refine bf_fi (by assumption) (by decide) ?_; intro _ _)
    | with_reducible exact hK2 _ _ _ _ _ (by assumption)
    | (intros; with_reducible exact hK2 _ _ _ _ _ (by assumption))
    | with_reducible refine po_cond (fun _ => ?_) (fun _ => ?_)
    | with_reducible refine po_bind_cond (fun _ => ?_) (fun _ => ?_)
    | with_reducible refine po_bl (fun _ _ => ?_))
theorem bf_e_Sleep_wakeUp_98 {K2 : (Nat → Nat → Nat) → (Nat → Nat → Int32) → (Nat → Nat → Nat → Int32) → (Nat → Nat → Nat → Int64) → Int32 → Option (Unit × (Nat → Nat → Nat) × (Nat → Nat → Int32) × (Nat → Nat → Nat → Int32) × (Nat → Nat → Nat → Int64))} {n : Nat} {P : Nat → Nat → Nat} {F : Nat → Nat → Int32} {A : Nat → Nat → Nat → Int32} {J : Nat → Nat → Nat → Int64} {x1 : Int32} {rs0 : Nat} {s1 : Int32} {s2 : Int32} (hK2 : ∀ (a0 : Nat → Nat → Nat) (a1 : Nat → Nat → Int32) (a2 : Nat → Nat → Nat → Int32) (a3 : Nat → Nat → Nat → Int64) (a4 : Int32), BFx P0 F0 A0 a0 a1 a2 → po (K2 a0 a1 a2 a3 a4) (fun r => BFx P0 F0 A0 r.2.1 r.2.2.1 r.2.2.2.1)) (h : BFx P0 F0 A0 P F A) : po (e_Sleep_wakeUp_98 K2 n P F A J x1 rs0 s1 s2) (fun r => BFx P0 F0 A0 r.2.1 r.2.2.1 r.2.2.2.1) := by
  unfold e_Sleep_wakeUp_98
  repeat' (first
    | with_reducible exact po_some (by assumption)
    | (with_reducible refine bf_pf (by assumption) (by decide) ?_; intro _ _)
    | (with_reducible refine bf_st (by assumption) (by decide) ?_; intro _ _)
    | (with_reducible refine bf_sw (by assumption) (by decide) ?_; intro _ _)
    | (with_reducible refine bf_fi (by assumption) (by decide) ?_; intro _ _)
    | with_reducible exact hK2 _ _ _ _ _ (by assumption)
    | (intros; with_reducible exact hK2 _ _ _ _ _ (by assumption))
    | with_reducible refine po_cond (fun _ => ?_) (fun _ => ?_)
    | with_reducible refine po_bind_cond (fun _ => ?_) (fun _ => ?_)
    | with_reducible refine po_bl (fun _ _ => ?_))
theorem bf_e_Sleep_wakeUp_2   : ∀ {n : Nat} {P : Nat → Nat → Nat} {F : Nat → Nat → Int32} {A : Nat → Nat → Nat → Int32} {J : Nat → Nat → Nat → Int64} {x1 : Int32}, BFx P0 F0 A0 P F A → po (e_Sleep_wakeUp_2  n P F A J x1) (fun r => BFx P0 F0 A0 r.2.1 r.2.2.1 r.2.2.2.1) := by
  intro n
  induction n with
  | zero => intro P F A J x1 _ r hr; cases hr
  | succ n ih =>
    intro P F A J x1 h
    unfold e_Sleep_wakeUp_2
    repeat' (first
      | with_reducible exact po_some (by assumption)
      | (with_reducible refine bf_pf (by assumption) (by decide) ?_; intro _ _)
      | (with_reducible refine bf_st (by assumption) (by decide) ?_; intro _ _)
      | (with_reducible refine bf_sw (by assumption) (by decide) ?_; intro _ _)
      | (with_reducible refine bf_fi (by assumption) (by decide) ?_; intro _ _)
      | with_reducible refine bf_e_Sleep_wakeUp_99 ?_ (by assumption)
      | (with_reducible refine po_call (bf_e_Sleep_wakeUp_99 ?_ (by assumption)) ?_)
      | with_reducible refine bf_e_Sleep_wakeUp_98 ?_ (by assumption)
      | (with_reducible refine po_call (bf_e_Sleep_wakeUp_98 ?_ (by assumption)) ?_)
      | with_reducible exact ih (by assumption)
      | (with_reducible refine po_call (ih (by assumption)) ?_; rintro ⟨_, _, _, _, _⟩ _; try dsimp only)
      | (intros; with_reducible exact ih (by assumption))
      | with_reducible refine po_cond (fun _ => ?_) (fun _ => ?_)
      | with_reducible refine po_bind_cond (fun _ => ?_) (fun _ => ?_)
      | with_reducible refine po_bl (fun _ _ => ?_))
theorem bf_e_Sleep_wakeUp {n : Nat} {P : Nat → Nat → Nat} {F : Nat → Nat → Int32} {A : Nat → Nat → Nat → Int32} {J : Nat → Nat → Nat → Int64}  (h : BFx P0 F0 A0 P F A) : po (e_Sleep_wakeUp n P F A J) (fun r => BFx P0 F0 A0 r.2.1 r.2.2.1 r.2.2.2.1) := by
  unfold e_Sleep_wakeUp
  repeat' (first
    | with_reducible exact po_some (by assumption)
    | (with_reducible refine bf_pf (by assumption) (by decide) ?_; intro _ _)
    | (with_reducible refine bf_st (by assumption) (by decide) ?_; intro _ _)
    | (with_reducible refine bf_sw (by assumption) (by decide) ?_; intro _ _)
    | (with_reducible refine bf_fi (by assumption) (by decide) ?_; intro _ _)
    | with_reducible exact bf_e_Sleep_wakeUp_2 (by assumption)
    | (with_reducible refine po_call (bf_e_Sleep_wakeUp_2 (by assumption)) ?_; rintro ⟨_, _, _, _, _⟩ _; try dsimp only)
    | with_reducible refine po_cond (fun _ => ?_) (fun _ => ?_)
    | with_reducible refine po_bind_cond (fun _ => ?_) (fun _ => ?_)
    | with_reducible refine po_bl (fun _ _ => ?_))
theorem bf_e_Laws_tellsTo_233 {n : Nat} {P : Nat → Nat → Nat} {F : Nat → Nat → Int32} {A : Nat → Nat → Nat → Int32} {J : Nat → Nat → Nat → Int64} {r0 : Nat}  (h : BFx P0 F0 A0 P F A) : po (e_Laws_tellsTo_233 n P F A J r0) (fun r => BFx P0 F0 A0 r.2.1 r.2.2.1 r.2.2.2.1) := by
  unfold e_Laws_tellsTo_233
  repeat' (first
    | with_reducible exact po_some (by assumption)
    | (with_reducible refine bf_pf (by assumption) (by decide) ?_; intro _ _)
    | (with_reducible refine bf_st (by assumption) (by decide) ?_; intro _ _)
    | (with_reducible refine bf_sw (by assumption) (by decide) ?_; intro _ _)
    | (with_reducible refine bf_fi (by assumption) (by decide) ?_; intro _ _)
    | with_reducible refine po_cond (fun _ => ?_) (fun _ => ?_)
    | with_reducible refine po_bind_cond (fun _ => ?_) (fun _ => ?_)
    | with_reducible refine po_bl (fun _ _ => ?_))
theorem bf_e_Laws_tellsTo_227 {K13 : (Nat → Nat → Nat) → (Nat → Nat → Int32) → (Nat → Nat → Nat → Int32) → (Nat → Nat → Nat → Int64) → Nat → Int32 → Int32 → Int32 → Option (Int32 × (Nat → Nat → Nat) × (Nat → Nat → Int32) × (Nat → Nat → Nat → Int32) × (Nat → Nat → Nat → Int64))} {n : Nat} {P : Nat → Nat → Nat} {F : Nat → Nat → Int32} {A : Nat → Nat → Nat → Int32} {J : Nat → Nat → Nat → Int64} {r0 : Nat} {x3 : Int32} {x4 : Int32} {x5 : Int32} (hK13 : ∀ (a0 : Nat → Nat → Nat) (a1 : Nat → Nat → Int32) (a2 : Nat → Nat → Nat → Int32) (a3 : Nat → Nat → Nat → Int64) (a4 : Nat) (a5 : Int32) (a6 : Int32) (a7 : Int32), BFx P0 F0 A0 a0 a1 a2 → po (K13 a0 a1 a2 a3 a4 a5 a6 a7) (fun r => BFx P0 F0 A0 r.2.1 r.2.2.1 r.2.2.2.1)) (h : BFx P0 F0 A0 P F A) : po (e_Laws_tellsTo_227 K13 n P F A J r0 x3 x4 x5) (fun r => BFx P0 F0 A0 r.2.1 r.2.2.1 r.2.2.2.1) := by
  unfold e_Laws_tellsTo_227
  repeat' (first
    | with_reducible exact po_some (by assumption)
    | (with_reducible refine bf_pf (by assumption) (by decide) ?_; intro _ _)
    | (with_reducible refine bf_st (by assumption) (by decide) ?_; intro _ _)
    | (with_reducible refine bf_sw (by assumption) (by decide) ?_; intro _ _)
    | (with_reducible refine bf_fi (by assumption) (by decide) ?_; intro _ _)
    | with_reducible exact hK13 _ _ _ _ _ _ _ _ (by assumption)
    | (intros; with_reducible exact hK13 _ _ _ _ _ _ _ _ (by assumption))
    | with_reducible refine po_cond (fun _ => ?_) (fun _ => ?_)
    | with_reducible refine po_bind_cond (fun _ => ?_) (fun _ => ?_)
    | with_reducible refine po_bl (fun _ _ => ?_))
theorem bf_e_Laws_tellsTo_126 {K13 : (Nat → Nat → Nat) → (Nat → Nat → Int32) → (Nat → Nat → Nat → Int32) → (Nat → Nat → Nat → Int64) → Nat → Int32 → Int32 → Int32 → Option (Int32 × (Nat → Nat → Nat) × (Nat → Nat → Int32) × (Nat → Nat → Nat → Int32) × (Nat → Nat → Nat → Int64))} {n : Nat} {P : Nat → Nat → Nat} {F : Nat → Nat → Int32} {A : Nat → Nat → Nat → Int32} {J : Nat → Nat → Nat → Int64} {r0 : Nat} {x3 : Int32} {x4 : Int32} {x5 : Int32} {rs0 : Nat} {s1 : Int32} {s2 : Int32} (hK13 : ∀ (a0 : Nat → Nat → Nat) (a1 : Nat → Nat → Int32) (a2 : Nat → Nat → Nat → Int32) (a3 : Nat → Nat → Nat → Int64) (a4 : Nat) (a5 : Int32) (a6 : Int32) (a7 : Int32), BFx P0 F0 A0 a0 a1 a2 → po (K13 a0 a1 a2 a3 a4 a5 a6 a7) (fun r => BFx P0 F0 A0 r.2.1 r.2.2.1 r.2.2.2.1)) (h : BFx P0 F0 A0 P F A) : po (e_Laws_tellsTo_126 K13 n P F A J r0 x3 x4 x5 rs0 s1 s2) (fun r => BFx P0 F0 A0 r.2.1 r.2.2.1 r.2.2.2.1) := by
  unfold e_Laws_tellsTo_126
  repeat' (first
    | with_reducible exact po_some (by assumption)
    | (with_reducible refine bf_pf (by assumption) (by decide) ?_; intro _ _)
    | (with_reducible refine bf_st (by assumption) (by decide) ?_; intro _ _)
    | (with_reducible refine bf_sw (by assumption) (by decide) ?_; intro _ _)
    | (with_reducible refine bf_fi (by assumption) (by decide) ?_; intro _ _)
    | with_reducible refine bf_e_Laws_tellsTo_227 ?_ (by assumption)
    | (with_reducible refine po_call (bf_e_Laws_tellsTo_227 ?_ (by assumption)) ?_)
    | with_reducible exact hK13 _ _ _ _ _ _ _ _ (by assumption)
    | (intros; with_reducible exact hK13 _ _ _ _ _ _ _ _ (by assumption))
    | with_reducible refine po_cond (fun _ => ?_) (fun _ => ?_)
    | with_reducible refine po_bind_cond (fun _ => ?_) (fun _ => ?_)
    | with_reducible refine po_bl (fun _ _ => ?_))
theorem bf_e_Laws_tellsTo_88 {K13 : (Nat → Nat → Nat) → (Nat → Nat → Int32) → (Nat → Nat → Nat → Int32) → (Nat → Nat → Nat → Int64) → Nat → Int32 → Int32 → Int32 → Option (Int32 × (Nat → Nat → Nat) × (Nat → Nat → Int32) × (Nat → Nat → Nat → Int32) × (Nat → Nat → Nat → Int64))} {n : Nat} {P : Nat → Nat → Nat} {F : Nat → Nat → Int32} {A : Nat → Nat → Nat → Int32} {J : Nat → Nat → Nat → Int64} {r0 : Nat} {x3 : Int32} {x4 : Int32} {x5 : Int32} {x6 : Int32} {x7 : Int32} (hK13 : ∀ (a0 : Nat → Nat → Nat) (a1 : Nat → Nat → Int32) (a2 : Nat → Nat → Nat → Int32) (a3 : Nat → Nat → Nat → Int64) (a4 : Nat) (a5 : Int32) (a6 : Int32) (a7 : Int32), BFx P0 F0 A0 a0 a1 a2 → po (K13 a0 a1 a2 a3 a4 a5 a6 a7) (fun r => BFx P0 F0 A0 r.2.1 r.2.2.1 r.2.2.2.1)) (h : BFx P0 F0 A0 P F A) : po (e_Laws_tellsTo_88 K13 n P F A J r0 x3 x4 x5 x6 x7) (fun r => BFx P0 F0 A0 r.2.1 r.2.2.1 r.2.2.2.1) := by
  unfold e_Laws_tellsTo_88
  repeat' (first
    | with_reducible exact po_some (by assumption)
    | (with_reducible refine bf_pf (by assumption) (by decide) ?_; intro _ _)
    | (with_reducible refine bf_st (by assumption) (by decide) ?_; intro _ _)
    | (with_reducible refine bf_sw (by assumption) (by decide) ?_; intro _ _)
    | (with_reducible refine bf_fi (by assumption) (by decide) ?_; intro _ _)
    | with_reducible refine bf_e_Laws_tellsTo_227 ?_ (by assumption)
    | (with_reducible refine po_call (bf_e_Laws_tellsTo_227 ?_ (by assumption)) ?_)
    | with_reducible refine bf_e_Laws_tellsTo_126 ?_ (by assumption)
    | (with_reducible refine po_call (bf_e_Laws_tellsTo_126 ?_ (by assumption)) ?_)
    | with_reducible exact hK13 _ _ _ _ _ _ _ _ (by assumption)
    | (intros; with_reducible exact hK13 _ _ _ _ _ _ _ _ (by assumption))
    | with_reducible refine po_cond (fun _ => ?_) (fun _ => ?_)
    | with_reducible refine po_bind_cond (fun _ => ?_) (fun _ => ?_)
    | with_reducible refine po_bl (fun _ _ => ?_))
theorem bf_e_Laws_tellsTo_153 {n : Nat} {P : Nat → Nat → Nat} {F : Nat → Nat → Int32} {A : Nat → Nat → Nat → Int32} {J : Nat → Nat → Nat → Int64} {r0 : Nat}  (h : BFx P0 F0 A0 P F A) : po (e_Laws_tellsTo_153 n P F A J r0) (fun r => BFx P0 F0 A0 r.2.1 r.2.2.1 r.2.2.2.1) := by
  unfold e_Laws_tellsTo_153
  repeat' (first
    | with_reducible exact po_some (by assumption)
    | (with_reducible refine bf_pf (by assumption) (by decide) ?_; intro _ _)
    | (with_reducible refine bf_st (by assumption) (by decide) ?_; intro _ _)
    | (with_reducible refine bf_sw (by assumption) (by decide) ?_; intro _ _)
    | (with_reducible refine bf_fi (by assumption) (by decide) ?_; intro _ _)
    | with_reducible refine po_cond (fun _ => ?_) (fun _ => ?_)
    | with_reducible refine po_bind_cond (fun _ => ?_) (fun _ => ?_)
    | with_reducible refine po_bl (fun _ _ => ?_))
theorem bf_e_Laws_tellsTo_192 {K13 : (Nat → Nat → Nat) → (Nat → Nat → Int32) → (Nat → Nat → Nat → Int32) → (Nat → Nat → Nat → Int64) → Nat → Int32 → Int32 → Int32 → Option (Int32 × (Nat → Nat → Nat) × (Nat → Nat → Int32) × (Nat → Nat → Nat → Int32) × (Nat → Nat → Nat → Int64))} {n : Nat} {P : Nat → Nat → Nat} {F : Nat → Nat → Int32} {A : Nat → Nat → Nat → Int32} {J : Nat → Nat → Nat → Int64} {r0 : Nat} {x4 : Int32} {x5 : Int32} {s0 : Int32} (hK13 : ∀ (a0 : Nat → Nat → Nat) (a1 : Nat → Nat → Int32) (a2 : Nat → Nat → Nat → Int32) (a3 : Nat → Nat → Nat → Int64) (a4 : Nat) (a5 : Int32) (a6 : Int32) (a7 : Int32), BFx P0 F0 A0 a0 a1 a2 → po (K13 a0 a1 a2 a3 a4 a5 a6 a7) (fun r => BFx P0 F0 A0 r.2.1 r.2.2.1 r.2.2.2.1)) (h : BFx P0 F0 A0 P F A) : po (e_Laws_tellsTo_192 K13 n P F A J r0 x4 x5 s0) (fun r => BFx P0 F0 A0 r.2.1 r.2.2.1 r.2.2.2.1) := by
  unfold e_Laws_tellsTo_192
  repeat' (first
    | with_reducible exact po_some (by assumption)
    | (with_reducible refine bf_pf (by assumption) (by decide) ?_; intro _ _)
    | (with_reducible refine bf_st (by assumption) (by decide) ?_; intro _ _)
    | (with_reducible refine bf_sw (by assumption) (by decide) ?_; intro _ _)
    | (with_reducible refine bf_fi (by assumption) (by decide) ?_; intro _ _)
    | with_reducible refine bf_e_Laws_tellsTo_227 ?_ (by assumption)
    | (with_reducible refine po_call (bf_e_Laws_tellsTo_227 ?_ (by assumption)) ?_)
    | with_reducible exact hK13 _ _ _ _ _ _ _ _ (by assumption)
    | (intros; with_reducible exact hK13 _ _ _ _ _ _ _ _ (by assumption))
    | with_reducible refine po_cond (fun _ => ?_) (fun _ => ?_)
    | with_reducible refine po_bind_cond (fun _ => ?_) (fun _ => ?_)
    | with_reducible refine po_bl (fun _ _ => ?_))
theorem bf_e_Laws_tellsTo_157 {K13 : (Nat → Nat → Nat) → (Nat → Nat → Int32) → (Nat → Nat → Nat → Int32) → (Nat → Nat → Nat → Int64) → Nat → Int32 → Int32 → Int32 → Option (Int32 × (Nat → Nat → Nat) × (Nat → Nat → Int32) × (Nat → Nat → Nat → Int32) × (Nat → Nat → Nat → Int64))} {n : Nat} {P : Nat → Nat → Nat} {F : Nat → Nat → Int32} {A : Nat → Nat → Nat → Int32} {J : Nat → Nat → Nat → Int64} {r0 : Nat} {x3 : Int32} {x4 : Int32} {x5 : Int32} {x6 : Int32} {x7 : Int32} (hK13 : ∀ (a0 : Nat → Nat → Nat) (a1 : Nat → Nat → Int32) (a2 : Nat → Nat → Nat → Int32) (a3 : Nat → Nat → Nat → Int64) (a4 : Nat) (a5 : Int32) (a6 : Int32) (a7 : Int32), BFx P0 F0 A0 a0 a1 a2 → po (K13 a0 a1 a2 a3 a4 a5 a6 a7) (fun r => BFx P0 F0 A0 r.2.1 r.2.2.1 r.2.2.2.1)) (h : BFx P0 F0 A0 P F A) : po (e_Laws_tellsTo_157 K13 n P F A J r0 x3 x4 x5 x6 x7) (fun r => BFx P0 F0 A0 r.2.1 r.2.2.1 r.2.2.2.1) := by
  unfold e_Laws_tellsTo_157
  repeat' (first
    | with_reducible exact po_some (by assumption)
    | (with_reducible refine bf_pf (by assumption) (by decide) ?_; intro _ _)
    | (with_reducible refine bf_st (by assumption) (by decide) ?_; intro _ _)
    | (with_reducible refine bf_sw (by assumption) (by decide) ?_; intro _ _)
    | (with_reducible refine bf_fi (by assumption) (by decide) ?_; intro _ _)
    | with_reducible refine bf_e_Laws_tellsTo_192 ?_ (by assumption)
    | (with_reducible refine po_call (bf_e_Laws_tellsTo_192 ?_ (by assumption)) ?_)
    | with_reducible exact hK13 _ _ _ _ _ _ _ _ (by assumption)
    | (intros; with_reducible exact hK13 _ _ _ _ _ _ _ _ (by assumption))
    | with_reducible refine po_cond (fun _ => ?_) (fun _ => ?_)
    | with_reducible refine po_bind_cond (fun _ => ?_) (fun _ => ?_)
    | with_reducible refine po_bl (fun _ _ => ?_))
theorem bf_e_Laws_tellsTo_13   : ∀ {n : Nat} {P : Nat → Nat → Nat} {F : Nat → Nat → Int32} {A : Nat → Nat → Nat → Int32} {J : Nat → Nat → Nat → Int64} {r0 : Nat} {x3 : Int32} {x4 : Int32} {x5 : Int32}, BFx P0 F0 A0 P F A → po (e_Laws_tellsTo_13  n P F A J r0 x3 x4 x5) (fun r => BFx P0 F0 A0 r.2.1 r.2.2.1 r.2.2.2.1) := by
  intro n
  induction n with
  | zero => intro P F A J r0 x3 x4 x5 _ r hr; cases hr
  | succ n ih =>
    intro P F A J r0 x3 x4 x5 h
    unfold e_Laws_tellsTo_13
    repeat' (first
      | with_reducible exact po_some (by assumption)
      | (with_reducible refine bf_pf (by assumption) (by decide) ?_; intro _ _)
      | (with_reducible refine bf_st (by assumption) (by decide) ?_; intro _ _)
      | (with_reducible refine bf_sw (by assumption) (by decide) ?_; intro _ _)
      | (with_reducible refine bf_fi (by assumption) (by decide) ?_; intro _ _)
      | with_reducible exact bf_e_Laws_tellsTo_233 (by assumption)
      | (with_reducible refine po_call (bf_e_Laws_tellsTo_233 (by assumption)) ?_; rintro ⟨_, _, _, _, _⟩ _; try dsimp only)
      | with_reducible refine bf_e_Laws_tellsTo_88 ?_ (by assumption)
      | (with_reducible refine po_call (bf_e_Laws_tellsTo_88 ?_ (by assumption)) ?_)
      | with_reducible exact bf_e_Laws_tellsTo_153 (by assumption)
      | (with_reducible refine po_call (bf_e_Laws_tellsTo_153 (by assumption)) ?_; rintro ⟨_, _, _, _, _⟩ _; try dsimp only)
      | with_reducible refine bf_e_Laws_tellsTo_157 ?_ (by assumption)
      | (with_reducible refine po_call (bf_e_Laws_tellsTo_157 ?_ (by assumption)) ?_)
      | with_reducible exact ih (by assumption)
      | (with_reducible refine po_call (ih (by assumption)) ?_; rintro ⟨_, _, _, _, _⟩ _; try dsimp only)
      | (intros; with_reducible exact ih (by assumption))
      | with_reducible refine po_cond (fun _ => ?_) (fun _ => ?_)
      | with_reducible refine po_bind_cond (fun _ => ?_) (fun _ => ?_)
      | with_reducible refine po_bl (fun _ _ => ?_))
theorem bf_e_Laws_tellsTo {n : Nat} {P : Nat → Nat → Nat} {F : Nat → Nat → Int32} {A : Nat → Nat → Nat → Int32} {J : Nat → Nat → Nat → Int64} {r0 : Nat} {x1 : Int32}  (h : BFx P0 F0 A0 P F A) : po (e_Laws_tellsTo n P F A J r0 x1) (fun r => BFx P0 F0 A0 r.2.1 r.2.2.1 r.2.2.2.1) := by
  unfold e_Laws_tellsTo
  repeat' (first
    | with_reducible exact po_some (by assumption)
    | (with_reducible refine bf_pf (by assumption) (by decide) ?_; intro _ _)
    | (with_reducible refine bf_st (by assumption) (by decide) ?_; intro _ _)
    | (with_reducible refine bf_sw (by assumption) (by decide) ?_; intro _ _)
    | (with_reducible refine bf_fi (by assumption) (by decide) ?_; intro _ _)
    | with_reducible exact bf_e_Laws_tellsTo_13 (by assumption)
    | (with_reducible refine po_call (bf_e_Laws_tellsTo_13 (by assumption)) ?_; rintro ⟨_, _, _, _, _⟩ _; try dsimp only)
    | with_reducible refine po_cond (fun _ => ?_) (fun _ => ?_)
    | with_reducible refine po_bind_cond (fun _ => ?_) (fun _ => ?_)
    | with_reducible refine po_bl (fun _ _ => ?_))
theorem bf_e_Sleep_chosenStep {n : Nat} {P : Nat → Nat → Nat} {F : Nat → Nat → Int32} {A : Nat → Nat → Nat → Int32} {J : Nat → Nat → Nat → Int64} {x1 : Int32} {x2 : Int32} {x3 : Int32}  (h : BFx P0 F0 A0 P F A) : po (e_Sleep_chosenStep n P F A J x1 x2 x3) (fun r => BFx P0 F0 A0 r.2.1 r.2.2.1 r.2.2.2.1) := by
  unfold e_Sleep_chosenStep
  repeat' (first
    | with_reducible exact po_some (by assumption)
    | (with_reducible refine bf_pf (by assumption) (by decide) ?_; intro _ _)
    | (with_reducible refine bf_st (by assumption) (by decide) ?_; intro _ _)
    | (with_reducible refine bf_sw (by assumption) (by decide) ?_; intro _ _)
    | (with_reducible refine bf_fi (by assumption) (by decide) ?_; intro _ _)
    | with_reducible exact bf_e_Laws_tellsTo (by assumption)
    | (with_reducible refine po_call (bf_e_Laws_tellsTo (by assumption)) ?_; rintro ⟨_, _, _, _, _⟩ _; try dsimp only)
    | with_reducible refine po_cond (fun _ => ?_) (fun _ => ?_)
    | with_reducible refine po_bind_cond (fun _ => ?_) (fun _ => ?_)
    | with_reducible refine po_bl (fun _ _ => ?_))
theorem bf_e_Sleep_lieDown {P : Nat → Nat → Nat} {F : Nat → Nat → Int32} {A : Nat → Nat → Nat → Int32} {J : Nat → Nat → Nat → Int64} {x1 : Int32} {x2 : Int32}  (h : BFx P0 F0 A0 P F A) : po (e_Sleep_lieDown P F A J x1 x2) (fun r => BFx P0 F0 A0 r.2.1 r.2.2.1 r.2.2.2.1) := by
  unfold e_Sleep_lieDown
  repeat' (first
    | with_reducible exact po_some (by assumption)
    | (with_reducible refine bf_pf (by assumption) (by decide) ?_; intro _ _)
    | (with_reducible refine bf_st (by assumption) (by decide) ?_; intro _ _)
    | (with_reducible refine bf_sw (by assumption) (by decide) ?_; intro _ _)
    | (with_reducible refine bf_fi (by assumption) (by decide) ?_; intro _ _)
    | with_reducible refine po_cond (fun _ => ?_) (fun _ => ?_)
    | with_reducible refine po_bind_cond (fun _ => ?_) (fun _ => ?_)
    | with_reducible refine po_bl (fun _ _ => ?_))
theorem bf_e_Sleep_begin_59 {n : Nat} {P : Nat → Nat → Nat} {F : Nat → Nat → Int32} {A : Nat → Nat → Nat → Int32} {J : Nat → Nat → Nat → Int64} {x1 : Int32} {x2 : Int32} {s1 : Int32} {s2 : Int32}  (h : BFx P0 F0 A0 P F A) : po (e_Sleep_begin_59 n P F A J x1 x2 s1 s2) (fun r => BFx P0 F0 A0 r.2.1 r.2.2.1 r.2.2.2.1) := by
  unfold e_Sleep_begin_59
  repeat' (first
    | with_reducible exact po_some (by assumption)
    | (with_reducible refine bf_pf (by assumption) (by decide) ?_; intro _ _)
    | (with_reducible refine bf_st (by assumption) (by decide) ?_; intro _ _)
    | (with_reducible refine bf_sw (by assumption) (by decide) ?_; intro _ _)
    | (with_reducible refine bf_fi (by assumption) (by decide) ?_; intro _ _)
    | with_reducible exact bf_e_Sleep_lieDown (by assumption)
    | (with_reducible refine po_call (bf_e_Sleep_lieDown (by assumption)) ?_; rintro ⟨_, _, _, _, _⟩ _; try dsimp only)
    | with_reducible refine po_cond (fun _ => ?_) (fun _ => ?_)
    | with_reducible refine po_bind_cond (fun _ => ?_) (fun _ => ?_)
    | with_reducible refine po_bl (fun _ _ => ?_))
theorem bf_e_Sleep_begin_44 {n : Nat} {P : Nat → Nat → Nat} {F : Nat → Nat → Int32} {A : Nat → Nat → Nat → Int32} {J : Nat → Nat → Nat → Int64} {x1 : Int32} {x2 : Int32} {x4 : Int32}  (h : BFx P0 F0 A0 P F A) : po (e_Sleep_begin_44 n P F A J x1 x2 x4) (fun r => BFx P0 F0 A0 r.2.1 r.2.2.1 r.2.2.2.1) := by
  unfold e_Sleep_begin_44
  repeat' (first
    | with_reducible exact po_some (by assumption)
    | (with_reducible refine bf_pf (by assumption) (by decide) ?_; intro _ _)
    | (with_reducible refine bf_st (by assumption) (by decide) ?_; intro _ _)
    | (with_reducible refine bf_sw (by assumption) (by decide) ?_; intro _ _)
    | (with_reducible refine bf_fi (by assumption) (by decide) ?_; intro _ _)
    | with_reducible exact bf_e_Sleep_begin_59 (by assumption)
    | (with_reducible refine po_call (bf_e_Sleep_begin_59 (by assumption)) ?_; rintro ⟨_, _, _, _, _⟩ _; try dsimp only)
    | with_reducible refine po_cond (fun _ => ?_) (fun _ => ?_)
    | with_reducible refine po_bind_cond (fun _ => ?_) (fun _ => ?_)
    | with_reducible refine po_bl (fun _ _ => ?_))
theorem bf_e_Sleep_nextMinute_5   : ∀ {n : Nat} {P : Nat → Nat → Nat} {F : Nat → Nat → Int32} {A : Nat → Nat → Nat → Int32} {J : Nat → Nat → Nat → Int64} {x1 : Int32} {x2 : Int32}, BFx P0 F0 A0 P F A → po (e_Sleep_nextMinute_5  n P F A J x1 x2) (fun r => BFx P0 F0 A0 r.2.1 r.2.2.1 r.2.2.2.1) := by
  intro n
  induction n with
  | zero => intro P F A J x1 x2 _ r hr; cases hr
  | succ n ih =>
    intro P F A J x1 x2 h
    unfold e_Sleep_nextMinute_5
    repeat' (first
      | with_reducible exact po_some (by assumption)
      | (with_reducible refine bf_pf (by assumption) (by decide) ?_; intro _ _)
      | (with_reducible refine bf_st (by assumption) (by decide) ?_; intro _ _)
      | (with_reducible refine bf_sw (by assumption) (by decide) ?_; intro _ _)
      | (with_reducible refine bf_fi (by assumption) (by decide) ?_; intro _ _)
      | with_reducible exact ih (by assumption)
      | (with_reducible refine po_call (ih (by assumption)) ?_; rintro ⟨_, _, _, _, _⟩ _; try dsimp only)
      | (intros; with_reducible exact ih (by assumption))
      | with_reducible refine po_cond (fun _ => ?_) (fun _ => ?_)
      | with_reducible refine po_bind_cond (fun _ => ?_) (fun _ => ?_)
      | with_reducible refine po_bl (fun _ _ => ?_))
theorem bf_e_Sleep_nextMinute {n : Nat} {P : Nat → Nat → Nat} {F : Nat → Nat → Int32} {A : Nat → Nat → Nat → Int32} {J : Nat → Nat → Nat → Int64}  (h : BFx P0 F0 A0 P F A) : po (e_Sleep_nextMinute n P F A J) (fun r => BFx P0 F0 A0 r.2.1 r.2.2.1 r.2.2.2.1) := by
  unfold e_Sleep_nextMinute
  repeat' (first
    | with_reducible exact po_some (by assumption)
    | (with_reducible refine bf_pf (by assumption) (by decide) ?_; intro _ _)
    | (with_reducible refine bf_st (by assumption) (by decide) ?_; intro _ _)
    | (with_reducible refine bf_sw (by assumption) (by decide) ?_; intro _ _)
    | (with_reducible refine bf_fi (by assumption) (by decide) ?_; intro _ _)
    | with_reducible exact bf_e_Sleep_nextMinute_5 (by assumption)
    | (with_reducible refine po_call (bf_e_Sleep_nextMinute_5 (by assumption)) ?_; rintro ⟨_, _, _, _, _⟩ _; try dsimp only)
    | with_reducible refine po_cond (fun _ => ?_) (fun _ => ?_)
    | with_reducible refine po_bind_cond (fun _ => ?_) (fun _ => ?_)
    | with_reducible refine po_bl (fun _ _ => ?_))
theorem bf_e_Ways_between_27 {n : Nat} {P : Nat → Nat → Nat} {F : Nat → Nat → Int32} {A : Nat → Nat → Nat → Int32} {J : Nat → Nat → Nat → Int64} {x3 : Int32} {x4 : Int32}  (h : BFx P0 F0 A0 P F A) : po (e_Ways_between_27 n P F A J x3 x4) (fun r => BFx P0 F0 A0 r.2.1 r.2.2.1 r.2.2.2.1) := by
  unfold e_Ways_between_27
  repeat' (first
    | with_reducible exact po_some (by assumption)
    | (with_reducible refine bf_pf (by assumption) (by decide) ?_; intro _ _)
    | (with_reducible refine bf_st (by assumption) (by decide) ?_; intro _ _)
    | (with_reducible refine bf_sw (by assumption) (by decide) ?_; intro _ _)
    | (with_reducible refine bf_fi (by assumption) (by decide) ?_; intro _ _)
    | with_reducible refine po_cond (fun _ => ?_) (fun _ => ?_)
    | with_reducible refine po_bind_cond (fun _ => ?_) (fun _ => ?_)
    | with_reducible refine po_bl (fun _ _ => ?_))
theorem bf_e_Ways_takeDoors_127 {K39 : (Nat → Nat → Nat) → (Nat → Nat → Int32) → (Nat → Nat → Nat → Int32) → (Nat → Nat → Nat → Int64) → Nat → Int32 → Int32 → Option (Unit × (Nat → Nat → Nat) × (Nat → Nat → Int32) × (Nat → Nat → Nat → Int32) × (Nat → Nat → Nat → Int64))} {n : Nat} {P : Nat → Nat → Nat} {F : Nat → Nat → Int32} {A : Nat → Nat → Nat → Int32} {J : Nat → Nat → Nat → Int64} {r1 : Nat} {x2 : Int32} {x3 : Int32} (hK39 : ∀ (a0 : Nat → Nat → Nat) (a1 : Nat → Nat → Int32) (a2 : Nat → Nat → Nat → Int32) (a3 : Nat → Nat → Nat → Int64) (a4 : Nat) (a5 : Int32) (a6 : Int32), BFx P0 F0 A0 a0 a1 a2 → po (K39 a0 a1 a2 a3 a4 a5 a6) (fun r => BFx P0 F0 A0 r.2.1 r.2.2.1 r.2.2.2.1)) (h : BFx P0 F0 A0 P F A) : po (e_Ways_takeDoors_127 K39 n P F A J r1 x2 x3) (fun r => BFx P0 F0 A0 r.2.1 r.2.2.1 r.2.2.2.1) := by
  unfold e_Ways_takeDoors_127
  repeat' (first
    | with_reducible exact po_some (by assumption)
    | (with_reducible refine bf_pf (by assumption) (by decide) ?_; intro _ _)
    | (with_reducible refine bf_st (by assumption) (by decide) ?_; intro _ _)
    | (with_reducible refine bf_sw (by assumption) (by decide) ?_; intro _ _)
    | (with_reducible refine bf_fi (by assumption) (by decide) ?_; intro _ _)
    | with_reducible exact hK39 _ _ _ _ _ _ _ (by assumption)
    | (intros; with_reducible exact hK39 _ _ _ _ _ _ _ (by assumption))
    | with_reducible refine po_cond (fun _ => ?_) (fun _ => ?_)
    | with_reducible refine po_bind_cond (fun _ => ?_) (fun _ => ?_)
    | with_reducible refine po_bl (fun _ _ => ?_))
theorem bf_e_Ways_takeDoors_39   : ∀ {n : Nat} {P : Nat → Nat → Nat} {F : Nat → Nat → Int32} {A : Nat → Nat → Nat → Int32} {J : Nat → Nat → Nat → Int64} {r1 : Nat} {x2 : Int32} {x3 : Int32}, BFx P0 F0 A0 P F A → po (e_Ways_takeDoors_39  n P F A J r1 x2 x3) (fun r => BFx P0 F0 A0 r.2.1 r.2.2.1 r.2.2.2.1) := by
  intro n
  induction n with
  | zero => intro P F A J r1 x2 x3 _ r hr; cases hr
  | succ n ih =>
    intro P F A J r1 x2 x3 h
    unfold e_Ways_takeDoors_39
    repeat' (first
      | with_reducible exact po_some (by assumption)
      | (with_reducible refine bf_pf (by assumption) (by decide) ?_; intro _ _)
      | (with_reducible refine bf_st (by assumption) (by decide) ?_; intro _ _)
      | (with_reducible refine bf_sw (by assumption) (by decide) ?_; intro _ _)
      | (with_reducible refine bf_fi (by assumption) (by decide) ?_; intro _ _)
      | with_reducible refine bf_e_Ways_takeDoors_127 ?_ (by assumption)
      | (with_reducible refine po_call (bf_e_Ways_takeDoors_127 ?_ (by assumption)) ?_)
      | with_reducible exact ih (by assumption)
      | (with_reducible refine po_call (ih (by assumption)) ?_; rintro ⟨_, _, _, _, _⟩ _; try dsimp only)
      | (intros; with_reducible exact ih (by assumption))
      | with_reducible refine po_cond (fun _ => ?_) (fun _ => ?_)
      | with_reducible refine po_bind_cond (fun _ => ?_) (fun _ => ?_)
      | with_reducible refine po_bl (fun _ _ => ?_))
theorem bf_e_Ways_takeDoors_11   : ∀ {n : Nat} {P : Nat → Nat → Nat} {F : Nat → Nat → Int32} {A : Nat → Nat → Nat → Int32} {J : Nat → Nat → Nat → Int64} {r1 : Nat} {x2 : Int32} {x3 : Int32}, BFx P0 F0 A0 P F A → po (e_Ways_takeDoors_11  n P F A J r1 x2 x3) (fun r => BFx P0 F0 A0 r.2.1 r.2.2.1 r.2.2.2.1) := by
  intro n
  induction n with
  | zero => intro P F A J r1 x2 x3 _ r hr; cases hr
  | succ n ih =>
    intro P F A J r1 x2 x3 h
    unfold e_Ways_takeDoors_11
    repeat' (first
      | with_reducible exact po_some (by assumption)
      | (with_reducible refine bf_pf (by assumption) (by decide) ?_; intro _ _)
      | (with_reducible refine bf_st (by assumption) (by decide) ?_; intro _ _)
      | (with_reducible refine bf_sw (by assumption) (by decide) ?_; intro _ _)
      | (with_reducible refine bf_fi (by assumption) (by decide) ?_; intro _ _)
      | with_reducible exact bf_e_Ways_takeDoors_39 (by assumption)
      | (with_reducible refine po_call (bf_e_Ways_takeDoors_39 (by assumption)) ?_; rintro ⟨_, _, _, _, _⟩ _; try dsimp only)
      | with_reducible exact ih (by assumption)
      | (with_reducible refine po_call (ih (by assumption)) ?_; rintro ⟨_, _, _, _, _⟩ _; try dsimp only)
      | (intros; with_reducible exact ih (by assumption))
      | with_reducible refine po_cond (fun _ => ?_) (fun _ => ?_)
      | with_reducible refine po_bind_cond (fun _ => ?_) (fun _ => ?_)
      | with_reducible refine po_bl (fun _ _ => ?_))
theorem bf_e_Ways_takeDoors {n : Nat} {P : Nat → Nat → Nat} {F : Nat → Nat → Int32} {A : Nat → Nat → Nat → Int32} {J : Nat → Nat → Nat → Int64} {r1 : Nat} {x2 : Int32}  (h : BFx P0 F0 A0 P F A) : po (e_Ways_takeDoors n P F A J r1 x2) (fun r => BFx P0 F0 A0 r.2.1 r.2.2.1 r.2.2.2.1) := by
  unfold e_Ways_takeDoors
  repeat' (first
    | with_reducible exact po_some (by assumption)
    | (with_reducible refine bf_pf (by assumption) (by decide) ?_; intro _ _)
    | (with_reducible refine bf_st (by assumption) (by decide) ?_; intro _ _)
    | (with_reducible refine bf_sw (by assumption) (by decide) ?_; intro _ _)
    | (with_reducible refine bf_fi (by assumption) (by decide) ?_; intro _ _)
    | with_reducible exact bf_e_Ways_takeDoors_11 (by assumption)
    | (with_reducible refine po_call (bf_e_Ways_takeDoors_11 (by assumption)) ?_; rintro ⟨_, _, _, _, _⟩ _; try dsimp only)
    | with_reducible refine po_cond (fun _ => ?_) (fun _ => ?_)
    | with_reducible refine po_bind_cond (fun _ => ?_) (fun _ => ?_)
    | with_reducible refine po_bl (fun _ _ => ?_))
theorem bf_e_Ways_joinWays_97 {K2 : (Nat → Nat → Nat) → (Nat → Nat → Int32) → (Nat → Nat → Nat → Int32) → (Nat → Nat → Nat → Int64) → Int32 → Int32 → Option (Unit × (Nat → Nat → Nat) × (Nat → Nat → Int32) × (Nat → Nat → Nat → Int32) × (Nat → Nat → Nat → Int64))} {K9 : (Nat → Nat → Nat) → (Nat → Nat → Int32) → (Nat → Nat → Nat → Int32) → (Nat → Nat → Nat → Int64) → Int32 → Int32 → Int32 → Option (Unit × (Nat → Nat → Nat) × (Nat → Nat → Int32) × (Nat → Nat → Nat → Int32) × (Nat → Nat → Nat → Int64))} {n : Nat} {P : Nat → Nat → Nat} {F : Nat → Nat → Int32} {A : Nat → Nat → Nat → Int32} {J : Nat → Nat → Nat → Int64} {x1 : Int32} {x2 : Int32} {x3 : Int32} (hK2 : ∀ (a0 : Nat → Nat → Nat) (a1 : Nat → Nat → Int32) (a2 : Nat → Nat → Nat → Int32) (a3 : Nat → Nat → Nat → Int64) (a4 : Int32) (a5 : Int32), BFx P0 F0 A0 a0 a1 a2 → po (K2 a0 a1 a2 a3 a4 a5) (fun r => BFx P0 F0 A0 r.2.1 r.2.2.1 r.2.2.2.1)) (hK9 : ∀ (a0 : Nat → Nat → Nat) (a1 : Nat → Nat → Int32) (a2 : Nat → Nat → Nat → Int32) (a3 : Nat → Nat → Nat → Int64) (a4 : Int32) (a5 : Int32) (a6 : Int32), BFx P0 F0 A0 a0 a1 a2 → po (K9 a0 a1 a2 a3 a4 a5 a6) (fun r => BFx P0 F0 A0 r.2.1 r.2.2.1 r.2.2.2.1)) (h : BFx P0 F0 A0 P F A) : po (e_Ways_joinWays_97 K2 K9 n P F A J x1 x2 x3) (fun r => BFx P0 F0 A0 r.2.1 r.2.2.1 r.2.2.2.1) := by
  unfold e_Ways_joinWays_97
  repeat' (first
    | with_reducible exact po_some (by assumption)
    | (with_reducible refine bf_pf (by assumption) (by decide) ?_; intro _ _)
    | (with_reducible refine bf_st (by assumption) (by decide) ?_; intro _ _)
    | (with_reducible refine bf_sw (by assumption) (by decide) ?_; intro _ _)
    | (with_reducible refine bf_fi (by assumption) (by decide) ?_; intro _ _)
    | with_reducible exact hK2 _ _ _ _ _ _ (by assumption)
    | (intros; with_reducible exact hK2 _ _ _ _ _ _ (by assumption))
    | with_reducible exact hK9 _ _ _ _ _ _ _ (by assumption)
    | (intros; with_reducible exact hK9 _ _ _ _ _ _ _ (by assumption))
    | with_reducible refine po_cond (fun _ => ?_) (fun _ => ?_)
    | with_reducible refine po_bind_cond (fun _ => ?_) (fun _ => ?_)
    | with_reducible refine po_bl (fun _ _ => ?_))
theorem bf_e_Ways_joinWays_91 {K2 : (Nat → Nat → Nat) → (Nat → Nat → Int32) → (Nat → Nat → Nat → Int32) → (Nat → Nat → Nat → Int64) → Int32 → Int32 → Option (Unit × (Nat → Nat → Nat) × (Nat → Nat → Int32) × (Nat → Nat → Nat → Int32) × (Nat → Nat → Nat → Int64))} {K9 : (Nat → Nat → Nat) → (Nat → Nat → Int32) → (Nat → Nat → Nat → Int32) → (Nat → Nat → Nat → Int64) → Int32 → Int32 → Int32 → Option (Unit × (Nat → Nat → Nat) × (Nat → Nat → Int32) × (Nat → Nat → Nat → Int32) × (Nat → Nat → Nat → Int64))} {K30 : (Nat → Nat → Nat) → (Nat → Nat → Int32) → (Nat → Nat → Nat → Int32) → (Nat → Nat → Nat → Int64) → Int32 → Int32 → Int32 → Int32 → Int32 → Option (Unit × (Nat → Nat → Nat) × (Nat → Nat → Int32) × (Nat → Nat → Nat → Int32) × (Nat → Nat → Nat → Int64))} {n : Nat} {P : Nat → Nat → Nat} {F : Nat → Nat → Int32} {A : Nat → Nat → Nat → Int32} {J : Nat → Nat → Nat → Int64} {x1 : Int32} {x2 : Int32} {x3 : Int32} {x4 : Int32} {x5 : Int32} (hK2 : ∀ (a0 : Nat → Nat → Nat) (a1 : Nat → Nat → Int32) (a2 : Nat → Nat → Nat → Int32) (a3 : Nat → Nat → Nat → Int64) (a4 : Int32) (a5 : Int32), BFx P0 F0 A0 a0 a1 a2 → po (K2 a0 a1 a2 a3 a4 a5) (fun r => BFx P0 F0 A0 r.2.1 r.2.2.1 r.2.2.2.1)) (hK9 : ∀ (a0 : Nat → Nat → Nat) (a1 : Nat → Nat → Int32) (a2 : Nat → Nat → Nat → Int32) (a3 : Nat → Nat → Nat → Int64) (a4 : Int32) (a5 : Int32) (a6 : Int32), BFx P0 F0 A0 a0 a1 a2 → po (K9 a0 a1 a2 a3 a4 a5 a6) (fun r => BFx P0 F0 A0 r.2.1 r.2.2.1 r.2.2.2.1)) (hK30 : ∀ (a0 : Nat → Nat → Nat) (a1 : Nat → Nat → Int32) (a2 : Nat → Nat → Nat → Int32) (a3 : Nat → Nat → Nat → Int64) (a4 : Int32) (a5 : Int32) (a6 : Int32) (a7 : Int32) (a8 : Int32), BFx P0 F0 A0 a0 a1 a2 → po (K30 a0 a1 a2 a3 a4 a5 a6 a7 a8) (fun r => BFx P0 F0 A0 r.2.1 r.2.2.1 r.2.2.2.1)) (h : BFx P0 F0 A0 P F A) : po (e_Ways_joinWays_91 K2 K9 K30 n P F A J x1 x2 x3 x4 x5) (fun r => BFx P0 F0 A0 r.2.1 r.2.2.1 r.2.2.2.1) := by
  unfold e_Ways_joinWays_91
  repeat' (first
    | with_reducible exact po_some (by assumption)
    | (with_reducible refine bf_pf (by assumption) (by decide) ?_; intro _ _)
    | (with_reducible refine bf_st (by assumption) (by decide) ?_; intro _ _)
    | (with_reducible refine bf_sw (by assumption) (by decide) ?_; intro _ _)
    | (with_reducible refine bf_fi (by assumption) (by decide) ?_; intro _ _)
    | with_reducible exact hK2 _ _ _ _ _ _ (by assumption)
    | (intros; with_reducible exact hK2 _ _ _ _ _ _ (by assumption))
    | with_reducible exact hK9 _ _ _ _ _ _ _ (by assumption)
    | (intros; with_reducible exact hK9 _ _ _ _ _ _ _ (by assumption))
    | with_reducible exact hK30 _ _ _ _ _ _ _ _ _ (by assumption)
    | (intros; with_reducible exact hK30 _ _ _ _ _ _ _ _ _ (by assumption))
    | with_reducible refine po_cond (fun _ => ?_) (fun _ => ?_)
    | with_reducible refine po_bind_cond (fun _ => ?_) (fun _ => ?_)
    | with_reducible refine po_bl (fun _ _ => ?_))
theorem bf_e_Ways_joinWays_30 {K2 : (Nat → Nat → Nat) → (Nat → Nat → Int32) → (Nat → Nat → Nat → Int32) → (Nat → Nat → Nat → Int64) → Int32 → Int32 → Option (Unit × (Nat → Nat → Nat) × (Nat → Nat → Int32) × (Nat → Nat → Nat → Int32) × (Nat → Nat → Nat → Int64))} {K9 : (Nat → Nat → Nat) → (Nat → Nat → Int32) → (Nat → Nat → Nat → Int32) → (Nat → Nat → Nat → Int64) → Int32 → Int32 → Int32 → Option (Unit × (Nat → Nat → Nat) × (Nat → Nat → Int32) × (Nat → Nat → Nat → Int32) × (Nat → Nat → Nat → Int64))} (hK2 : ∀ (a0 : Nat → Nat → Nat) (a1 : Nat → Nat → Int32) (a2 : Nat → Nat → Nat → Int32) (a3 : Nat → Nat → Nat → Int64) (a4 : Int32) (a5 : Int32), BFx P0 F0 A0 a0 a1 a2 → po (K2 a0 a1 a2 a3 a4 a5) (fun r => BFx P0 F0 A0 r.2.1 r.2.2.1 r.2.2.2.1)) (hK9 : ∀ (a0 : Nat → Nat → Nat) (a1 : Nat → Nat → Int32) (a2 : Nat → Nat → Nat → Int32) (a3 : Nat → Nat → Nat → Int64) (a4 : Int32) (a5 : Int32) (a6 : Int32), BFx P0 F0 A0 a0 a1 a2 → po (K9 a0 a1 a2 a3 a4 a5 a6) (fun r => BFx P0 F0 A0 r.2.1 r.2.2.1 r.2.2.2.1)) : ∀ {n : Nat} {P : Nat → Nat → Nat} {F : Nat → Nat → Int32} {A : Nat → Nat → Nat → Int32} {J : Nat → Nat → Nat → Int64} {x1 : Int32} {x2 : Int32} {x3 : Int32} {x4 : Int32} {x5 : Int32}, BFx P0 F0 A0 P F A → po (e_Ways_joinWays_30 K2 K9 n P F A J x1 x2 x3 x4 x5) (fun r => BFx P0 F0 A0 r.2.1 r.2.2.1 r.2.2.2.1) := by
  intro n
  induction n with
  | zero => intro P F A J x1 x2 x3 x4 x5 _ r hr; cases hr
  | succ n ih =>
    intro P F A J x1 x2 x3 x4 x5 h
    unfold e_Ways_joinWays_30
    repeat' (first
      | with_reducible exact po_some (by assumption)
      | (with_reducible refine bf_pf (by assumption) (by decide) ?_; intro _ _)
      | (with_reducible refine bf_st (by assumption) (by decide) ?_; intro _ _)
      | (with_reducible refine bf_sw (by assumption) (by decide) ?_; intro _ _)
      | (with_reducible refine bf_fi (by assumption) (by decide) ?_; intro _ _)
      | with_reducible refine bf_e_Ways_joinWays_97 ?_ ?_ (by assumption)
      | (with_reducible refine po_call (bf_e_Ways_joinWays_97 ?_ ?_ (by assumption)) ?_)
      | with_reducible refine bf_e_Ways_joinWays_91 ?_ ?_ ?_ (by assumption)
      | (with_reducible refine po_call (bf_e_Ways_joinWays_91 ?_ ?_ ?_ (by assumption)) ?_)
      | with_reducible exact hK2 _ _ _ _ _ _ (by assumption)
      | (intros; with_reducible exact hK2 _ _ _ _ _ _ (by assumption))
      | with_reducible exact hK9 _ _ _ _ _ _ _ (by assumption)
      | (intros; with_reducible exact hK9 _ _ _ _ _ _ _ (by assumption))
      | with_reducible exact ih (by assumption)
      | (with_reducible refine po_call (ih (by assumption)) ?_; rintro ⟨_, _, _, _, _⟩ _; try dsimp only)
      | (intros; with_reducible exact ih (by assumption))
      | with_reducible refine po_cond (fun _ => ?_) (fun _ => ?_)
      | with_reducible refine po_bind_cond (fun _ => ?_) (fun _ => ?_)
      | with_reducible refine po_bl (fun _ _ => ?_))
theorem bf_e_Ways_joinWays_9 {K2 : (Nat → Nat → Nat) → (Nat → Nat → Int32) → (Nat → Nat → Nat → Int32) → (Nat → Nat → Nat → Int64) → Int32 → Int32 → Option (Unit × (Nat → Nat → Nat) × (Nat → Nat → Int32) × (Nat → Nat → Nat → Int32) × (Nat → Nat → Nat → Int64))} (hK2 : ∀ (a0 : Nat → Nat → Nat) (a1 : Nat → Nat → Int32) (a2 : Nat → Nat → Nat → Int32) (a3 : Nat → Nat → Nat → Int64) (a4 : Int32) (a5 : Int32), BFx P0 F0 A0 a0 a1 a2 → po (K2 a0 a1 a2 a3 a4 a5) (fun r => BFx P0 F0 A0 r.2.1 r.2.2.1 r.2.2.2.1)) : ∀ {n : Nat} {P : Nat → Nat → Nat} {F : Nat → Nat → Int32} {A : Nat → Nat → Nat → Int32} {J : Nat → Nat → Nat → Int64} {x1 : Int32} {x2 : Int32} {x3 : Int32}, BFx P0 F0 A0 P F A → po (e_Ways_joinWays_9 K2 n P F A J x1 x2 x3) (fun r => BFx P0 F0 A0 r.2.1 r.2.2.1 r.2.2.2.1) := by
  intro n
  induction n with
  | zero => intro P F A J x1 x2 x3 _ r hr; cases hr
  | succ n ih =>
    intro P F A J x1 x2 x3 h
    unfold e_Ways_joinWays_9
    repeat' (first
      | with_reducible exact po_some (by assumption)
      | (with_reducible refine bf_pf (by assumption) (by decide) ?_; intro _ _)
      | (with_reducible refine bf_st (by assumption) (by decide) ?_; intro _ _)
      | (with_reducible refine bf_sw (by assumption) (by decide) ?_; intro _ _)
      | (with_reducible refine bf_fi (by assumption) (by decide) ?_; intro _ _)
      | with_reducible refine bf_e_Ways_joinWays_30 ?_ ?_ (by assumption)
      | (with_reducible refine po_call (bf_e_Ways_joinWays_30 ?_ ?_ (by assumption)) ?_)
      | with_reducible exact hK2 _ _ _ _ _ _ (by assumption)
      | (intros; with_reducible exact hK2 _ _ _ _ _ _ (by assumption))
      | with_reducible exact ih (by assumption)
      | (with_reducible refine po_call (ih (by assumption)) ?_; rintro ⟨_, _, _, _, _⟩ _; try dsimp only)
      | (intros; with_reducible exact ih (by assumption))
      | with_reducible refine po_cond (fun _ => ?_) (fun _ => ?_)
      | with_reducible refine po_bind_cond (fun _ => ?_) (fun _ => ?_)
      | with_reducible refine po_bl (fun _ _ => ?_))
theorem bf_e_Ways_joinWays_2   : ∀ {n : Nat} {P : Nat → Nat → Nat} {F : Nat → Nat → Int32} {A : Nat → Nat → Nat → Int32} {J : Nat → Nat → Nat → Int64} {x1 : Int32} {x2 : Int32}, BFx P0 F0 A0 P F A → po (e_Ways_joinWays_2  n P F A J x1 x2) (fun r => BFx P0 F0 A0 r.2.1 r.2.2.1 r.2.2.2.1) := by
  intro n
  induction n with
  | zero => intro P F A J x1 x2 _ r hr; cases hr
  | succ n ih =>
    intro P F A J x1 x2 h
    unfold e_Ways_joinWays_2
    repeat' (first
      | with_reducible exact po_some (by assumption)
      | (with_reducible refine bf_pf (by assumption) (by decide) ?_; intro _ _)
      | (with_reducible refine bf_st (by assumption) (by decide) ?_; intro _ _)
      | (with_reducible refine bf_sw (by assumption) (by decide) ?_; intro _ _)
      | (with_reducible refine bf_fi (by assumption) (by decide) ?_; intro _ _)
      | with_reducible refine bf_e_Ways_joinWays_9 ?_ (by assumption)
      | (with_reducible refine po_call (bf_e_Ways_joinWays_9 ?_ (by assumption)) ?_)
      | with_reducible exact ih (by assumption)
      | (with_reducible refine po_call (ih (by assumption)) ?_; rintro ⟨_, _, _, _, _⟩ _; try dsimp only)
      | (intros; with_reducible exact ih (by assumption))
      | with_reducible refine po_cond (fun _ => ?_) (fun _ => ?_)
      | with_reducible refine po_bind_cond (fun _ => ?_) (fun _ => ?_)
      | with_reducible refine po_bl (fun _ _ => ?_))
theorem bf_e_Ways_joinWays {n : Nat} {P : Nat → Nat → Nat} {F : Nat → Nat → Int32} {A : Nat → Nat → Nat → Int32} {J : Nat → Nat → Nat → Int64} {x1 : Int32}  (h : BFx P0 F0 A0 P F A) : po (e_Ways_joinWays n P F A J x1) (fun r => BFx P0 F0 A0 r.2.1 r.2.2.1 r.2.2.2.1) := by
  unfold e_Ways_joinWays
  repeat' (first
    | with_reducible exact po_some (by assumption)
    | (with_reducible refine bf_pf (by assumption) (by decide) ?_; intro _ _)
    | (with_reducible refine bf_st (by assumption) (by decide) ?_; intro _ _)
    | (with_reducible refine bf_sw (by assumption) (by decide) ?_; intro _ _)
    | (with_reducible refine bf_fi (by assumption) (by decide) ?_; intro _ _)
    | with_reducible exact bf_e_Ways_joinWays_2 (by assumption)
    | (with_reducible refine po_call (bf_e_Ways_joinWays_2 (by assumption)) ?_; rintro ⟨_, _, _, _, _⟩ _; try dsimp only)
    | with_reducible refine po_cond (fun _ => ?_) (fun _ => ?_)
    | with_reducible refine po_bind_cond (fun _ => ?_) (fun _ => ?_)
    | with_reducible refine po_bl (fun _ _ => ?_))
theorem bf_e_Ways_between {n : Nat} {P : Nat → Nat → Nat} {F : Nat → Nat → Int32} {A : Nat → Nat → Nat → Int32} {J : Nat → Nat → Nat → Int64} {r1 : Nat} {x2 : Int32} {x3 : Int32} {x4 : Int32}  (h : BFx P0 F0 A0 P F A) : po (e_Ways_between n P F A J r1 x2 x3 x4) (fun r => BFx P0 F0 A0 r.2.1 r.2.2.1 r.2.2.2.1) := by
  unfold e_Ways_between
  repeat' (first
    | with_reducible exact po_some (by assumption)
    | (with_reducible refine bf_pf (by assumption) (by decide) ?_; intro _ _)
    | (with_reducible refine bf_st (by assumption) (by decide) ?_; intro _ _)
    | (with_reducible refine bf_sw (by assumption) (by decide) ?_; intro _ _)
    | (with_reducible refine bf_fi (by assumption) (by decide) ?_; intro _ _)
    | with_reducible exact bf_e_Ways_between_27 (by assumption)
    | (with_reducible refine po_call (bf_e_Ways_between_27 (by assumption)) ?_; rintro ⟨_, _, _, _, _⟩ _; try dsimp only)
    | with_reducible exact bf_e_Ways_takeDoors (by assumption)
    | (with_reducible refine po_call (bf_e_Ways_takeDoors (by assumption)) ?_; rintro ⟨_, _, _, _, _⟩ _; try dsimp only)
    | with_reducible exact bf_e_Ways_joinWays (by assumption)
    | (with_reducible refine po_call (bf_e_Ways_joinWays (by assumption)) ?_; rintro ⟨_, _, _, _, _⟩ _; try dsimp only)
    | with_reducible refine po_cond (fun _ => ?_) (fun _ => ?_)
    | with_reducible refine po_bind_cond (fun _ => ?_) (fun _ => ?_)
    | with_reducible refine po_bl (fun _ _ => ?_))
end H9fq
end Qz154
section Qz155
/-! what is done and what there is to do: never more than there was; what it may be worth -/
section H9fr
variable {h q : Nat} {M C d : Int} {P P' : Nat → Nat → Nat} {F F' F1 : Nat → Nat → Int32} {A A' A1 : Nat → Nat → Nat → Int32} {J : Nat → Nat → Nat → Int64} {Fm Fm' : Nat → Int32} {Am Am' : Nat → Nat → Int32} {Jm : Nat → Nat → Int64} {x1 x2 x3 x4 x5 x6 : Int32}
/-- the sum of a row's first entries -/
def sm (g : Int → Int) : Nat → Int
  | 0 => 0
  | n + 1 => sm g n + g (n : Int)
theorem sm_s (g : Int → Int) (n : Nat) : sm g (n + 1) = sm g n + g (n : Int) := rfl
theorem sm_cg {g g' : Int → Int} : ∀ {n : Nat}, (∀ i, 0 ≤ i → i < (n : Int) → g' i = g i) → sm g' n = sm g n
  | 0, _ => rfl
  | n + 1, h => by rw [sm_s, sm_s, sm_cg (n := n) (fun i i0 i1 => h i i0 (by omega)), h n (by omega) (by omega)]
theorem sm_z {g : Int → Int} : ∀ {n : Nat}, (∀ i, 0 ≤ i → i < (n : Int) → g i = 0) → sm g n = 0
  | 0, _ => rfl
  | n + 1, h => by
    rw [sm_s, sm_z (n := n) (fun i i0 i1 => h i i0 (by omega)), h n (by omega) (by omega)]
    rfl
theorem sm_st {g g' : Int → Int} {i : Int} (i0 : 0 ≤ i) (hn : ∀ j, 0 ≤ j → j ≠ i → g' j = g j) : ∀ {n : Nat}, (i < (n : Int) → sm g' n = sm g n + (g' i - g i)) ∧ ((n : Int) ≤ i → sm g' n = sm g n)
  | 0 => ⟨fun z => absurd z (by omega), fun _ => rfl⟩
  | n + 1 => by
    obtain ⟨a, b⟩ := sm_st i0 hn (n := n)
    refine ⟨fun z => ?_, fun z => ?_⟩
    · rw [sm_s, sm_s]
      by_cases e : i = (n : Int)
      · rw [b (by omega), ← e]
        omega
      · rw [a (by omega), hn n (by omega) (fun w => e w.symm)]
        omega
    · rw [sm_s, sm_s, b (by omega), hn n (by omega) (by omega)]
theorem sm_0 {g : Int → Int} : ∀ {n : Nat}, (∀ i, 0 ≤ i → i < (n : Int) → 0 ≤ g i) → 0 ≤ sm g n
  | 0, _ => Int.le_refl _
  | n + 1, h => by
    have a := sm_0 (n := n) (fun i i0 i1 => h i i0 (by omega))
    have b := h n (by omega) (by omega)
    rw [sm_s]
    omega
theorem sm_mono {g : Int → Int} {k : Nat} : ∀ {n : Nat}, k ≤ n → (∀ i, 0 ≤ i → i < (n : Int) → 0 ≤ g i) → sm g k ≤ sm g n
  | 0, hk, _ => by
    obtain rfl : k = 0 := by omega
    exact Int.le_refl _
  | n + 1, hk, h => by
    by_cases e : k = n + 1
    · rw [e]
      exact Int.le_refl _
    · have a := sm_mono (k := k) (n := n) (by omega) (fun i i0 i1 => h i i0 (by omega))
      have b := h n (by omega) (by omega)
      rw [sm_s]
      omega
theorem sm_le {g : Int → Int} {i : Int} {n : Nat} (i0 : 0 ≤ i) (i1 : i < (n : Int)) (h : ∀ j, 0 ≤ j → j < (n : Int) → 0 ≤ g j) : g i ≤ sm g n := by
  have a := sm_mono (k := i.toNat + 1) (n := n) (by omega) h
  have b := sm_0 (n := i.toNat) (fun j j0 j1 => h j j0 (by omega))
  rw [sm_s, show ((i.toNat : Nat) : Int) = i by omega] at a
  omega
/-- who does something -/
def dgi (A : Nat → Nat → Nat → Int32) (m : Int) : Int := if 0 ≤ ci A 36 4 m then 1 else 0
theorem dgi_fr (e : A' 36 4 = A 36 4) : dgi A' = dgi A := by
  funext m
  unfold dgi
  rw [ci_fr e]
/-- what is done and what there is to do, of an evening -/
def BDs (q : Nat) (C : Int) (A : Nat → Nat → Nat → Int32) : Prop := (∀ i : Int, 0 ≤ i → i < 36 → 0 ≤ ci A q 1 i) ∧ (∀ i : Int, 0 ≤ i → i < 6 → 0 ≤ ci A q 2 i) ∧ sm (ci A q 1) 36 + sm (ci A q 2) 6 ≤ C
/-- the same within a night -/
def BDn (h q : Nat) (M C : Int) (P : Nat → Nat → Nat) (F : Nat → Nat → Int32) (A : Nat → Nat → Nat → Int32) : Prop := (P 36 8 = h ∧ P 36 9 = q ∧ (F h 17).toInt = M) ∧ (∀ i : Int, 0 ≤ i → i < 36 → 0 ≤ ci A q 1 i) ∧ (∀ i : Int, 0 ≤ i → i < 6 → 0 ≤ ci A q 2 i) ∧ sm (ci A q 1) 36 + sm (ci A q 2) 6 + sm (dgi A) M.toNat ≤ C
theorem BDn.mono {C' : Int} (B : BDn h q M C P F A) (e : C ≤ C') : BDn h q M C' P F A := ⟨B.1, B.2.1, B.2.2.1, Int.le_trans B.2.2.2 e⟩
theorem dgi_0 {i : Int} : 0 ≤ dgi A i ∧ dgi A i ≤ 1 := by
  unfold dgi
  by_cases z : 0 ≤ ci A 36 4 i
  · rw [if_pos z]
    decide
  · rw [if_neg z]
    decide
theorem BDn.le {i : Int} (B : BDn h q M C P F A) (i0 : 0 ≤ i) (i1 : i < 36) : ci A q 1 i ≤ C := by
  obtain ⟨-, n1, n2, s⟩ := B
  have a := sm_le (g := ci A q 1) (n := 36) i0 (by omega) (fun j j0 j1 => n1 j j0 (by omega))
  have b := sm_0 (g := ci A q 2) (n := 6) (fun j j0 j1 => n2 j j0 (by omega))
  have c := sm_0 (g := dgi A) (n := M.toNat) (fun j _ _ => dgi_0.1)
  omega
theorem BDn.le2 {i : Int} (B : BDn h q M C P F A) (i0 : 0 ≤ i) (i1 : i < 6) : ci A q 2 i ≤ C := by
  obtain ⟨-, n1, n2, s⟩ := B
  have a := sm_le (g := ci A q 2) (n := 6) i0 (by omega) (fun j j0 j1 => n2 j j0 (by omega))
  have b := sm_0 (g := ci A q 1) (n := 36) (fun j j0 j1 => n1 j j0 (by omega))
  have c := sm_0 (g := dgi A) (n := M.toNat) (fun j _ _ => dgi_0.1)
  omega
theorem BDn.bf (B : BDn h q M C P F A) (hq : q ≠ 36) (f : BFx P F A P' F' A') : BDn h q M C P' F' A' := by
  obtain ⟨⟨e8, e9, eM⟩, n1, n2, s⟩ := B
  obtain ⟨⟨g8, g9⟩, gF, gA, g4⟩ := f
  have a1 := (gA q hq).1
  have a2 := (gA q hq).2
  refine ⟨⟨g8.trans e8, g9.trans e9, by rw [gF]; exact eM⟩, ?_, ?_, ?_⟩
  · rw [ci_fr a1]
    exact n1
  · rw [ci_fr a2]
    exact n2
  · rw [ci_fr a1, ci_fr a2, dgi_fr g4]
    exact s
theorem BDn.done {i v : Int} (B : BDn h q M C P F A) (U : CUm A A' q 1 i v) (i0 : 0 ≤ i) (i1 : i < 36) (v0 : 0 ≤ v) (hv : v - ci A q 1 i ≤ d) : BDn h q M (C + d) P F A' := by
  obtain ⟨e, n1, n2, s⟩ := B
  have z := (sm_st (g := ci A q 1) (g' := ci A' q 1) i0 U.2.1 (n := 36)).1 (by omega)
  rw [U.1] at z
  have a2 : A' q 2 = A q 2 := U.2.2 q 2 (fun e => absurd e.2 (by decide))
  have d4 : A' 36 4 = A 36 4 := U.2.2 36 4 (fun e => absurd e.2 (by decide))
  refine ⟨e, fun j j0 j1 => ?_, by rw [ci_fr a2]; exact n2, ?_⟩
  · by_cases x : j = i
    · rw [x, U.1]
      exact v0
    · rw [U.2.1 j j0 x]
      exact n1 j j0 j1
  · rw [z, ci_fr a2, dgi_fr d4]
    omega
theorem BDn.stuff {i v : Int} (B : BDn h q M C P F A) (U : CUm A A' q 2 i v) (i0 : 0 ≤ i) (i1 : i < 6) (v0 : 0 ≤ v) (hv : v - ci A q 2 i ≤ d) : BDn h q M (C + d) P F A' := by
  obtain ⟨e, n1, n2, s⟩ := B
  have z := (sm_st (g := ci A q 2) (g' := ci A' q 2) i0 U.2.1 (n := 6)).1 (by omega)
  rw [U.1] at z
  have a1 : A' q 1 = A q 1 := U.2.2 q 1 (fun e => absurd e.2 (by decide))
  have d4 : A' 36 4 = A 36 4 := U.2.2 36 4 (fun e => absurd e.2 (by decide))
  refine ⟨e, by rw [ci_fr a1]; exact n1, fun j j0 j1 => ?_, ?_⟩
  · by_cases x : j = i
    · rw [x, U.1]
      exact v0
    · rw [U.2.1 j j0 x]
      exact n2 j j0 j1
  · rw [z, ci_fr a1, dgi_fr d4]
    omega
theorem dgi_st {i v : Int} (U : CUm A A' 36 4 i v) : (∀ j, 0 ≤ j → j ≠ i → dgi A' j = dgi A j) ∧ dgi A' i = if 0 ≤ v then 1 else 0 := by
  refine ⟨fun j j0 j1 => ?_, ?_⟩
  · unfold dgi
    rw [U.2.1 j j0 j1]
  · unfold dgi
    rw [U.1]
/-- someone begins -/
theorem BDn.begun {i v : Int} (B : BDn h q M C P F A) (hq : q ≠ 36) (U : CUm A A' 36 4 i v) (i0 : 0 ≤ i) : BDn h q M (C + 1) P F A' := by
  obtain ⟨e, n1, n2, s⟩ := B
  obtain ⟨u1, u2⟩ := dgi_st U
  have z := sm_st (g := dgi A) (g' := dgi A') i0 u1 (n := M.toNat)
  have a0 := dgi_0 (A := A) (i := i)
  have b0 := dgi_0 (A := A') (i := i)
  have a1 : A' q 1 = A q 1 := U.2.2 q 1 (fun e => hq e.1)
  have a2 : A' q 2 = A q 2 := U.2.2 q 2 (fun e => hq e.1)
  refine ⟨e, by rw [ci_fr a1]; exact n1, by rw [ci_fr a2]; exact n2, ?_⟩
  rw [ci_fr a1, ci_fr a2]
  by_cases w : i < (M.toNat : Int)
  · have := z.1 w
    omega
  · have := z.2 (by omega)
    omega
/-- someone is ready -/
theorem BDn.over {i v : Int} (B : BDn h q M (C + 1) P F A) (hq : q ≠ 36) (U : CUm A A' 36 4 i v) (i0 : 0 ≤ i) (i1 : i < M) (a4 : 0 ≤ ci A 36 4 i) (hv : v < 0) : BDn h q M C P F A' := by
  obtain ⟨e, n1, n2, s⟩ := B
  obtain ⟨u1, u2⟩ := dgi_st U
  have z := (sm_st (g := dgi A) (g' := dgi A') i0 u1 (n := M.toNat)).1 (by omega)
  rw [if_neg (by omega)] at u2
  have o : dgi A i = 1 := by
    unfold dgi
    rw [if_pos a4]
  have a1 : A' q 1 = A q 1 := U.2.2 q 1 (fun e => hq e.1)
  have a2 : A' q 2 = A q 2 := U.2.2 q 2 (fun e => hq e.1)
  refine ⟨e, by rw [ci_fr a1]; exact n1, by rw [ci_fr a2]; exact n2, ?_⟩
  rw [ci_fr a1, ci_fr a2]
  omega
theorem b_finish0 {r0 : Nat} {P0 : Nat → Nat → Nat} {F0 : Nat → Nat → Int32} (B : BDn h q M C P0 F0 A) (hq : q ≠ 36) (hC : C ≤ 100000) : po (e_House_finish P F A J r0 q x2 x3) (fun r => (r.2.1 = P ∧ r.2.2.1 = F) ∧ BDn h q M (C + 1) P0 F0 r.2.2.2.1 ∧ ∀ o, r.2.2.2.1 36 o = A 36 o) := by
  unfold e_House_finish
  refine po_bl (fun v1 h1 => po_bl (fun A2 h2 => ?_))
  obtain ⟨i0, i1, g1⟩ := gl h1
  have U2 := (gg_cst h2).2.2
  have l1 := B.le (i := (x2 * 6 + x3).toInt) i0 (by omega)
  have p1 := B.2.1 (x2 * 6 + x3).toInt i0 (by omega)
  have e1 := i_p1 (x := v1) (by omega)
  have B2 : BDn h q M (C + 1) P0 F0 A2 := B.done U2 i0 (by omega) (by omega) (by omega)
  have f2 : ∀ o, A2 36 o = A 36 o := fun o => U2.2.2 36 o (fun e => hq e.1.symm)
  refine po_bl (fun v3 h3 => ?_)
  refine po_cond (fun _ => po_some ⟨⟨rfl, rfl⟩, B2, f2⟩) (fun _ => ?_)
  refine po_bl (fun v5 h5 => ?_)
  refine po_cond (fun _ => po_some ⟨⟨rfl, rfl⟩, B2, f2⟩) (fun c5 => ?_)
  rw [i_nle, i_0] at c5
  refine po_bl (fun v7 h7 => po_bl (fun A8 h8 => po_some ?_))
  obtain ⟨j0, j1, g5⟩ := gl h5
  have g7 := (gl h7).2.2
  have U8 := (gg_cst h8).2.2
  have e7 : (v7 - 1).toInt = v7.toInt - 1 := by
    have r := i_rng v7
    rw [i_sub (by rw [i_1]; omega) (by rw [i_1]; omega), i_1]
  exact ⟨⟨rfl, rfl⟩, (B2.done (d := 0) U8 j0 (by omega) (by omega) (by omega)).mono (by omega), fun o => (U8.2.2 36 o (fun e => hq e.1.symm)).trans (f2 o)⟩
theorem b_finish {r0 : Nat} (B : BDn h q M C P F A) (hq : q ≠ 36) (hC : C ≤ 100000) : po (e_House_finish P F A J r0 q x2 x3) (fun r => BDn h q M (C + 1) r.2.1 r.2.2.1 r.2.2.2.1 ∧ ∀ o, r.2.2.2.1 36 o = A 36 o) := po_mono (b_finish0 B hq hC) (fun r w => ⟨by rw [w.1.1, w.1.2]; exact w.2.1, w.2.2⟩)
theorem b_finishAll (hq : c_kind q = 2) (hC : C ≤ 100000) : ∀ {n : Nat} {P : Nat → Nat → Nat} {F : Nat → Nat → Int32} {A : Nat → Nat → Nat → Int32} {J : Nat → Nat → Nat → Int64} {x1 x2 : Int32}, BDn h q M C P F A → po (e_Sleep_finishAll_2 n P F A J x1 x2) (fun r => BDn h q M C r.2.1 r.2.2.1 r.2.2.2.1) := by
  have q36 : q ≠ 36 := k2ne hq
  intro n
  induction n with
  | zero => intro P F A J x1 x2 _ a ha; cases ha
  | succ n ih =>
    intro P F A J x1 x2 B
    have lm : (-1 : Int32).toInt = -1 := by decide
    obtain ⟨e8, e9, eM⟩ := B.1
    unfold e_Sleep_finishAll_2
    refine po_bl (fun _ c1 => ?_)
    obtain rfl := (gg_chk c1).2.symm
    refine po_cond (fun _ => po_some B) (fun cM => ?_)
    rw [i_nge, e8, eM] at cM
    refine po_bl (fun v3 h3 => ?_)
    have g3 := gl h3
    refine po_cond (fun _ => ?_) (fun _ => ?_)
    · unfold e_Sleep_finishAll_122
      exact ih B
    refine po_bl (fun v5 h5 => ?_)
    refine po_cond (fun _ => ?_) (fun c5 => ?_)
    · unfold e_Sleep_finishAll_122
      exact ih B
    rw [i_nlt, i_0] at c5
    have g5 := (gl h5).2.2
    refine po_bl (fun _ c7 => ?_)
    obtain rfl := (gg_chk c7).2.symm
    refine po_bl (fun v8 _ => po_bl (fun v9 _ => po_bl (fun v10 _ => ?_)))
    refine po_bl (fun _ c11 => ?_)
    obtain rfl := (gg_chk c11).2.symm
    refine po_bl (fun _ c12 => ?_)
    obtain rfl := (gg_chk c12).2.symm
    rw [e9]
    refine po_call (b_finish B q36 hC) ?_
    rintro ⟨u, P14, F15, A16, J17⟩ ⟨B16, f16⟩
    dsimp only at B16 f16 ⊢
    refine po_bl (fun _ c18 => ?_)
    obtain rfl := (gg_chk c18).2.symm
    refine po_bl (fun v19 _ => ?_)
    have d16 : 0 ≤ ci A16 36 4 x2.toInt := by
      rw [ci_fr (f16 4), ← g5]
      exact c5
    refine po_cond (fun _ => ?_) (fun _ => ?_)
    · unfold e_Sleep_finishAll_97
      refine po_bl (fun A26 h26 => po_bl (fun v27 _ => po_bl (fun A28 h28 => po_bl (fun A29 h29 => ?_))))
      have U26 := (gg_cst h26).2.2
      have U28 := (gg_cst h28).2.2
      have B28 := (B16.bf q36 (BFx.st U26 (by decide))).bf q36 (BFx.st U28 (by decide))
      exact ih (B28.over q36 (gg_cst h29).2.2 g3.1 cM (by rw [ci_fr (U28.2.2 36 4 (by decide)), ci_fr (U26.2.2 36 4 (by decide))]; exact d16) (by rw [lm]; decide))
    · refine po_bl (fun A21 h21 => po_bl (fun A22 h22 => po_bl (fun v23 _ => po_bl (fun A24 h24 => po_bl (fun A25 h25 => ?_)))))
      have U21 := (gg_cst h21).2.2
      have U22 := (gg_cst h22).2.2
      have U24 := (gg_cst h24).2.2
      have B24 := ((B16.bf q36 (BFx.st U21 (by decide))).bf q36 (BFx.st U22 (by decide))).bf q36 (BFx.st U24 (by decide))
      exact ih (B24.over q36 (gg_cst h25).2.2 g3.1 cM (by rw [ci_fr (U24.2.2 36 4 (by decide)), ci_fr (U22.2.2 36 4 (by decide)), ci_fr (U21.2.2 36 4 (by decide))]; exact d16) (by rw [lm]; decide))
theorem b_take {n : Nat} (hq : c_kind q = 2) (hC : C ≤ 100000) (B : BDn h q M C P F A) (s3 : 0 < ci A q 2 x3.toInt) : po (e_Sleep_begin_168 n P F A J x1 x2 x3 x5) (fun r => BDn h q M C r.2.1 r.2.2.1 r.2.2.2.1) := by
  have q36 : q ≠ 36 := k2ne hq
  obtain ⟨e8, e9, eM⟩ := B.1
  unfold e_Sleep_begin_168
  refine po_bl (fun _ c1 => ?_)
  obtain rfl := (gg_chk c1).2.symm
  rw [e9]
  refine po_bl (fun v32 h32 => po_bl (fun A33 h33 => po_bl (fun A34 h34 => ?_)))
  obtain ⟨i0, i1, g32⟩ := gl h32
  have U33 := (gg_cst h33).2.2
  have U34 := gg_cst h34
  have l2 := B.le2 i0 (by omega)
  have e32 : (v32 - 1).toInt = v32.toInt - 1 := by rw [i_sub (by rw [i_1]; omega) (by rw [i_1]; omega), i_1]
  have B34 := ((B.stuff (d := -1) U33 i0 (by omega) (by omega) (by omega)).begun q36 U34.2.2 U34.1).mono (C' := C) (by omega)
  refine po_bl (fun _ c35 => ?_)
  obtain rfl := (gg_chk c35).2.symm
  refine po_bl (fun v36 _ => po_bl (fun A37 h37 => po_some ?_))
  exact B34.bf q36 (BFx.st (gg_cst h37).2.2 (by decide))
theorem b_take2 {n : Nat} (hq : c_kind q = 2) (hC : C ≤ 100000) (B : BDn h q M C P F A) (s3 : 0 < ci A q 2 x3.toInt) : po (e_Sleep_begin_140 n P F A J x1 x2 x3 x5 x6) (fun r => BDn h q M C r.2.1 r.2.2.1 r.2.2.2.1) := by
  have q36 : q ≠ 36 := k2ne hq
  obtain ⟨e8, e9, eM⟩ := B.1
  unfold e_Sleep_begin_140
  refine po_bl (fun v38 _ => ?_)
  refine po_cond (fun _ => ?_) (fun _ => ?_)
  · refine po_bl (fun A40 h40 => ?_)
    have U40 := (gg_cst h40).2.2
    have B40 := B.bf q36 (BFx.st U40 (by decide))
    refine po_bl (fun _ c1 => ?_)
    obtain rfl := (gg_chk c1).2.symm
    rw [e9]
    refine po_bl (fun v32 h32 => po_bl (fun A33 h33 => po_bl (fun A34 h34 => ?_)))
    obtain ⟨i0, i1, g32⟩ := gl h32
    have U33 := (gg_cst h33).2.2
    have U34 := gg_cst h34
    have l2 := B40.le2 i0 (by omega)
    rw [← ci_fr (U40.2.2 q 2 (fun e => q36 e.1))] at s3
    have e32 : (v32 - 1).toInt = v32.toInt - 1 := by rw [i_sub (by rw [i_1]; omega) (by rw [i_1]; omega), i_1]
    have B34 := ((B40.stuff (d := -1) U33 i0 (by omega) (by omega) (by omega)).begun q36 U34.2.2 U34.1).mono (C' := C) (by omega)
    refine po_bl (fun _ c35 => ?_)
    obtain rfl := (gg_chk c35).2.symm
    refine po_bl (fun v36 _ => po_bl (fun A37 h37 => po_some ?_))
    exact B34.bf q36 (BFx.st (gg_cst h37).2.2 (by decide))
  · refine po_bl (fun A48 h48 => po_some ?_)
    exact B.bf q36 (BFx.st (gg_cst h48).2.2 (by decide))
theorem b_begin {n : Nat} (hq : c_kind q = 2) (hC : C ≤ 100000) (B : BDn h q M C P F A) : po (e_Sleep_begin n P F A J x1 x2) (fun r => BDn h q M C r.2.1 r.2.2.1 r.2.2.2.1) := by
  have q36 : q ≠ 36 := k2ne hq
  obtain ⟨e8, e9, eM⟩ := B.1
  have b44 : ∀ {x4 : Int32}, po (e_Sleep_begin_44 n P F A J x1 x2 x4) (fun r => BDn h q M C r.2.1 r.2.2.1 r.2.2.2.1) := fun {x4} => po_mono (bf_e_Sleep_begin_44 BFx.rfl') (fun r f => B.bf q36 f)
  unfold e_Sleep_begin
  refine po_bl (fun _ c1 => ?_)
  obtain rfl := (gg_chk c1).2.symm
  refine po_bl (fun v2 _ => po_bl (fun v3 _ => ?_))
  refine po_bl (fun _ c4 => ?_)
  obtain rfl := (gg_chk c4).2.symm
  refine po_bl (fun _ c5 => ?_)
  obtain rfl := (gg_chk c5).2.symm
  refine po_bl (fun v6 _ => ?_)
  refine po_cond (fun _ => b44) (fun _ => ?_)
  refine po_bl (fun _ c8 => ?_)
  obtain rfl := (gg_chk c8).2.symm
  refine po_bl (fun v9 h9 => ?_)
  have g9 := (gl h9).2.2
  rw [e9] at g9
  refine po_cond (fun c9 => ?_) (fun _ => b44)
  rw [i_gt, i_0, g9] at c9
  refine po_call (bf_e_Sleep_chosenStep BFx.rfl') ?_
  rintro ⟨v11, P12, F13, A14, J15⟩ f
  dsimp only at f ⊢
  have B14 := B.bf q36 f
  have s14 : 0 < ci A14 q 2 v3.toInt := by
    rw [ci_fr (f.2.2.1 q q36).2]
    exact c9
  refine po_bl (fun _ c16 => ?_)
  obtain rfl := (gg_chk c16).2.symm
  refine po_bl (fun v17 _ => ?_)
  refine po_cond (fun _ => b_take hq hC B14 s14) (fun _ => ?_)
  refine po_bl (fun _ c19 => ?_)
  obtain rfl := (gg_chk c19).2.symm
  refine po_bl (fun v20 _ => ?_)
  refine po_cond (fun _ => b_take2 hq hC B14 s14) (fun _ => ?_)
  refine po_bl (fun _ c22 => ?_)
  obtain rfl := (gg_chk c22).2.symm
  refine po_bl (fun v23 _ => ?_)
  refine po_cond (fun _ => b_take2 hq hC B14 s14) (fun _ => ?_)
  refine po_call (bf_e_Sleep_lieDown BFx.rfl') ?_
  rintro ⟨u, P26, F27, A28, J29⟩ f2
  exact po_some (B14.bf q36 f2)
theorem BDn.fin (B : BDn h q M C P F A) : BDs q C A := by
  have c := sm_0 (g := dgi A) (n := M.toNat) (fun j _ _ => dgi_0.1)
  exact ⟨B.2.1, B.2.2.1, by have := B.2.2.2; omega⟩
theorem b_96 {n : Nat} {K31 : (Nat → Nat → Nat) → (Nat → Nat → Int32) → (Nat → Nat → Nat → Int32) → (Nat → Nat → Nat → Int64) → Int32 → Int32 → Int32 → Option (cR Unit)} (q36 : q ≠ 36) (hK : ∀ {P F A J a b c}, BDn h q M C P F A → po (K31 P F A J a b c) (fun r => BDs q C r.2.2.2.1)) (B : BDn h q M C P F A) : po (e_Sleep_goTill_96 K31 n P F A J x1 x4 x5) (fun r => BDs q C r.2.2.2.1) := by
  unfold e_Sleep_goTill_96 e_Sleep_goTill_111
  refine po_cond (fun _ => hK B) (fun _ => ?_)
  refine po_call (bf_e_Sleep_nextMinute BFx.rfl') ?_
  rintro ⟨v, P38, F39, A40, J41⟩ f
  exact hK (B.bf q36 f)
theorem b_52 {K31 : (Nat → Nat → Nat) → (Nat → Nat → Int32) → (Nat → Nat → Nat → Int32) → (Nat → Nat → Nat → Int64) → Int32 → Int32 → Int32 → Option (cR Unit)} (hq : c_kind q = 2) (hC : C ≤ 100000) (hK : ∀ {P F A J a b c}, BDn h q M C P F A → po (K31 P F A J a b c) (fun r => BDs q C r.2.2.2.1)) : ∀ {n : Nat} {P : Nat → Nat → Nat} {F : Nat → Nat → Int32} {A : Nat → Nat → Nat → Int32} {J : Nat → Nat → Nat → Int64} {x1 x4 x5 x6 : Int32}, BDn h q M C P F A → po (e_Sleep_goTill_52 K31 n P F A J x1 x4 x5 x6) (fun r => BDs q C r.2.2.2.1) := by
  have q36 : q ≠ 36 := k2ne hq
  intro n
  induction n with
  | zero => intro P F A J x1 x4 x5 x6 _ a ha; cases ha
  | succ n ih =>
    intro P F A J x1 x4 x5 x6 B
    unfold e_Sleep_goTill_52
    refine po_bl (fun _ c1 => ?_)
    obtain rfl := (gg_chk c1).2.symm
    refine po_cond (fun _ => b_96 q36 hK B) (fun _ => ?_)
    refine po_cond (fun _ => b_96 q36 hK B) (fun _ => ?_)
    refine po_bl (fun v29 _ => ?_)
    refine po_cond (fun _ => ?_) (fun _ => ?_)
    · unfold e_Sleep_goTill_90
      exact ih B
    · refine po_call (b_begin hq hC B) ?_
      rintro ⟨u, P32, F33, A34, J35⟩ B2
      exact ih B2
theorem b_31 (hq : c_kind q = 2) (hC : C ≤ 100000) : ∀ {n : Nat} {P : Nat → Nat → Nat} {F : Nat → Nat → Int32} {A : Nat → Nat → Nat → Int32} {J : Nat → Nat → Nat → Int64} {x1 x4 x5 : Int32}, BDn h q M C P F A → po (e_Sleep_goTill_31 n P F A J x1 x4 x5) (fun r => BDs q C r.2.2.2.1) := by
  have q36 : q ≠ 36 := k2ne hq
  have b119 : ∀ {n : Nat} {P : Nat → Nat → Nat} {F : Nat → Nat → Int32} {A : Nat → Nat → Nat → Int32} {J : Nat → Nat → Nat → Int64}, BDn h q M C P F A → po (e_Sleep_goTill_119 n P F A J) (fun r => BDs q C r.2.2.2.1) := by
    intro n P F A J B
    unfold e_Sleep_goTill_119
    refine po_call (bf_e_Sleep_wakeUp BFx.rfl') ?_
    rintro ⟨u, P22, F23, A24, J25⟩ f
    exact po_some (B.bf q36 f).fin
  intro n
  induction n with
  | zero => intro P F A J x1 x4 x5 _ a ha; cases ha
  | succ n ih =>
    intro P F A J x1 x4 x5 B
    unfold e_Sleep_goTill_31
    refine po_cond (fun _ => b119 B) (fun _ => po_cond (fun _ => b119 B) (fun _ => ?_))
    unfold e_Sleep_finishAll
    refine po_call (b_finishAll hq hC B) ?_
    rintro ⟨u, P17, F18, A19, J20⟩ B2
    exact b_52 hq hC (fun B3 => ih B3) B2
/-- who gets up does nothing yet -/
theorem b_getUp (hq : c_kind q = 2) : ∀ {n : Nat} {P : Nat → Nat → Nat} {F : Nat → Nat → Int32} {A : Nat → Nat → Nat → Int32} {J : Nat → Nat → Nat → Int64} {x1 : Int32}, P 36 8 = h ∧ P 36 9 = q ∧ (F h 17).toInt = M → (∀ m, 0 ≤ m → m < x1.toInt → ci A 36 4 m < 0) → x1.toInt < 1000000 → po (e_Sleep_getUp_2 n P F A J x1) (fun r => (r.2.1 36 8 = h ∧ r.2.1 36 9 = q ∧ (r.2.2.1 h 17).toInt = M) ∧ (r.2.2.2.1 q 1 = A q 1 ∧ r.2.2.2.1 q 2 = A q 2) ∧ ∀ m, 0 ≤ m → m < M → ci r.2.2.2.1 36 4 m < 0) := by
  have q36 : q ≠ 36 := k2ne hq
  have lm : (-1 : Int32).toInt = -1 := by decide
  intro n
  induction n with
  | zero => intro P F A J x1 _ _ _ a ha; cases ha
  | succ n ih =>
    intro P F A J x1 E D hx
    obtain ⟨e8, e9, eM⟩ := E
    unfold e_Sleep_getUp_2
    refine po_bl (fun _ c1 => ?_)
    obtain rfl := (gg_chk c1).2.symm
    refine po_cond (fun cM => po_some ⟨⟨e8, e9, eM⟩, ⟨rfl, rfl⟩, fun m m0 m1 => ?_⟩) (fun cM => ?_)
    · rw [i_ge, e8, eM] at cM
      exact D m m0 (by omega)
    refine po_bl (fun _ c3 => ?_)
    obtain rfl := (gg_chk c3).2.symm
    refine po_bl (fun v4 h4 => po_bl (fun A5 h5 => po_bl (fun A6 h6 => po_bl (fun A7 h7 => po_bl (fun A8 h8 => ?_)))))
    have x0 := (gl h4).1
    have x6 := (gl h4).2.1
    have U5 := (gg_cst h5).2.2
    have f8 : BFx P F A5 P F A8 := ((BFx.st (gg_cst h6).2.2 (by decide)).tr (BFx.st (gg_cst h7).2.2 (by decide))).tr (BFx.st (gg_cst h8).2.2 (by decide))
    refine po_bl (fun _ c9 => ?_)
    obtain rfl := (gg_chk c9).2.symm
    refine po_bl (fun A10 h10 => ?_)
    have f10 : BFx P F A5 P F A10 := f8.tr (BFx.st (gg_cst h10).2.2 (by decide))
    have e11 := i_p1 (x := x1) (by omega)
    have go : ∀ {P' : Nat → Nat → Nat} {F' : Nat → Nat → Int32} {A' : Nat → Nat → Nat → Int32} {J' : Nat → Nat → Nat → Int64}, BFx P F A5 P' F' A' → po (e_Sleep_getUp_2 n P' F' A' J' (x1 + 1)) (fun r => (r.2.1 36 8 = h ∧ r.2.1 36 9 = q ∧ (r.2.2.1 h 17).toInt = M) ∧ (r.2.2.2.1 q 1 = A q 1 ∧ r.2.2.2.1 q 2 = A q 2) ∧ ∀ m, 0 ≤ m → m < M → ci r.2.2.2.1 36 4 m < 0) := by
      intro P' F' A' J' f
      refine po_mono (ih ⟨f.1.1.trans e8, f.1.2.trans e9, by rw [f.2.1]; exact eM⟩ (fun m m0 m1 => ?_) (by omega)) (fun r w => ⟨w.1, ⟨w.2.1.1.trans ((f.2.2.1 q q36).1.trans (U5.2.2 q 1 (fun e => q36 e.1))), w.2.1.2.trans ((f.2.2.1 q q36).2.trans (U5.2.2 q 2 (fun e => q36 e.1)))⟩, w.2.2⟩)
      rw [ci_fr f.2.2.2]
      by_cases e : m = x1.toInt
      · rw [e, U5.1, lm]
        decide
      · rw [U5.2.1 m m0 e]
        exact D m m0 (by omega)
    refine po_cond (fun _ => ?_) (fun _ => ?_)
    · unfold e_Sleep_getUp_145
      exact go f10
    refine po_bl (fun v12 _ => po_bl (fun A13 h13 => ?_))
    have f13 : BFx P F A5 P F A13 := f10.tr (BFx.st (gg_cst h13).2.2 (by decide))
    refine po_bl (fun _ c14 => ?_)
    obtain rfl := (gg_chk c14).2.symm
    refine po_bl (fun v15 _ => po_bl (fun v16 _ => ?_))
    refine po_bl (fun _ c17 => ?_)
    obtain rfl := (gg_chk c17).2.symm
    refine po_bl (fun _ c18 => ?_)
    obtain rfl := (gg_chk c18).2.symm
    refine po_bl (fun _ c19 => ?_)
    obtain rfl := (gg_chk c19).2.symm
    refine po_bl (fun v20 _ => ?_)
    refine po_call (bf_e_Ways_between f13) ?_
    rintro ⟨v21, P22, F23, A24, J25⟩ f24
    dsimp only at f24 ⊢
    refine po_bl (fun A26 h26 => po_bl (fun v27 _ => ?_))
    have f26 := f24.tr (BFx.st (gg_cst h26).2.2 (by decide))
    refine po_cond (fun _ => ?_) (fun _ => ?_)
    · unfold e_Sleep_getUp_145
      exact go f26
    refine po_bl (fun _ c29 => ?_)
    obtain rfl := (gg_chk c29).2.symm
    refine po_bl (fun A30 h30 => ?_)
    exact go (f26.tr (BFx.st (gg_cst h30).2.2 (by decide)))
/-- a night -/
theorem b_goTill {n : Nat} (hq : c_kind q = 2) (hC : C ≤ 100000) (B : BDs q C A) : po (e_Sleep_goTill n P F A J x1 h q) (fun r => BDs q C r.2.2.2.1) := by
  have q36 : q ≠ 36 := k2ne hq
  unfold e_Sleep_goTill
  refine po_bl (fun P1 h1 => po_bl (fun P2 h2 => po_bl (fun A3 h3 => ?_)))
  have g1 := gg_cpp h1
  have g2 := gg_cpp h2
  have g3 := gg_cfi h3
  unfold e_Sleep_getUp
  refine po_call (b_getUp (h := h) (M := (F h 17).toInt) hq ⟨(g2.2 36 8 (by decide)).trans g1.1, g2.1, rfl⟩ (fun m m0 m1 => absurd m1 (by rw [i_0]; omega)) (by decide)) ?_
  rintro ⟨u, P5, F6, A7, J8⟩ ⟨w1, ⟨w2, w3⟩, w4⟩
  dsimp only at w1 w2 w3 w4 ⊢
  have a1 : A7 q 1 = A q 1 := w2.trans (g3 q 1 (fun e => q36 e.1))
  have a2 : A7 q 2 = A q 2 := w3.trans (g3 q 2 (fun e => q36 e.1))
  have z : sm (dgi A7) (F h 17).toInt.toNat = 0 := sm_z (fun i i0 i1 => by
    unfold dgi
    have := w4 i i0 (by omega)
    rw [if_neg (by omega)])
  have B7 : BDn h q (F h 17).toInt C P5 F6 A7 := by
    refine ⟨w1, by rw [ci_fr a1]; exact B.1, by rw [ci_fr a2]; exact B.2.1, ?_⟩
    rw [ci_fr a1, ci_fr a2, z]
    have := B.2.2
    omega
  refine po_call (bf_e_Sleep_nextMinute BFx.rfl') ?_
  rintro ⟨v9, P10, F11, A12, J13⟩ f
  exact b_31 hq hC (B7.bf q36 f)
/-! what it may be worth -/
theorem b_worth21 {K : Int} {n0 : Nat} (hn0 : n0 ≤ 36) (hK : K ≤ 1000000000) (n1 : ∀ i : Int, 0 ≤ i → i < 36 → 0 ≤ ci A q 1 i ∧ ci A q 1 i ≤ 100000) (e4 : x4.toInt = (n0 : Int)) (rg : ∀ i : Int, x5.toInt ≤ i → i < (n0 : Int) → (0 ≤ ci A h 7 i) ∧ (0 ≤ ci A h 8 i ∧ ci A h 8 i ≤ 99) ∧ (0 ≤ ci A h 9 i ∧ ci A h 9 i ≤ 99)) : ∀ {n k : Nat} {x3 x : Int32}, x.toInt = (k : Int) → x5.toInt ≤ x.toInt → -K ≤ x3.toInt - 99 * (sm (ci A q 1) n0 - sm (ci A q 1) k) → x3.toInt + 99 * (sm (ci A q 1) n0 - sm (ci A q 1) k) ≤ K → k ≤ n0 → po (e_House_worth_21 n P F A J h q x3 x4 x) (fun v => x3.toInt - 99 * (sm (ci A q 1) n0 - sm (ci A q 1) k) ≤ v.toInt ∧ v.toInt ≤ x3.toInt + 99 * (sm (ci A q 1) n0 - sm (ci A q 1) k)) := by
  intro n
  induction n with
  | zero => intro k x3 x _ _ _ _ _ a ha; cases ha
  | succ n ih =>
    intro k x3 x ex hx lo hi hk
    have mo := sm_mono (g := ci A q 1) (k := k) (n := n0) hk (fun i i0 i1 => (n1 i i0 (by omega)).1)
    unfold e_House_worth_21
    refine po_cond (fun c => po_some ?_) (fun c => ?_)
    · omega
    rw [i_nge] at c
    refine po_bl (fun v3 h3 => po_bl (fun v4 h4 => po_bl (fun v5 h5 => po_bl (fun v6 h6 => po_bl (fun v7 h7 => ?_)))))
    have g3 := (gl h3).2.2
    have g4 := (gl h4).2.2
    have g5 := (gl h5).2.2
    have g6 := (gl h6).2.2
    have g7 := (gl h7).2.2
    have d := n1 x.toInt (by omega) (by omega)
    obtain ⟨r7, r8, r9⟩ := rg x.toInt hx (by omega)
    have s := sm_s (ci A q 1) k
    rw [← ex] at s
    have mo2 := sm_mono (g := ci A q 1) (k := k + 1) (n := n0) (by omega) (fun i i0 i1 => (n1 i i0 (by omega)).1)
    obtain ⟨w, hw⟩ : ∃ w : Int32, w = (if v4 < v3 then v4 else v3) := ⟨_, rfl⟩
    rw [← hw]
    have w01 : 0 ≤ w.toInt ∧ w.toInt ≤ v3.toInt := by
      rw [hw]
      by_cases z : v4 < v3
      · rw [if_pos z]
        have := Int32.lt_iff_toInt_lt.mp z
        omega
      · rw [if_neg z]
        omega
    have p1 : 0 ≤ w.toInt * v5.toInt := Int.mul_nonneg w01.1 (by omega)
    have p2 : w.toInt * v5.toInt ≤ w.toInt * 99 := Int.mul_le_mul_of_nonneg_left (by omega) w01.1
    have e6w : (v6 - w).toInt = v6.toInt - w.toInt := i_sub (by omega) (by omega)
    have u0 : 0 ≤ (v6 - w).toInt := by omega
    have p3 : 0 ≤ (v6 - w).toInt * v7.toInt := Int.mul_nonneg u0 (by omega)
    have p4 : (v6 - w).toInt * v7.toInt ≤ (v6 - w).toInt * 99 := Int.mul_le_mul_of_nonneg_left (by omega) u0
    have m1 : (w * v5).toInt = w.toInt * v5.toInt := i_mul (by omega) (by omega)
    have m2 : ((v6 - w) * v7).toInt = (v6 - w).toInt * v7.toInt := i_mul (by omega) (by omega)
    have m3 : (w * v5 - (v6 - w) * v7).toInt = (w * v5).toInt - ((v6 - w) * v7).toInt := i_sub (by omega) (by omega)
    have m4 : (x3 + (w * v5 - (v6 - w) * v7)).toInt = x3.toInt + (w * v5 - (v6 - w) * v7).toInt := i_add (by omega) (by omega)
    have ex1 := i_p1 (x := x) (by omega)
    refine po_mono (ih (k := k + 1) (by omega) (by omega) (by omega) (by omega) (by omega)) (fun v r => ?_)
    omega
theorem b_worth {n : Nat} {t : Int} (hy : HYc F A h) (n1 : ∀ i : Int, 0 ≤ i → i < 36 → 0 ≤ ci A q 1 i ∧ ci A q 1 i ≤ 100000) (s1 : sm (ci A q 1) 36 ≤ 100000) (h5 : 0 ≤ ci A h 5 t ∧ ci A h 5 t ≤ 6) (t0 : 0 ≤ t) (t6 : t < 6) (t1 : t < (F h 16).toInt) (e2 : x2.toInt = t) : po (e_House_worth n P F A J h q x2) (fun v => -(99 * (sm (ci A q 1) (6 * (t.toNat + 1)) - sm (ci A q 1) (6 * t.toNat))) ≤ v.toInt ∧ v.toInt ≤ 99 * (sm (ci A q 1) (6 * (t.toNat + 1)) - sm (ci A q 1) (6 * t.toNat))) := by
  unfold e_House_worth
  refine po_bl (fun v1 h1 => ?_)
  have g1 := (gl h1).2.2
  rw [e2] at g1
  have m6 : (x2 * 6).toInt = x2.toInt * 6 := i_mulR (c := 6) (k := 6) (by decide) (by omega) (by omega)
  have a4 : (x2 * 6 + v1).toInt = t * 6 + ci A h 5 t := by rw [i_add (by omega) (by omega), m6, e2, g1]
  have nn : ∀ i : Int, 0 ≤ i → i < 36 → 0 ≤ ci A q 1 i := fun i i0 i1 => (n1 i i0 i1).1
  have b0 := sm_0 (g := ci A q 1) (n := 6 * t.toNat) (fun i i0 i1 => nn i i0 (by omega))
  have b1 := sm_mono (g := ci A q 1) (k := 6 * t.toNat) (n := 6 * t.toNat + (ci A h 5 t).toNat) (by omega) (fun i i0 i1 => nn i i0 (by omega))
  have b2 := sm_mono (g := ci A q 1) (k := 6 * t.toNat + (ci A h 5 t).toNat) (n := 6 * (t.toNat + 1)) (by omega) (fun i i0 i1 => nn i i0 (by omega))
  have b3 := sm_mono (g := ci A q 1) (k := 6 * (t.toNat + 1)) (n := 36) (by omega) (fun i i0 i1 => nn i i0 (by omega))
  refine po_mono (b_worth21 (K := 1000000000) (n0 := 6 * t.toNat + (ci A h 5 t).toNat) (x5 := x2 * 6) (x4 := x2 * 6 + v1) (by omega) (by decide) n1 (by rw [a4]; omega) (fun i i0 i1 => ?_) (k := 6 * t.toNat) (x3 := 0) (x := x2 * 6) (by rw [m6, e2]; omega) (Int.le_refl _) (by rw [i_0]; omega) (by rw [i_0]; omega) (by omega)) (fun v r => ?_)
  · rw [m6, e2] at i0
    have y := hy.2.2.1 t (i - t * 6) t0 t1 (by omega) (by omega)
    rw [show t * 6 + (i - t * 6) = i by omega] at y
    exact ⟨y.2.1.1, y.2.2.1, y.2.2.2.1⟩
  · rw [i_0] at r
    omega
theorem b_worthAll4 (hy : HYc F A h) (n1 : ∀ i : Int, 0 ≤ i → i < 36 → 0 ≤ ci A q 1 i ∧ ci A q 1 i ≤ 100000) (s1 : sm (ci A q 1) 36 ≤ 100000) (h5 : ∀ t, 0 ≤ t → 0 ≤ ci A h 5 t ∧ ci A h 5 t ≤ 6) (h16 : (F h 16).toInt ≤ 6) : ∀ {n : Nat} {x2 x3 : Int32}, 0 ≤ x3.toInt → x3.toInt ≤ 6 → -(99 * sm (ci A q 1) (6 * x3.toInt.toNat)) ≤ x2.toInt → x2.toInt ≤ 99 * sm (ci A q 1) (6 * x3.toInt.toNat) → po (e_House_worthOfAll_4 n P F A J h q x2 x3) (fun v => -(99 * sm (ci A q 1) 36) ≤ v.toInt ∧ v.toInt ≤ 99 * sm (ci A q 1) 36) := by
  have nn : ∀ i : Int, 0 ≤ i → i < 36 → 0 ≤ ci A q 1 i := fun i i0 i1 => (n1 i i0 i1).1
  intro n
  induction n with
  | zero => intro x2 x3 _ _ _ _ a ha; cases ha
  | succ n ih =>
    intro x2 x3 x0 x6 lo hi
    have b3 := sm_mono (g := ci A q 1) (k := 6 * x3.toInt.toNat) (n := 36) (by omega) (fun i i0 i1 => nn i i0 (by omega))
    unfold e_House_worthOfAll_4
    refine po_cond (fun c => po_some ?_) (fun c => ?_)
    · omega
    rw [i_nge] at c
    refine po_call (b_worth hy n1 s1 (h5 x3.toInt x0) x0 (by omega) c rfl) (fun v2 r => ?_)
    have b0 := sm_0 (g := ci A q 1) (n := 6 * x3.toInt.toNat) (fun i i0 i1 => nn i i0 (by omega))
    have b1 := sm_mono (g := ci A q 1) (k := 6 * (x3.toInt.toNat + 1)) (n := 36) (by omega) (fun i i0 i1 => nn i i0 (by omega))
    have ea : (x2 + v2).toInt = x2.toInt + v2.toInt := i_add (by omega) (by omega)
    have e31 := i_p1 (x := x3) (by omega)
    have e6 : 6 * (x3 + 1).toInt.toNat = 6 * (x3.toInt.toNat + 1) := by omega
    exact ih (by omega) (by omega) (by rw [e6]; omega) (by rw [e6]; omega)
theorem b_worthAll {n : Nat} (H : NHx h F A Fm Am) (B : BDs q C A) (hC : C ≤ 100000) : po (e_House_worthOfAll n P F A J h q) (fun v => -(99 * C) ≤ v.toInt ∧ v.toInt ≤ 99 * C) := by
  have ct := H.ct
  have s2 := sm_0 (g := ci A q 2) (n := 6) (fun i i0 i1 => B.2.1 i i0 (by omega))
  have s3 := B.2.2
  have s1 : sm (ci A q 1) 36 ≤ C := by omega
  have n1 : ∀ i : Int, 0 ≤ i → i < 36 → 0 ≤ ci A q 1 i ∧ ci A q 1 i ≤ 100000 := fun i i0 i1 => by
    have := sm_le (g := ci A q 1) (n := 36) i0 (by omega) (fun j j0 j1 => B.1 j j0 (by omega))
    exact ⟨B.1 i i0 i1, by omega⟩
  have z0 : sm (ci A q 1) (6 * (0 : Int32).toInt.toNat) = 0 := by
    rw [i_0]
    rfl
  unfold e_House_worthOfAll
  refine po_mono (b_worthAll4 H.hy n1 (by omega) (fun t t0 => H.s6 t0) (by omega) (x2 := 0) (x3 := 0) (by decide) (by decide) (by rw [z0, i_0]; decide) (by rw [z0, i_0]; decide)) (fun v r => ?_)
  omega
theorem sm_ub {g : Int → Int} {c : Int} : ∀ {n : Nat}, (∀ i, 0 ≤ i → i < (n : Int) → g i ≤ c) → sm g n ≤ (n : Int) * c
  | 0, _ => by
    show (0 : Int) ≤ ((0 : Nat) : Int) * c
    rw [show ((0 : Nat) : Int) = 0 from rfl, Int.zero_mul]
    exact Int.le_refl _
  | n + 1, h => by
    have a := sm_ub (n := n) (fun i i0 i1 => h i i0 (by omega))
    have b := h n (by omega) (by omega)
    have e : ((n + 1 : Nat) : Int) * c = (n : Int) * c + c := by
      rw [show ((n + 1 : Nat) : Int) = (n : Int) + 1 from rfl, Int.add_mul, Int.one_mul]
    rw [sm_s, e]
    omega
/-- what is done and what there is to do, by an evening's rows -/
def BDa (a : Nat → Nat → Int32) : Prop := (∀ i : Int, 0 ≤ i → i < 36 → 0 ≤ (a 1 i.toNat).toInt) ∧ (∀ i : Int, 0 ≤ i → i < 6 → 0 ≤ (a 2 i.toNat).toInt) ∧ sm (fun i => (a 1 i.toNat).toInt) 36 + sm (fun i => (a 2 i.toNat).toInt) 6 ≤ 5994
theorem BDa.s (b : BDa (A q)) : BDs q 5994 A := b
theorem BDs.a (b : BDs q 5994 A) : BDa (A q) := b
theorem BDa.cg {a a' : Nat → Nat → Int32} (b : BDa a) (h1 : ∀ i : Int, 0 ≤ i → i < 36 → (a' 1 i.toNat).toInt = (a 1 i.toNat).toInt) (h2 : ∀ i : Int, 0 ≤ i → i < 6 → (a' 2 i.toNat).toInt = (a 2 i.toNat).toInt) : BDa a' := by
  obtain ⟨b1, b2, b3⟩ := b
  refine ⟨fun i i0 i1 => by rw [h1 i i0 i1]; exact b1 i i0 i1, fun i i0 i1 => by rw [h2 i i0 i1]; exact b2 i i0 i1, ?_⟩
  have e1 := sm_cg (g := fun i : Int => (a 1 i.toNat).toInt) (g' := fun i : Int => (a' 1 i.toNat).toInt) (n := 36) (fun i i0 i1 => h1 i i0 (by omega))
  have e2 := sm_cg (g := fun i : Int => (a 2 i.toNat).toInt) (g' := fun i : Int => (a' 2 i.toNat).toInt) (n := 6) (fun i i0 i1 => h2 i i0 (by omega))
  rw [e1, e2]
  exact b3
theorem BDa.fr {a a' : Nat → Nat → Int32} (b : BDa a) (h1 : a' 1 = a 1) (h2 : a' 2 = a 2) : BDa a' := b.cg (fun i _ _ => by rw [h1]) (fun i _ _ => by rw [h2])
theorem BDa.z {a : Nat → Nat → Int32} (h1 : ∀ i : Int, 0 ≤ i → i < 36 → (a 1 i.toNat).toInt = 0) (h2 : ∀ i : Int, 0 ≤ i → i < 6 → 0 ≤ (a 2 i.toNat).toInt ∧ (a 2 i.toNat).toInt ≤ 999) : BDa a := by
  have s1 := sm_z (g := fun i : Int => (a 1 i.toNat).toInt) (n := 36) (fun i i0 i1 => h1 i i0 (by omega))
  have s2 := sm_ub (g := fun i : Int => (a 2 i.toNat).toInt) (c := 999) (n := 6) (fun i i0 i1 => (h2 i i0 (by omega)).2)
  refine ⟨fun i i0 i1 => by rw [h1 i i0 i1]; exact Int.le_refl _, fun i i0 i1 => (h2 i i0 i1).1, ?_⟩
  rw [s1]
  omega
/-- a hand's work -/
theorem b_work {r0 : Nat} (hq : q ≠ 36) (B : BDs q C A) (hC : C ≤ 100000) (U : CUm A A1 q 2 x1.toInt x4.toInt) (i0 : 0 ≤ x1.toInt) (i1 : x1.toInt < 6) (e : x4.toInt = ci A q 2 x1.toInt - 1) (p : 0 < ci A q 2 x1.toInt) : po (e_House_finish P F A1 J r0 q x2 x3) (fun r => BDs q C r.2.2.2.1) := by
  have z0 : sm (dgi A) (0 : Int).toNat = 0 := rfl
  have Bn : BDn 0 q 0 C (fun _ k => if k = 8 then 0 else q) (fun _ _ => 0) A := ⟨⟨rfl, rfl, by decide⟩, B.1, B.2.1, by rw [z0]; have := B.2.2; omega⟩
  have B1 := Bn.stuff (d := -1) U i0 i1 (by omega) (by omega)
  exact po_mono (b_finish0 B1 hq (by omega)) (fun r w => (w.2.1.mono (C' := C) (by omega)).fin)
end H9fr
end Qz155
section Qz156
/-! what both sides share between calls -/
section H9f8
variable {n : Nat} {h : Nat} {P P' : Nat → Nat → Nat} {F F' : Nat → Nat → Int32} {A A' : Nat → Nat → Nat → Int32} {J : Nat → Nat → Nat → Int64} {Fm Fm' : Nat → Int32} {Am Am' : Nat → Nat → Int32} {Jm : Nat → Nat → Int64} {f f' : Nat → Int32} {a a' : Nat → Nat → Int32} {g g' : Int → Int}
/-- an evening on both sides, in the house h -/
def SS (h : Nat) (F : Nat → Nat → Int32) (A : Nat → Nat → Nat → Int32) (f : Nat → Int32) (a : Nat → Nat → Int32) (g : Int → Int) : Prop := (∀ k : Int, 0 ≤ k → k < 36 → (a 1 k.toNat).toInt = g (6 + k)) ∧ (∀ k : Int, 0 ≤ k → k < 6 → (a 2 k.toNat).toInt = g k ∧ 0 ≤ (a 2 k.toNat).toInt) ∧ (∀ k : Int, 0 ≤ k → k < 6 → (a 4 k.toNat).toInt = g (72 + k)) ∧ (∀ m : Int, 0 ≤ m → m < (F h 17).toInt → LQx h F A (a 3 m.toNat).toInt (g (42 + m)) (g (48 + m)) ∧ (a 5 m.toNat).toInt = g (54 + m) ∧ (a 6 m.toNat).toInt = g (60 + m) ∧ (a 7 m.toNat).toInt = g (66 + m)) ∧ (f 7).toInt = g 78 ∧ (f 8).toInt = g 79 ∧ B7 (f 7) ∧ BDa a
theorem SS.ok (h17 : (F h 17).toInt ≤ 6) : SOK (SS h F A) := by
  intro f f' a a' g g' e hg s
  obtain ⟨s1, s2, s3, s4, s5, s6, s7⟩ := s
  refine ⟨fun k k0 k1 => ?_, fun k k0 k1 => ?_, fun k k0 k1 => ?_, fun m m0 m1 => ?_, ?_, ?_, ?_, s7.2.cg (fun i i0 i1 => by rw [e.2.2.1 i.toNat (by omega)]) (fun i i0 i1 => by rw [e.2.2.2 2 i.toNat (by decide) (by decide) (by omega)])⟩
  · rw [e.2.2.1 k.toNat (by omega), hg (6 + k) (by omega) (by omega)]
    exact s1 k k0 k1
  · rw [e.2.2.2 2 k.toNat (by decide) (by decide) (by omega), hg k (by omega) (by omega)]
    exact s2 k k0 k1
  · rw [e.2.2.2 4 k.toNat (by decide) (by decide) (by omega), hg (72 + k) (by omega) (by omega)]
    exact s3 k k0 k1
  · rw [e.2.2.2 3 m.toNat (by decide) (by decide) (by omega), e.2.2.2 5 m.toNat (by decide) (by decide) (by omega), e.2.2.2 6 m.toNat (by decide) (by decide) (by omega), e.2.2.2 7 m.toNat (by decide) (by decide) (by omega), hg (42 + m) (by omega) (by omega), hg (48 + m) (by omega) (by omega), hg (54 + m) (by omega) (by omega), hg (60 + m) (by omega) (by omega), hg (66 + m) (by omega) (by omega)]
    exact s4 m m0 m1
  · rw [e.1, hg 78 (by decide) (by decide)]
    exact s5
  · rw [e.2.1, hg 79 (by decide) (by decide)]
    exact s6
  · rw [e.1]
    exact s7.1
theorem SS.hs (S : SS h F A f a g) (h17 : F' h 17 = F h 17) (h16 : F' h 16 = F h 16) (h5 : A' h 5 = A h 5) : SS h F' A' f a g := by
  unfold SS LQx
  rw [h17, h16, ci_fr h5]
  exact S
theorem SS.to {r j : Nat} {b : Int} (s : SS h F A (F' r) (A' r) (fun i => ai Am j (b + i))) (h17 : F' h 17 = F h 17) (h16 : F' h 16 = F h 16) (h5 : A' h 5 = A h 5) : SBx True h r F' A' Am j b ∧ (F' r 7).toInt = ai Am j (b + 78) ∧ (F' r 8).toInt = ai Am j (b + 79) ∧ B7 (F' r 7) := by
  have t := s.hs h17 h16 h5
  exact ⟨⟨t.1, t.2.1, t.2.2.1, fun m m0 m1 => ⟨(t.2.2.2.1 m m0 m1).1, (t.2.2.2.1 m m0 m1).2.1, (t.2.2.2.1 m m0 m1).2.2.1, fun _ => (t.2.2.2.1 m m0 m1).2.2.2⟩⟩, t.2.2.2.2.1, t.2.2.2.2.2.1, t.2.2.2.2.2.2.1⟩
theorem SS.of {r j : Nat} {b : Int} (s : SBx True h r F' A' Am j b) (s7 : (F' r 7).toInt = ai Am j (b + 78)) (s8 : (F' r 8).toInt = ai Am j (b + 79)) (s9 : B7 (F' r 7)) (s10 : BDa (A' r)) (h17 : F' h 17 = F h 17) (h16 : F' h 16 = F h 16) (h5 : A' h 5 = A h 5) : SS h F A (F' r) (A' r) (fun i => ai Am j (b + i)) := by
  have t : SS h F' A' (F' r) (A' r) (fun i => ai Am j (b + i)) := ⟨s.1, s.2.1, s.2.2.1, fun m m0 m1 => ⟨(s.2.2.2 m m0 m1).1, (s.2.2.2 m m0 m1).2.1, (s.2.2.2 m m0 m1).2.2.1, (s.2.2.2 m m0 m1).2.2.2 trivial⟩, s7, s8, s9, s10⟩
  exact t.hs h17.symm h16.symm h5.symm
theorem g_zero {j : Nat} : (fun i => ai Am j i) = (fun i => ai Am j (0 + i)) := funext (fun i => by rw [Int.zero_add])
/-- what was told -/
def TLx (F : Nat → Nat → Int32) (A : Nat → Nat → Nat → Int32) (Am : Nat → Nat → Int32) : Prop := ∀ k : Int, 0 ≤ k → k < (F 25 2).toInt → ci A 25 1 k = 6 * ai Am 58 k + ai Am 59 k ∧ ci A 25 2 k = ai Am 60 k
/-- what both sides share between calls -/
def XR (P : Nat → Nat → Nat) (F : Nat → Nat → Int32) (A : Nat → Nat → Nat → Int32) (Fm : Nat → Int32) (Am : Nat → Nat → Int32) : Prop := NHx (P 0 8) F A Fm Am ∧ SCx F Fm Am ∧ YS (SS (P 0 8) F A) F A Fm Am ∧ WCx (P 0 8) F A ∧ TLx F A Am
theorem kd_st : ∀ r : Nat, r < 32 → (r = 2 ∨ (5 ≤ r ∧ r ≤ 24) ∨ 29 ≤ r) → c_kind r = 2 := by decide
theorem YS.map {S S' : (Nat → Int32) → (Nat → Nat → Int32) → (Int → Int) → Prop} (Y : YS S F A Fm Am) (k : ∀ f a g, S f a g → S' f a g) : YS S' F A Fm Am := ⟨k _ _ _ Y.1, fun u u0 u1 => k _ _ _ (Y.2.1 u u0 u1), fun s hs hb => k _ _ _ (Y.2.2 s hs hb)⟩
/-- a try leaves it -/
theorem XR.tried (X : XR P F A Fm Am) (G : Gc P F A) (q : QFc P P' F F' A A') (k : KT Fm Am Fm' Am') : XR P' F' A' Fm' Am' := by
  obtain ⟨N, C, Y, W, T⟩ := X
  have e8 : P' 0 8 = P 0 8 := q.1.1 0 8 (by decide)
  have hF := (q.1.2.2.1 _ G.live).1
  have hA := (q.1.2.2.1 _ G.live).2
  have hS : SOK (SS (P 0 8) F A) := SS.ok N.ct.2.2.2.2.2
  have st := q.2.1.1
  have sr : ∀ r : Nat, r < 32 → (r = 2 ∨ (5 ≤ r ∧ r ≤ 24) ∨ 29 ≤ r) → SE (F r) (F' r) (A r) (A' r) := fun r h1 h2 => .of (st r (kd_st r h1 h2) (by omega) (by omega)).2 (st r (kd_st r h1 h2) (by omega) (by omega)).1
  have Y' : YS (SS (P 0 8) F A) F' A' Fm' Am' := by
    refine ⟨Y.1.cg hS (sr 2 (by decide) (by decide)) (fun i _ _ => by unfold ai; rw [k.2 47 (by decide)]), ?_, Y.2.2.cg hS (fun r r0 r1 => sr r (by omega) (by omega)) (k.2 61 (by decide)) (k.2 62 (by decide))⟩
    rw [k.1 74 (by decide) (by decide)]
    exact Y.2.1.cg hS (by rw [q.1.2.2.2.2.1 1]) (fun r r0 r1 => sr r (by omega) (by omega)) (k.2 57 (by decide))
  refine ⟨?_, ?_, ?_, ?_, ?_⟩
  · rw [e8]
    exact N.fr hF hA (k.1 18 (by decide) (by decide)) (fun q a b => k.2 q (.inl (by omega)))
  · exact ⟨by rw [q.2.1.2.2 2, k.1 77 (by decide) (by decide)]; exact C.1, by rw [q.1.2.2.2.2.1 2, k.1 74 (by decide) (by decide)]; exact C.2.1, fun s hs => by rw [q.1.2.2.2.2.2.1, k.2 61 (by decide)]; exact C.2.2 s hs⟩
  · rw [e8]
    exact Y'.map (fun f a g s => s.hs (hF 17) (hF 16) (hA 5 (by decide)))
  · rw [e8]
    exact q.2.2 N.kd W
  · intro i i0 i1
    rw [q.2.1.2.2 2] at i1
    rw [ci_fr (q.2.1.2.1 1), ci_fr (q.2.1.2.1 2), ai_fr (k.2 58 (by decide)), ai_fr (k.2 59 (by decide)), ai_fr (k.2 60 (by decide))]
    exact T i i0 i1
theorem p2_try {o : Option (cR Int32)} {u : Option (mR Int32)} (X : XR P F A Fm Am) (G : Gc P F A) (ho : ok o (fun r => QFc P r.2.1 F r.2.2.1 A r.2.2.2.1)) (hu : po u (fun r => KT Fm Am r.2.1 r.2.2.1)) : P2 o u (fun a b => XR a.2.1 a.2.2.1 a.2.2.2.1 b.2.1 b.2.2.1) := p2_of ho.po hu (fun _ _ q k => X.tried G q k)
/-- a hand's work: the evening of now alone changes -/
theorem XR.now (X : XR P F A Fm Am) (G : Gc P F A) (hF : ∀ r k, r ≠ 2 → ¬ (r = 32 ∧ k = 6) → F' r k = F r k) (hA : ∀ r o, r ≠ 2 → A' r o = A r o) (e : Fm' = Fm) (hm : ∀ q, q ≠ 47 → q < 45 ∨ 57 ≤ q → Am' q = Am q) (S : SS (P 0 8) F A (F' 2) (A' 2) (fun i => ai Am' 47 i)) : XR P F' A' Fm' Am' := by
  obtain ⟨N, C, Y, W, T⟩ := X
  subst e
  have n2 : P 0 8 ≠ 2 := G.n2
  have n32 : P 0 8 ≠ 32 := fun e => absurd G.k08 (by rw [e]; decide)
  have hF8 : ∀ k, F' (P 0 8) k = F (P 0 8) k := fun k => hF _ k n2 (fun e => n32 e.1)
  have hA8 : ∀ o, A' (P 0 8) o = A (P 0 8) o := fun o => hA _ o n2
  have hS : SOK (SS (P 0 8) F A) := SS.ok N.ct.2.2.2.2.2
  have sr : ∀ r : Nat, r ≠ 2 → r ≠ 32 → SE (F r) (F' r) (A r) (A' r) := fun r h1 h2 => .of (fun k => hF r k h1 (fun e => h2 e.1)) (fun o => hA r o h1)
  have Y' : YS (SS (P 0 8) F A) F' A' Fm' Am' := ⟨S, Y.2.1.cg hS (by rw [hF 4 1 (by decide) (by decide)]) (fun r r0 r1 => sr r (by omega) (by omega)) (hm 57 (by decide) (by decide)), Y.2.2.cg hS (fun r r0 r1 => sr r (by omega) (by omega)) (hm 61 (by decide) (by decide)) (hm 62 (by decide) (by decide))⟩
  refine ⟨N.fr hF8 (fun o _ => hA8 o) rfl (fun q a b => hm q (by omega) (.inl (by omega))), ?_, Y'.map (fun f a g s => s.hs (hF8 17) (hF8 16) (hA8 5)), W.cg hF8 (fun o _ => hA8 o) (hF 36 101 (by decide) (by decide)) (hA 36 2 (by decide)), ?_⟩
  · exact ⟨by rw [hF 25 2 (by decide) (by decide)]; exact C.1, by rw [hF 4 2 (by decide) (by decide)]; exact C.2.1, fun s hs => by rw [hF 0 10 (by decide) (by decide), hm 61 (by decide) (by decide)]; exact C.2.2 s hs⟩
  · intro i i0 i1
    rw [hF 25 2 (by decide) (by decide)] at i1
    rw [ci_fr (hA 25 1 (by decide)), ci_fr (hA 25 2 (by decide)), ai_fr (hm 58 (by decide) (by decide)), ai_fr (hm 59 (by decide) (by decide)), ai_fr (hm 60 (by decide) (by decide))]
    exact T i i0 i1
theorem w_stale : po (e_Evening_setStale P F A J) (fun z => z.2.1 = P ∧ FUm F z.2.2.1 32 6 (-1) ∧ z.2.2.2.1 = A) := by
  unfold e_Evening_setStale
  exact po_bl (fun F1 h1 => po_some ⟨rfl, gg_cpf h1, rfl⟩)
/-- undo, hold, restore -/
theorem SCx.r74 (S : SAm Fm Am) : 0 ≤ (Fm 74).toInt ∧ (Fm 74).toInt ≤ 20 := S.1 74
end H9f8
end Qz156
section Qz157
/-! the hands' calls, on both sides -/
section H9f9
variable {n : Nat} {h : Nat} {P P' : Nat → Nat → Nat} {F F' : Nat → Nat → Int32} {A A' : Nat → Nat → Nat → Int32} {J : Nat → Nat → Nat → Int64} {Fm Fm' : Nat → Int32} {Am Am' : Nat → Nat → Int32} {Jm : Nat → Nat → Int64} {x1 x2 x3 : Int32} {f f' : Nat → Int32} {a a' : Nat → Nat → Int32} {g g' : Int → Int} {i v t u : Int}
/-- one cell of the evening of now is written -/
def CH (P : Nat → Nat → Nat) (F : Nat → Nat → Int32) (A : Nat → Nat → Nat → Int32) (o : Nat) (i v : Int) (r : cR Int32) : Prop := r.2.1 = P ∧ ((r.1 = 0 ∧ r.2.2.1 = F ∧ r.2.2.2.1 = A) ∨ (r.1 = 1 ∧ (0 ≤ i ∧ i < 6) ∧ FUm F r.2.2.1 32 6 (-1) ∧ CUm A r.2.2.2.1 2 o i v))
def DH (Fm : Nat → Int32) (Am : Nat → Nat → Int32) (i v : Int) (r : mR Int32) : Prop := r.2.1 = Fm ∧ ((r.1 = 0 ∧ r.2.2.1 = Am) ∨ (r.1 = 1 ∧ (∀ q, q ≠ 47 → r.2.2.1 q = Am q) ∧ ai r.2.2.1 47 i = v ∧ ∀ q, 0 ≤ q → q ≠ i → ai r.2.2.1 47 q = ai Am 47 q))
theorem u_cLay : po (e_SleepWork_lay P F A J x1 x2) (CH P F A 4 x1.toInt x2.toInt) := by
  unfold e_SleepWork_lay
  refine po_bl (fun v1 _ => ?_)
  refine po_cond (fun _ => po_some ⟨rfl, .inl ⟨rfl, rfl, rfl⟩⟩) (fun _ => ?_)
  refine po_bl (fun v3 _ => ?_)
  refine po_cond (fun _ => ?_) (fun _ => po_some ⟨rfl, .inl ⟨rfl, rfl, rfl⟩⟩)
  refine po_bl (fun A5 h5 => ?_)
  have U := gg_cst h5
  refine po_call w_stale ?_
  rintro ⟨u, P7, F8, A9, J10⟩ ⟨w1, w2, w3⟩
  dsimp only at w1 w2 w3 ⊢
  rw [w1, w3]
  exact po_some ⟨rfl, .inr ⟨rfl, ⟨U.1, U.2.1⟩, w2, U.2.2⟩⟩
theorem u_cGive : po (e_SleepWork_give P F A J x1 x2) (CH P F A 4 x1.toInt (100 + x2).toInt) := by
  unfold e_SleepWork_give
  refine po_bl (fun v1 _ => ?_)
  refine po_cond (fun _ => po_some ⟨rfl, .inl ⟨rfl, rfl, rfl⟩⟩) (fun _ => ?_)
  refine po_bl (fun v3 _ => ?_)
  refine po_cond (fun _ => ?_) (fun _ => po_some ⟨rfl, .inl ⟨rfl, rfl, rfl⟩⟩)
  refine po_bl (fun A5 h5 => ?_)
  have U := gg_cst h5
  refine po_call w_stale ?_
  rintro ⟨u, P7, F8, A9, J10⟩ ⟨w1, w2, w3⟩
  dsimp only at w1 w2 w3 ⊢
  rw [w1, w3]
  exact po_some ⟨rfl, .inr ⟨rfl, ⟨U.1, U.2.1⟩, w2, U.2.2⟩⟩
theorem i_72 {k x : Int32} (hk : 0 ≤ k.toInt ∧ k.toInt ≤ 100) (hx : 0 ≤ x.toInt ∧ x.toInt ≤ 12) : (k + x).toInt = k.toInt + x.toInt := i_add (by omega) (by omega)
theorem u_dLay (S : SAm Fm Am) : po (d_lay Fm Am Jm x1 x2) (DH Fm Am (72 + x1.toInt) x2.toInt) := by
  have l72 : (72 : Int32).toInt = 72 := by decide
  have c := S.cnt (j := 17) (by omega)
  unfold d_lay
  refine po_call (v_dTool S) ?_
  intro v b
  rcases b with ⟨rfl, p⟩ | ⟨rfl, p⟩
  · refine po_cond (fun c => absurd c (by decide)) (fun _ => ?_)
    refine po_bl (fun v3 _ => ?_)
    refine po_cond (fun _ => ?_) (fun _ => po_some ⟨rfl, .inl ⟨rfl, rfl⟩⟩)
    refine po_bl (fun A5 h5 => po_some ⟨rfl, .inr ⟨rfl, ?_⟩⟩)
    have U := (gg_st h5).2.2
    have e := i_72 (k := 72) (x := x1) (by decide) (by omega)
    rw [l72] at e
    rw [e] at U
    exact ⟨U.1, U.2.1, U.2.2⟩
  · exact po_cond (fun _ => po_some ⟨rfl, .inl ⟨rfl, rfl⟩⟩) (fun c => absurd c (by decide))
theorem u_dGive (S : SAm Fm Am) : po (d_give Fm Am Jm x1 x2) (DH Fm Am (72 + x1.toInt) (100 + x2).toInt) := by
  have l72 : (72 : Int32).toInt = 72 := by decide
  have c := S.cnt (j := 17) (by omega)
  unfold d_give
  refine po_call (v_dTool S) ?_
  intro v b
  rcases b with ⟨rfl, p⟩ | ⟨rfl, p⟩
  · refine po_cond (fun c => absurd c (by decide)) (fun _ => ?_)
    refine po_bl (fun v3 _ => ?_)
    refine po_cond (fun _ => ?_) (fun _ => po_some ⟨rfl, .inl ⟨rfl, rfl⟩⟩)
    refine po_bl (fun A5 h5 => po_some ⟨rfl, .inr ⟨rfl, ?_⟩⟩)
    have U := (gg_st h5).2.2
    have e := i_72 (k := 72) (x := x1) (by decide) (by omega)
    rw [l72] at e
    rw [e] at U
    exact ⟨U.1, U.2.1, U.2.2⟩
  · exact po_cond (fun _ => po_some ⟨rfl, .inl ⟨rfl, rfl⟩⟩) (fun c => absurd c (by decide))
theorem SS.tool (s : SS h F A f a g) (h7 : f' 7 = f 7) (h8 : f' 8 = f 8) (ha : ∀ o, o ≠ 4 → a' o = a o) (h4 : ∀ k : Int, 0 ≤ k → k ≠ i → (a' 4 k.toNat).toInt = (a 4 k.toNat).toInt) (h4i : (a' 4 i.toNat).toInt = v) (hg : ∀ q, 0 ≤ q → q ≠ 72 + i → g' q = g q) (hgi : g' (72 + i) = v) (i0 : 0 ≤ i) (i6 : i < 6) (nm : (F h 17).toInt ≤ 6) : SS h F A f' a' g' := by
  obtain ⟨s1, s2, s3, s4, s5, s6, s7⟩ := s
  refine ⟨fun k k0 k1 => ?_, fun k k0 k1 => ?_, fun k k0 k1 => ?_, fun m m0 m1 => ?_, ?_, ?_, by rw [h7]; exact s7.1, s7.2.fr (ha 1 (by decide)) (ha 2 (by decide))⟩
  · rw [ha 1 (by decide), hg _ (by omega) (by omega)]
    exact s1 k k0 k1
  · rw [ha 2 (by decide), hg _ (by omega) (by omega)]
    exact s2 k k0 k1
  · by_cases e : k = i
    · rw [e, h4i, hgi]
    · rw [h4 k k0 e, hg _ (by omega) (by omega)]
      exact s3 k k0 k1
  · rw [ha 3 (by decide), ha 5 (by decide), ha 6 (by decide), ha 7 (by decide), hg _ (by omega) (by omega), hg _ (by omega) (by omega), hg _ (by omega) (by omega), hg _ (by omega) (by omega), hg _ (by omega) (by omega)]
    exact s4 m m0 m1
  · rw [h7, hg _ (by omega) (by omega)]
    exact s5
  · rw [h8, hg _ (by omega) (by omega)]
    exact s6
theorem SS.left (s : SS h F A f a g) (h7 : f' 7 = f 7) (h8 : f' 8 = f 8) (ha : ∀ o, o ≠ 3 → a' o = a o) (h3 : ∀ k : Int, 0 ≤ k → k ≠ i → (a' 3 k.toNat).toInt = (a 3 k.toNat).toInt) (h3i : (a' 3 i.toNat).toInt = v) (hg : ∀ q, 0 ≤ q → q ≠ 42 + i → q ≠ 48 + i → g' q = g q) (hgt : g' (42 + i) = t) (hgu : g' (48 + i) = u) (L : LQx h F A v t u) (i0 : 0 ≤ i) (i6 : i < 6) (nm : (F h 17).toInt ≤ 6) : SS h F A f' a' g' := by
  obtain ⟨s1, s2, s3, s4, s5, s6, s7⟩ := s
  refine ⟨fun k k0 k1 => ?_, fun k k0 k1 => ?_, fun k k0 k1 => ?_, fun m m0 m1 => ?_, ?_, ?_, by rw [h7]; exact s7.1, s7.2.fr (ha 1 (by decide)) (ha 2 (by decide))⟩
  · rw [ha 1 (by decide), hg _ (by omega) (by omega) (by omega)]
    exact s1 k k0 k1
  · rw [ha 2 (by decide), hg _ (by omega) (by omega) (by omega)]
    exact s2 k k0 k1
  · rw [ha 4 (by decide), hg _ (by omega) (by omega) (by omega)]
    exact s3 k k0 k1
  · have e := s4 m m0 m1
    rw [ha 5 (by decide), ha 6 (by decide), ha 7 (by decide), hg (54 + m) (by omega) (by omega) (by omega), hg (60 + m) (by omega) (by omega) (by omega), hg (66 + m) (by omega) (by omega) (by omega)]
    refine ⟨?_, e.2⟩
    by_cases hm : m = i
    · rw [hm, h3i, hgt, hgu]
      exact L
    · rw [h3 m m0 hm, hg (42 + m) (by omega) (by omega) (by omega), hg (48 + m) (by omega) (by omega) (by omega)]
      exact e.1
  · rw [h7, hg _ (by omega) (by omega) (by omega)]
    exact s5
  · rw [h8, hg _ (by omega) (by omega) (by omega)]
    exact s6
/-- the frames of a hand's cell -/
theorem CH.fr {o : Nat} {r : cR Int32} (U : FUm F r.2.2.1 32 6 (-1)) (V : CUm A r.2.2.2.1 2 o i v) : (∀ q k, q ≠ 2 → ¬ (q = 32 ∧ k = 6) → r.2.2.1 q k = F q k) ∧ (∀ q p, q ≠ 2 → r.2.2.2.1 q p = A q p) ∧ (r.2.2.1 2 7 = F 2 7 ∧ r.2.2.1 2 8 = F 2 8) ∧ (∀ p, p ≠ o → r.2.2.2.1 2 p = A 2 p) := ⟨fun q k _ h => U.2 q k h, fun q p h => V.2.2 q p (fun e => h e.1), ⟨U.2 2 7 (by decide), U.2 2 8 (by decide)⟩, fun p h => V.2.2 2 p (fun e => h e.2)⟩
theorem p2_toolX {o : Option (cR Int32)} {w : Option (mR Int32)} (X : XR P F A Fm Am) (G : Gc P F A) (ho : po o (CH P F A 4 i v)) (hw : po w (DH Fm Am (72 + i) v)) (e : P2 o w (fun a b => a.1 = b.1)) : P2 o w (fun a b => a.1 = b.1 ∧ XR a.2.1 a.2.2.1 a.2.2.2.1 b.2.1 b.2.2.1) := by
  intro a b ha hb
  have e1 : a.1 = b.1 := e a b ha hb
  obtain ⟨p1, c⟩ := ho a ha
  obtain ⟨d1, d⟩ := hw b hb
  refine ⟨e1, ?_⟩
  have n17 := X.1.ct.2.2.2.2.2
  rcases c with ⟨c0, cF, cA⟩ | ⟨c0, ci', cF, cA⟩
  · rcases d with ⟨d0, dA⟩ | ⟨d0, -⟩
    · rw [p1, cF, cA, d1, dA]
      exact X
    · rw [c0, d0] at e1
      exact absurd e1 (by decide)
  · rcases d with ⟨d0, dA⟩ | ⟨d0, m1, m2, m3⟩
    · rw [c0, d0] at e1
      exact absurd e1 (by decide)
    · have fr := CH.fr cF cA
      rw [p1]
      refine X.now G fr.1 fr.2.1 d1 (fun q hq _ => m1 q hq) ?_
      exact X.2.2.1.1.tool fr.2.2.1.1 fr.2.2.1.2 fr.2.2.2 (fun k k0 hk => cA.2.1 k k0 hk) cA.1 m3 m2 ci'.1 ci'.2 n17
theorem p2_layX (X : XR P F A Fm Am) (G : Gc P F A) (S : SAm Fm Am) : P2 (e_SleepWork_lay P F A J x1 x2) (d_lay Fm Am Jm x1 x2) (fun a b => a.1 = b.1 ∧ XR a.2.1 a.2.2.1 a.2.2.2.1 b.2.1 b.2.2.1) := p2_toolX X G u_cLay (u_dLay S) (p2_lay G S X.1.1)
theorem p2_giveX (X : XR P F A Fm Am) (G : Gc P F A) (S : SAm Fm Am) : P2 (e_SleepWork_give P F A J x1 x2) (d_give Fm Am Jm x1 x2) (fun a b => a.1 = b.1 ∧ XR a.2.1 a.2.2.1 a.2.2.2.1 b.2.1 b.2.2.1) := p2_toolX X G u_cGive (u_dGive S) (p2_give G S X.1.1)
/-- bar -/
theorem u_cBar : po (e_SleepWork_bar P F A J x1 x2) (fun r => r.2.1 = P ∧ ((r.1 = 0 ∧ r.2.2.1 = F ∧ r.2.2.2.1 = A) ∨ (r.1 = 1 ∧ (∀ q k, ¬ (q = 2 ∧ k = 7) → ¬ (q = 32 ∧ k = 6) → r.2.2.1 q k = F q k) ∧ r.2.2.1 2 7 = (if x2 = 0 then F 2 7 &&& (((1 : Int32) <<< (x1 &&& 31)) ^^^ (-1)) else F 2 7 ||| ((1 : Int32) <<< (x1 &&& 31))) ∧ r.2.2.2.1 = A))) := by
  have f52 : ∀ s1 : Int32, po (e_SleepWork_bar_52 P F A J 2 s1) (fun r => r.1 = 1 ∧ r.2.1 = P ∧ (∀ q k, ¬ (q = 2 ∧ k = 7) → ¬ (q = 32 ∧ k = 6) → r.2.2.1 q k = F q k) ∧ r.2.2.1 2 7 = s1 ∧ r.2.2.2.1 = A) := by
    intro s1
    unfold e_SleepWork_bar_52
    refine po_bl (fun F5 h5 => ?_)
    have U := gg_cpf h5
    refine po_call w_stale ?_
    rintro ⟨u, P7, F8, A9, J10⟩ ⟨w1, w2, w3⟩
    dsimp only at w1 w2 w3 ⊢
    exact po_some ⟨rfl, w1, fun q k a b => (w2.2 q k b).trans (U.2 q k a), (w2.2 2 7 (by decide)).trans U.1, w3⟩
  unfold e_SleepWork_bar
  refine po_cond (fun _ => po_some ⟨rfl, .inl ⟨rfl, rfl, rfl⟩⟩) (fun _ => ?_)
  refine po_bl (fun q2 _ => ?_)
  refine po_cond (fun _ => ?_) (fun _ => po_some ⟨rfl, .inl ⟨rfl, rfl, rfl⟩⟩)
  refine po_cond (fun c => po_mono (f52 _) (fun r h => ⟨h.2.1, .inr ⟨h.1, h.2.2.1, ?_, h.2.2.2.2⟩⟩)) (fun c => po_mono (f52 _) (fun r h => ⟨h.2.1, .inr ⟨h.1, h.2.2.1, ?_, h.2.2.2.2⟩⟩))
  · rw [i_eq] at c
    rw [if_pos (i_ext c)]
    exact h.2.2.2.1
  · rw [i_neq] at c
    rw [if_neg (fun e => c (by rw [e]))]
    exact h.2.2.2.1
theorem u_dBar : po (d_bar Fm Am Jm x1 x2) (fun r => r.2.1 = Fm ∧ ((r.1 = 0 ∧ r.2.2.1 = Am) ∨ (r.1 = 1 ∧ (∀ q, q ≠ 47 → r.2.2.1 q = Am q) ∧ (∀ q, 0 ≤ q → q ≠ 78 → ai r.2.2.1 47 q = ai Am 47 q) ∧ ai r.2.2.1 47 78 = (if x2 = 0 then Am 47 78 &&& (((1 : Int32) <<< (x1 &&& 31)) ^^^ (-1)) else Am 47 78 ||| ((1 : Int32) <<< (x1 &&& 31))).toInt))) := by
  have l78 : (78 : Int32).toInt = 78 := by decide
  have f58 : ∀ {s1 s2 : Int32}, s1.toInt = 78 → po (d_bar_58 Fm Am Jm s1 s2) (fun r => r.1 = 1 ∧ r.2.1 = Fm ∧ (∀ q, q ≠ 47 → r.2.2.1 q = Am q) ∧ (∀ q, 0 ≤ q → q ≠ 78 → ai r.2.2.1 47 q = ai Am 47 q) ∧ ai r.2.2.1 47 78 = s2.toInt) := by
    intro s1 s2 e
    unfold d_bar_58
    refine po_bl (fun A7 h7 => po_some ?_)
    have U := (gg_st h7).2.2
    rw [e] at U
    exact ⟨rfl, rfl, U.1, U.2.2, U.2.1⟩
  unfold d_bar
  refine po_bl (fun v1 _ => po_bl (fun v2 _ => ?_))
  refine po_cond (fun _ => ?_) (fun _ => po_some ⟨rfl, .inl ⟨rfl, rfl⟩⟩)
  refine po_cond (fun c => po_bl (fun v5 h5 => po_mono (f58 l78) (fun r h => ⟨h.2.1, .inr ⟨h.1, h.2.2.1, h.2.2.2.1, ?_⟩⟩))) (fun c => po_bl (fun v5 h5 => po_mono (f58 l78) (fun r h => ⟨h.2.1, .inr ⟨h.1, h.2.2.1, h.2.2.2.1, ?_⟩⟩)))
  · have e5 : v5 = Am 47 78 := by
      rw [(gg_ld h5).2.2, l78]
      rfl
    rw [i_eq] at c
    rw [if_pos (i_ext c), ← e5]
    exact h.2.2.2.2
  · have e5 : v5 = Am 47 78 := by
      rw [(gg_ld h5).2.2, l78]
      rfl
    rw [i_neq] at c
    rw [if_neg (fun e => c (by rw [e])), ← e5]
    exact h.2.2.2.2
theorem p2_barX (X : XR P F A Fm Am) (G : Gc P F A) (S : SAm Fm Am) : P2 (e_SleepWork_bar P F A J x1 x2) (d_bar Fm Am Jm x1 x2) (fun a b => a.1 = b.1 ∧ XR a.2.1 a.2.2.1 a.2.2.2.1 b.2.1 b.2.2.1) := by
  intro a b ha hb
  have e1 : a.1 = b.1 := p2_bar G S X.1.1 a b ha hb
  obtain ⟨p1, c⟩ := u_cBar a ha
  obtain ⟨d1, d⟩ := u_dBar b hb
  refine ⟨e1, ?_⟩
  have n17 := X.1.ct.2.2.2.2.2
  have hx : a.1 = 1 → 0 ≤ x1.toInt ∧ x1.toInt < 12 := fun e => by
    have n14 := X.1.ct.2.1.2
    rcases v_cBar a ha with ⟨-, p⟩ | ⟨z, -⟩
    · omega
    · rw [z] at e
      exact absurd e (by decide)
  rcases c with ⟨c0, cF, cA⟩ | ⟨c0, cF, c7, cA⟩
  · rcases d with ⟨d0, dA⟩ | ⟨d0, -⟩
    · rw [p1, cF, cA, d1, dA]
      exact X
    · rw [c0, d0] at e1
      exact absurd e1 (by decide)
  · rcases d with ⟨d0, dA⟩ | ⟨d0, m1, m2, m3⟩
    · rw [c0, d0] at e1
      exact absurd e1 (by decide)
    · rw [p1]
      refine X.now G (fun q k h1 h2 => cF q k (fun e => h1 e.1) h2) (fun q o h => by rw [cA]) d1 (fun q hq _ => m1 q hq) ?_
      obtain ⟨s1, s2, s3, s4, s5, s6, s7⟩ := X.2.2.1.1
      have e78 : F 2 7 = Am 47 78 := i_ext s5
      refine ⟨fun k k0 k1 => ?_, fun k k0 k1 => ?_, fun k k0 k1 => ?_, fun m k0 k1 => ?_, ?_, ?_, ?_, s7.2.fr (by rw [cA]) (by rw [cA])⟩
      · rw [cA]
        show _ = ai b.2.2.1 47 (6 + k)
        rw [m2 _ (by omega) (by omega)]
        exact s1 k k0 k1
      · rw [cA]
        show _ = ai b.2.2.1 47 k ∧ _
        rw [m2 _ (by omega) (by omega)]
        exact s2 k k0 k1
      · rw [cA]
        show _ = ai b.2.2.1 47 (72 + k)
        rw [m2 _ (by omega) (by omega)]
        exact s3 k k0 k1
      · rw [cA]
        show LQx (P 0 8) F A _ (ai b.2.2.1 47 (42 + m)) (ai b.2.2.1 47 (48 + m)) ∧ _ = ai b.2.2.1 47 (54 + m) ∧ _ = ai b.2.2.1 47 (60 + m) ∧ _ = ai b.2.2.1 47 (66 + m)
        rw [m2 _ (by omega) (by omega), m2 _ (by omega) (by omega), m2 _ (by omega) (by omega), m2 _ (by omega) (by omega), m2 _ (by omega) (by omega)]
        exact s4 m k0 k1
      · show (a.2.2.1 2 7).toInt = ai b.2.2.1 47 78
        rw [c7, m3, e78]
      · show (a.2.2.1 2 8).toInt = ai b.2.2.1 47 79
        rw [cF 2 8 (by decide) (by decide), m2 79 (by decide) (by decide)]
        exact s6
      · rw [c7]
        by_cases e2 : x2 = 0
        · rw [if_pos e2]
          exact b7_and s7.1
        · rw [if_neg e2]
          refine b7_or s7.1 ?_
          have z : 0 ≤ x1.toInt ∧ x1.toInt < 12 := hx c0
          have ex : x1 = Int32.ofNat x1.toInt.toNat := i_nat z.1
          rw [ex]
          exact b7_shl ⟨x1.toInt.toNat, by omega⟩
end H9f9
end Qz157
section Qz158
/-! leave and work, on both sides; undo, hold, restore, tell, forget with all that is shared -/
section H9fa
variable {n : Nat} {h : Nat} {P P' : Nat → Nat → Nat} {F F' : Nat → Nat → Int32} {A A' : Nat → Nat → Nat → Int32} {J : Nat → Nat → Nat → Int64} {Fm Fm' : Nat → Int32} {Am Am' : Nat → Nat → Int32} {Jm : Nat → Nat → Int64} {x1 x2 x3 : Int32}
theorem u_cLeave (h16 : (F (P 0 8) 16).toInt ≤ 6) (h5 : ∀ t, 0 ≤ t → ci A (P 0 8) 5 t ≤ 6) : po (e_SleepWork_leave P F A J x1 x2 x3) (fun r => ∃ v, CH P F A 3 x1.toInt v r ∧ (r.1 = 1 → (x2.toInt = -1 ∧ x3.toInt = -1 ∧ v = -1) ∨ (0 ≤ x2.toInt ∧ x2.toInt < (F (P 0 8) 16).toInt ∧ 0 ≤ x3.toInt ∧ x3.toInt < ci A (P 0 8) 5 x2.toInt ∧ v = x2.toInt * 6 + x3.toInt))) := by
  have lm : ((-1 : Int32)).toInt = -1 := by decide
  have none : ∀ {r : cR Int32}, r.1 = 0 → r.2.1 = P → r.2.2.1 = F → r.2.2.2.1 = A → ∃ v, CH P F A 3 x1.toInt v r ∧ (r.1 = 1 → (x2.toInt = -1 ∧ x3.toInt = -1 ∧ v = -1) ∨ (0 ≤ x2.toInt ∧ x2.toInt < (F (P 0 8) 16).toInt ∧ 0 ≤ x3.toInt ∧ x3.toInt < ci A (P 0 8) 5 x2.toInt ∧ v = x2.toInt * 6 + x3.toInt)) := fun a b c d => ⟨0, ⟨b, .inl ⟨a, c, d⟩⟩, fun e => absurd (a.symm.trans e) (by decide)⟩
  have f69 : ∀ {s2 : Int32}, ((x2.toInt = -1 ∧ x3.toInt = -1 ∧ s2.toInt = -1) ∨ (0 ≤ x2.toInt ∧ x2.toInt < (F (P 0 8) 16).toInt ∧ 0 ≤ x3.toInt ∧ x3.toInt < ci A (P 0 8) 5 x2.toInt ∧ s2.toInt = x2.toInt * 6 + x3.toInt)) → po (e_SleepWork_leave_69 P F A J x1 s2) (fun r => ∃ v, CH P F A 3 x1.toInt v r ∧ (r.1 = 1 → (x2.toInt = -1 ∧ x3.toInt = -1 ∧ v = -1) ∨ (0 ≤ x2.toInt ∧ x2.toInt < (F (P 0 8) 16).toInt ∧ 0 ≤ x3.toInt ∧ x3.toInt < ci A (P 0 8) 5 x2.toInt ∧ v = x2.toInt * 6 + x3.toInt))) := by
    intro s2 hs
    unfold e_SleepWork_leave_69
    refine po_bl (fun A10 h10 => ?_)
    have U := gg_cst h10
    refine po_call w_stale ?_
    rintro ⟨u, P7, F8, A9, J10⟩ ⟨w1, w2, w3⟩
    dsimp only at w1 w2 w3 ⊢
    rw [w1, w3]
    exact po_some ⟨s2.toInt, ⟨rfl, .inr ⟨rfl, ⟨U.1, U.2.1⟩, w2, U.2.2⟩⟩, fun _ => hs⟩
  have two : 0 ≤ x2.toInt ∧ x2.toInt < (F (P 0 8) 16).toInt ∧ 0 ≤ x3.toInt ∧ x3.toInt < ci A (P 0 8) 5 x2.toInt → (x2 * 6 + x3).toInt = x2.toInt * 6 + x3.toInt := fun q => by
    have := h5 x2.toInt q.1
    have m := i_mulR (c := 6) (k := 6) (x := x2) (by decide) (by omega) (by omega)
    rw [i_add (by rw [m]; omega) (by rw [m]; omega), m]
  unfold e_SleepWork_leave
  refine po_bl (fun v1 _ => ?_)
  refine po_cond (fun _ => ?_) (fun _ => po_some (none rfl rfl rfl rfl))
  have f24 : ¬ (x2.toInt = -1 ∧ x3.toInt = -1) → po (e_SleepWork_leave_24 P F A J x1 x2 x3) (fun r => ∃ v, CH P F A 3 x1.toInt v r ∧ (r.1 = 1 → (x2.toInt = -1 ∧ x3.toInt = -1 ∧ v = -1) ∨ (0 ≤ x2.toInt ∧ x2.toInt < (F (P 0 8) 16).toInt ∧ 0 ≤ x3.toInt ∧ x3.toInt < ci A (P 0 8) 5 x2.toInt ∧ v = x2.toInt * 6 + x3.toInt))) := fun hn => by
    unfold e_SleepWork_leave_24 e_SleepWork_leave_25
    refine po_cond (fun c => absurd c (by decide)) (fun _ => ?_)
    refine po_bl (fun _ h => ?_)
    obtain ⟨-, rfl⟩ := gg_chk h
    refine po_call v_cStep ?_
    intro v b
    rcases b with ⟨rfl, p2⟩ | ⟨rfl, p2⟩
    · refine po_cond (fun _ => ?_) (fun c => absurd c (by decide))
      unfold e_SleepWork_leave_46
      exact po_cond (fun _ => f69 (.inr ⟨p2.1, p2.2.1, p2.2.2.1, p2.2.2.2, two p2⟩)) (fun c => absurd c (by decide))
    · exact po_cond (fun c => absurd c (by decide)) (fun _ => po_some (none rfl rfl rfl rfl))
  refine po_cond (fun c => ?_) (fun c => ?_)
  · rw [i_ne, lm] at c
    exact f24 (fun h => c h.1)
  · rw [i_nne, lm] at c
    refine po_cond (fun c2 => ?_) (fun c2 => ?_)
    · rw [i_ne, lm] at c2
      exact f24 (fun h => c2 h.2)
    · rw [i_nne, lm] at c2
      unfold e_SleepWork_leave_25
      refine po_cond (fun _ => ?_) (fun c => absurd c (by decide))
      unfold e_SleepWork_leave_46
      exact po_cond (fun c => absurd c (by decide)) (fun _ => f69 (.inl ⟨c, c2, lm⟩))
theorem u_dLeave (S : SAm Fm Am) : po (d_leave Fm Am Jm x1 x2 x3) (fun r => r.2.1 = Fm ∧ ((r.1 = 0 ∧ r.2.2.1 = Am) ∨ (r.1 = 1 ∧ (∀ q, q ≠ 47 → r.2.2.1 q = Am q) ∧ ai r.2.2.1 47 (42 + x1.toInt) = x2.toInt ∧ ai r.2.2.1 47 (48 + x1.toInt) = x3.toInt ∧ ∀ q, 0 ≤ q → q ≠ 42 + x1.toInt → q ≠ 48 + x1.toInt → ai r.2.2.1 47 q = ai Am 47 q))) := by
  have l42 : (42 : Int32).toInt = 42 := by decide
  have l48 : (48 : Int32).toInt = 48 := by decide
  have c := S.cnt (j := 29) (by omega)
  unfold d_leave
  refine po_call (v_dMan S) ?_
  intro v b
  rcases b with ⟨rfl, p⟩ | ⟨rfl, p⟩
  · refine po_cond (fun c => absurd c (by decide)) (fun _ => ?_)
    refine po_bl (fun v3 _ => ?_)
    refine po_cond (fun _ => ?_) (fun _ => po_some ⟨rfl, .inl ⟨rfl, rfl⟩⟩)
    refine po_bl (fun A5 h5 => po_bl (fun A6 h6 => po_some ⟨rfl, .inr ⟨rfl, ?_⟩⟩))
    have U := (gg_st h5).2.2
    have V := (gg_st h6).2.2
    have e := i_72 (k := 42) (x := x1) (by decide) (by omega)
    have e2 := i_72 (k := 48) (x := x1) (by decide) (by omega)
    rw [l42] at e
    rw [l48] at e2
    rw [e] at U
    rw [e2] at V
    exact ⟨fun q hq => (V.1 q hq).trans (U.1 q hq), (V.2.2 _ (by omega) (by omega)).trans U.2.1, V.2.1, fun q q0 a b => (V.2.2 q q0 b).trans (U.2.2 q q0 a)⟩
  · exact po_cond (fun _ => po_some ⟨rfl, .inl ⟨rfl, rfl⟩⟩) (fun c => absurd c (by decide))
theorem p2_leaveX (X : XR P F A Fm Am) (G : Gc P F A) (S : SAm Fm Am) : P2 (e_SleepWork_leave P F A J x1 x2 x3) (d_leave Fm Am Jm x1 x2 x3) (fun a b => a.1 = b.1 ∧ XR a.2.1 a.2.2.1 a.2.2.2.1 b.2.1 b.2.2.1) := by
  intro a b ha hb
  have e1 : a.1 = b.1 := p2_leave G S X.1.1 a b ha hb
  have n17 := X.1.ct.2.2.2.2.2
  obtain ⟨v, ⟨p1, c⟩, q⟩ := u_cLeave X.1.ct.2.2.2.1.2 (fun t t0 => (X.1.s6 t0).2) a ha
  obtain ⟨d1, d⟩ := u_dLeave S b hb
  refine ⟨e1, ?_⟩
  rcases c with ⟨c0, cF, cA⟩ | ⟨c0, ci', cF, cA⟩
  · rcases d with ⟨d0, dA⟩ | ⟨d0, -⟩
    · rw [p1, cF, cA, d1, dA]
      exact X
    · rw [c0, d0] at e1
      exact absurd e1 (by decide)
  · rcases d with ⟨d0, dA⟩ | ⟨d0, m1, m2, m3, m4⟩
    · rw [c0, d0] at e1
      exact absurd e1 (by decide)
    · have fr := CH.fr cF cA
      rw [p1]
      refine X.now G fr.1 fr.2.1 d1 (fun q hq _ => m1 q hq) ?_
      refine X.2.2.1.1.left fr.2.2.1.1 fr.2.2.1.2 fr.2.2.2 (fun k k0 hk => cA.2.1 k k0 hk) cA.1 m4 m2 m3 ?_ ci'.1 ci'.2 n17
      rcases q c0 with ⟨a1, a2, a3⟩ | ⟨a1, a2, a3, a4, a5⟩
      · exact .inl ⟨a3, a1, a2⟩
      · exact .inr ⟨a1, a2, a3, a4, a5⟩
/-- the two scalars and the relation of what is kept, together -/
theorem p2_undoR (X : XR P F A Fm Am) (G : Gc P F A) (S : SAm Fm Am) : P2 (e_SleepWork_undo P F A J) (d_undo n Fm Am Jm) (fun a b => a.1 = b.1 ∧ XR a.2.1 a.2.2.1 a.2.2.2.1 b.2.1 b.2.2.1) := by
  intro a b ha hb
  have sc : a.1 = b.1 ∧ SCx a.2.2.1 b.2.1 b.2.2.1 := p2_undo G S ⟨X.1.1, X.2.1⟩ a b ha hb
  have yy : YS (SS (P 0 8) F A) a.2.2.1 a.2.2.2.1 b.2.1 b.2.2.1 := p2_undoX (SS.ok X.1.ct.2.2.2.2.2) G.1 (SCx.r74 S) X.2.1.2.1 X.2.2.1 a b ha hb
  obtain ⟨p, h2, h3, h32, h5, -⟩ := v_cUndo3 G.1 a ha
  obtain ⟨d1, d2⟩ := r_undo (SCx.r74 S) b hb
  have dA : ∀ q, q ≠ 47 → b.2.2.1 q = Am q := fun q hq => by
    rcases d2 with ⟨-, -, -, e⟩ | ⟨-, -, -, e⟩
    · rw [e]
    · exact e.1 q hq
  have n2 : P 0 8 ≠ 2 := G.n2
  have n4 : P 0 8 ≠ 4 := fun e => absurd G.k08 (by rw [e]; decide)
  have n32 : P 0 8 ≠ 32 := fun e => absurd G.k08 (by rw [e]; decide)
  have hF8 : ∀ k, a.2.2.1 (P 0 8) k = F (P 0 8) k := fun k => h2 _ k n2 n4 n32
  have hA8 : ∀ o, a.2.2.2.1 (P 0 8) o = A (P 0 8) o := fun o => h5 _ o n2
  refine ⟨sc.1, ?_⟩
  rw [p]
  refine ⟨X.1.fr hF8 (fun o _ => hA8 o) (d1 18 (by decide)) (fun q _ _ => dA q (by omega)), sc.2, yy.map (fun f a g s => s.hs (hF8 17) (hF8 16) (hA8 5)), X.2.2.2.1.cg hF8 (fun o _ => hA8 o) (h2 36 101 (by decide) (by decide) (by decide)) (h5 36 2 (by decide)), ?_⟩
  intro i i0 i1
  rw [h2 25 2 (by decide) (by decide) (by decide)] at i1
  rw [ci_fr (h5 25 1 (by decide)), ci_fr (h5 25 2 (by decide)), ai_fr (dA 58 (by decide)), ai_fr (dA 59 (by decide)), ai_fr (dA 60 (by decide))]
  exact X.2.2.2.2 i i0 i1
theorem p2_holdR (X : XR P F A Fm Am) (G : Gc P F A) (S : SAm Fm Am) : P2 (e_SleepWork_hold P F A J x1) (d_hold n Fm Am Jm x1) (fun a b => a.1 = b.1 ∧ XR a.2.1 a.2.2.1 a.2.2.2.1 b.2.1 b.2.2.1) := by
  intro a b ha hb
  have sc : a.1 = b.1 ∧ SCx a.2.2.1 b.2.1 b.2.2.1 := p2_hold G S ⟨X.1.1, X.2.1⟩ a b ha hb
  have yy : YS (SS (P 0 8) F A) a.2.2.1 a.2.2.2.1 b.2.1 b.2.2.1 := p2_holdX (SS.ok X.1.ct.2.2.2.2.2) X.2.2.1 a b ha hb
  obtain ⟨p, h1⟩ := v_cHold3 a ha
  obtain ⟨d1, d2⟩ := r_hold b hb
  have hh : (∀ q k, q < 29 ∨ 31 < q → ¬ (q = 0 ∧ k = 10) → a.2.2.1 q k = F q k) ∧ ∀ q o, q < 29 ∨ 31 < q → a.2.2.2.1 q o = A q o := by
    rcases h1 with ⟨-, ef, ea⟩ | ⟨z, hf, ha', -⟩
    · exact ⟨fun q k _ _ => by rw [ef], fun q o _ => by rw [ea]⟩
    · exact ⟨fun q k hq hk => hf q k (by omega) hk, fun q o hq => ha' q o (by omega)⟩
  have dA : ∀ q, q ≠ 61 → q ≠ 62 → b.2.2.1 q = Am q := fun q h6 h7 => by
    rcases d2 with ⟨-, e⟩ | ⟨-, A3, k1, -, e⟩
    · rw [e]
    · exact (e.1 q h7).trans (k1 q h6)
  have lv := G.live
  have hF8 : ∀ k, a.2.2.1 (P 0 8) k = F (P 0 8) k := fun k => hh.1 _ k (by omega) (by omega)
  have hA8 : ∀ o, a.2.2.2.1 (P 0 8) o = A (P 0 8) o := fun o => hh.2 _ o (by omega)
  refine ⟨sc.1, ?_⟩
  rw [p]
  refine ⟨X.1.fr hF8 (fun o _ => hA8 o) (by rw [d1]) (fun q _ _ => dA q (by omega) (by omega)), sc.2, yy.map (fun f a g s => s.hs (hF8 17) (hF8 16) (hA8 5)), X.2.2.2.1.cg hF8 (fun o _ => hA8 o) (hh.1 36 101 (by omega) (by omega)) (hh.2 36 2 (by omega)), ?_⟩
  intro i i0 i1
  rw [hh.1 25 2 (by omega) (by omega)] at i1
  rw [ci_fr (hh.2 25 1 (by omega)), ci_fr (hh.2 25 2 (by omega)), ai_fr (dA 58 (by decide) (by decide)), ai_fr (dA 59 (by decide) (by decide)), ai_fr (dA 60 (by decide) (by decide))]
  exact X.2.2.2.2 i i0 i1
theorem p2_restoreR (X : XR P F A Fm Am) (G : Gc P F A) (S : SAm Fm Am) : P2 (e_SleepWork_restore P F A J x1) (d_restore n Fm Am Jm x1) (fun a b => a.1 = b.1 ∧ XR a.2.1 a.2.2.1 a.2.2.2.1 b.2.1 b.2.2.1) := by
  intro a b ha hb
  have sc : a.1 = b.1 ∧ SCx a.2.2.1 b.2.1 b.2.2.1 := p2_restore G S ⟨X.1.1, X.2.1⟩ a b ha hb
  have yy : YS (SS (P 0 8) F A) a.2.2.1 a.2.2.2.1 b.2.1 b.2.2.1 := p2_restoreX (SS.ok X.1.ct.2.2.2.2.2) X.2.1.2.2 X.2.2.1 a b ha hb sc.1
  obtain ⟨p, h1⟩ := v_cRestore3 a ha
  have d2 := r_restore b hb
  have hh : (∀ q k, q ≠ 2 → ¬ (q = 4 ∧ k = 2) → ¬ (q = 32 ∧ k = 6) → a.2.2.1 q k = F q k) ∧ ∀ q o, q ≠ 2 → a.2.2.2.1 q o = A q o := by
    rcases h1 with ⟨-, ef, ea⟩ | ⟨-, -, -, hf, ha', -⟩
    · exact ⟨fun q k _ _ _ => by rw [ef], fun q o _ => by rw [ea]⟩
    · exact ⟨hf, ha'⟩
  have dA : (∀ q, q ≠ 47 → b.2.2.1 q = Am q) ∧ b.2.1 18 = Fm 18 := by
    rcases d2 with ⟨-, ef, e⟩ | ⟨-, -, -, ef, e⟩
    · exact ⟨fun q _ => by rw [e], by rw [ef]⟩
    · exact ⟨fun q h => e.1 q h, ef 18 (by decide)⟩
  have n2 : P 0 8 ≠ 2 := G.n2
  have n4 : P 0 8 ≠ 4 := fun e => absurd G.k08 (by rw [e]; decide)
  have n32 : P 0 8 ≠ 32 := fun e => absurd G.k08 (by rw [e]; decide)
  have hF8 : ∀ k, a.2.2.1 (P 0 8) k = F (P 0 8) k := fun k => hh.1 _ k n2 (fun e => n4 e.1) (fun e => n32 e.1)
  have hA8 : ∀ o, a.2.2.2.1 (P 0 8) o = A (P 0 8) o := fun o => hh.2 _ o n2
  refine ⟨sc.1, ?_⟩
  rw [p]
  refine ⟨X.1.fr hF8 (fun o _ => hA8 o) dA.2 (fun q _ _ => dA.1 q (by omega)), sc.2, yy.map (fun f a g s => s.hs (hF8 17) (hF8 16) (hA8 5)), X.2.2.2.1.cg hF8 (fun o _ => hA8 o) (hh.1 36 101 (by decide) (by decide) (by decide)) (hh.2 36 2 (by decide)), ?_⟩
  intro i i0 i1
  rw [hh.1 25 2 (by decide) (by decide) (by decide)] at i1
  rw [ci_fr (hh.2 25 1 (by decide)), ci_fr (hh.2 25 2 (by decide)), ai_fr (dA.1 58 (by decide)), ai_fr (dA.1 59 (by decide)), ai_fr (dA.1 60 (by decide))]
  exact X.2.2.2.2 i i0 i1
end H9fa
end Qz158
section Qz159
/-! tell, forget and work, on both sides -/
section H9fb
variable {n : Nat} {h : Nat} {P P' : Nat → Nat → Nat} {F F' : Nat → Nat → Int32} {A A' : Nat → Nat → Nat → Int32} {J : Nat → Nat → Nat → Int64} {Fm Fm' : Nat → Int32} {Am Am' : Nat → Nat → Int32} {Jm : Nat → Nat → Int64} {x1 x2 x3 : Int32}
theorem XR.told (X : XR P F A Fm Am) (G : Gc P F A) (hF : ∀ r k, ¬ (r = 25 ∧ k = 2) → ¬ (r = 32 ∧ k = 6) → F' r k = F r k) (hA : ∀ r o, ¬ (r = 25 ∧ (o = 1 ∨ o = 2)) → A' r o = A r o) (e : ∀ q, q ≠ 77 → Fm' q = Fm q) (m : ∀ q, q ≠ 58 → q ≠ 59 → q ≠ 60 → Am' q = Am q) (sc : SCx F' Fm' Am') (T : TLx F' A' Am') : XR P F' A' Fm' Am' := by
  obtain ⟨N, C, Y, W, -⟩ := X
  have n25 : P 0 8 ≠ 25 := fun e => absurd G.k08 (by rw [e]; decide)
  have n32 : P 0 8 ≠ 32 := fun e => absurd G.k08 (by rw [e]; decide)
  have hF8 : ∀ k, F' (P 0 8) k = F (P 0 8) k := fun k => hF _ k (fun e => n25 e.1) (fun e => n32 e.1)
  have hA8 : ∀ o, A' (P 0 8) o = A (P 0 8) o := fun o => hA _ o (fun e => n25 e.1)
  have hS : SOK (SS (P 0 8) F A) := SS.ok N.ct.2.2.2.2.2
  have sr : ∀ r : Nat, r ≠ 25 → r ≠ 32 → SE (F r) (F' r) (A r) (A' r) := fun r h1 h2 => .of (fun k => hF r k (fun e => h1 e.1) (fun e => h2 e.1)) (fun o => hA r o (fun e => h1 e.1))
  have Y' : YS (SS (P 0 8) F A) F' A' Fm' Am' := by
    refine ⟨Y.1.cg hS (sr 2 (by decide) (by decide)) (fun i _ _ => by unfold ai; rw [m 47 (by decide) (by decide) (by decide)]), ?_, Y.2.2.cg hS (fun r r0 r1 => sr r (by omega) (by omega)) (m 61 (by decide) (by decide) (by decide)) (m 62 (by decide) (by decide) (by decide))⟩
    rw [e 74 (by decide)]
    exact Y.2.1.cg hS (by rw [hF 4 1 (by decide) (by decide)]) (fun r r0 r1 => sr r (by omega) (by omega)) (m 57 (by decide) (by decide) (by decide))
  exact ⟨N.fr hF8 (fun o _ => hA8 o) (e 18 (by decide)) (fun q a b => m q (by omega) (by omega) (by omega)), sc, Y'.map (fun f a g s => s.hs (hF8 17) (hF8 16) (hA8 5)), W.cg hF8 (fun o _ => hA8 o) (hF 36 101 (by decide) (by decide)) (hA 36 2 (by decide)), T⟩
theorem u_cForget : po (e_SleepWork_forget P F A J) (fun r => r.2.1 = P ∧ (∀ q k, ¬ (q = 25 ∧ k = 2) → ¬ (q = 32 ∧ k = 6) → r.2.2.1 q k = F q k) ∧ r.2.2.1 25 2 = 0 ∧ r.2.2.2.1 = A) := by
  unfold e_SleepWork_forget
  refine po_bl (fun F1 h1 => ?_)
  have u := gg_cpf h1
  refine po_call w_stale ?_
  rintro ⟨_, P3, F4, A5, J6⟩ ⟨w1, w2, w3⟩
  dsimp only at w1 w2 w3 ⊢
  exact po_some ⟨w1, fun q k a b => (w2.2 q k b).trans (u.2 q k a), (w2.2 25 2 (by decide)).trans u.1, w3⟩
theorem u_dForget : po (d_forget Fm Am Jm) (fun r => (∀ q, q ≠ 77 → r.2.1 q = Fm q) ∧ r.2.2.1 = Am) := by
  unfold d_forget
  exact po_bl (fun F1 h1 => po_some ⟨(gg_pf h1).2, rfl⟩)
theorem p2_forgetR (X : XR P F A Fm Am) (G : Gc P F A) (S : SAm Fm Am) : P2 (e_SleepWork_forget P F A J) (d_forget Fm Am Jm) (fun a b => a.1 = b.1 ∧ XR a.2.1 a.2.2.1 a.2.2.2.1 b.2.1 b.2.2.1) := by
  intro a b ha hb
  have sc : a.1 = b.1 ∧ SCx a.2.2.1 b.2.1 b.2.2.1 := p2_forget G S ⟨X.1.1, X.2.1⟩ a b ha hb
  obtain ⟨p, hF, h25, hA⟩ := u_cForget a ha
  obtain ⟨e, m⟩ := u_dForget b hb
  refine ⟨sc.1, ?_⟩
  rw [p]
  refine X.told G hF (fun r o _ => by rw [hA]) e (fun q _ _ _ => by rw [m]) sc.2 (fun k k0 k1 => ?_)
  rw [h25, i_0] at k1
  exact absurd k1 (by omega)
/-- what is told, put behind the rest -/
theorem u_cTell : po (e_SleepWork_tell P F A J x1 x2 x3) (fun r => r.2.1 = P ∧ ((r.2.2.1 = F ∧ r.2.2.2.1 = A) ∨ ((0 ≤ x1.toInt ∧ x1.toInt < (F (P 0 8) 16).toInt ∧ 0 ≤ x2.toInt ∧ x2.toInt < ci A (P 0 8) 5 x1.toInt) ∧ r.2.2.1 25 2 = F 25 2 + 1 ∧ (∀ q k, ¬ (q = 25 ∧ k = 2) → r.2.2.1 q k = F q k) ∧ (∀ q o, ¬ (q = 25 ∧ (o = 1 ∨ o = 2)) → r.2.2.2.1 q o = A q o) ∧ ci r.2.2.2.1 25 1 (F 25 2).toInt = (x1 * 6 + x2).toInt ∧ ci r.2.2.2.1 25 2 (F 25 2).toInt = x3.toInt ∧ ∀ k : Int, 0 ≤ k → k ≠ (F 25 2).toInt → ci r.2.2.2.1 25 1 k = ci A 25 1 k ∧ ci r.2.2.2.1 25 2 k = ci A 25 2 k))) := by
  unfold e_SleepWork_tell
  refine po_bl (fun _ h => ?_)
  obtain ⟨-, rfl⟩ := gg_chk h
  refine po_call v_cStep ?_
  intro v b
  rcases b with ⟨rfl, p⟩ | ⟨rfl, p⟩
  · refine po_cond (fun c => absurd c (by decide)) (fun _ => ?_)
    refine po_cond (fun c => po_some ⟨rfl, .inl ⟨rfl, rfl⟩⟩) (fun c3 => ?_)
    refine po_cond (fun c => po_some ⟨rfl, .inl ⟨rfl, rfl⟩⟩) (fun c4 => ?_)
    refine po_bl (fun v6 _ => ?_)
    refine po_cond (fun _ => ?_) (fun _ => po_some ⟨rfl, .inl ⟨rfl, rfl⟩⟩)
    unfold e_Told_add
    refine po_call (R := fun (r : cR Int32) => r.2.1 = P ∧ r.2.2.1 25 2 = F 25 2 + 1 ∧ (∀ q k, ¬ (q = 25 ∧ k = 2) → r.2.2.1 q k = F q k) ∧ (∀ q o, ¬ (q = 25 ∧ (o = 1 ∨ o = 2)) → r.2.2.2.1 q o = A q o) ∧ ci r.2.2.2.1 25 1 (F 25 2).toInt = (x1 * 6 + x2).toInt ∧ ci r.2.2.2.1 25 2 (F 25 2).toInt = x3.toInt ∧ ∀ k : Int, 0 ≤ k → k ≠ (F 25 2).toInt → ci r.2.2.2.1 25 1 k = ci A 25 1 k ∧ ci r.2.2.2.1 25 2 k = ci A 25 2 k) ?_ ?_
    · refine po_bl (fun A1 h1 => po_bl (fun A2 h2 => po_bl (fun F3 h3 => po_some ?_)))
      have U1 := (gg_cst h1).2.2
      have U2 := (gg_cst h2).2.2
      have u := gg_cpf h3
      have e1 : A2 25 1 = A1 25 1 := U2.2.2 25 1 (by decide)
      have e2 : A1 25 2 = A 25 2 := U1.2.2 25 2 (by decide)
      refine ⟨rfl, u.1, u.2, fun q o hn => (U2.2.2 q o (fun e => hn ⟨e.1, .inr e.2⟩)).trans (U1.2.2 q o (fun e => hn ⟨e.1, .inl e.2⟩)), ?_, U2.1, fun k k0 hk => ⟨?_, ?_⟩⟩
      · show ci A2 25 1 _ = _
        rw [ci_fr e1]
        exact U1.1
      · show ci A2 25 1 k = _
        rw [ci_fr e1]
        exact U1.2.1 k k0 hk
      · show ci A2 25 2 k = _
        rw [U2.2.1 k k0 hk, ci_fr e2]
    rintro ⟨v8, P9, F10, A11, J12⟩ ⟨a0, a1, a2, a3, a4, a5, a6⟩
    exact po_some ⟨a0, .inr ⟨p, a1, a2, a3, a4, a5, a6⟩⟩
  · exact po_cond (fun _ => po_some ⟨rfl, .inl ⟨rfl, rfl⟩⟩) (fun c => absurd c (by decide))
theorem u_dTell : po (d_tell3 Fm Am Jm x1 x2 x3) (fun r => (r.2.1 = Fm ∧ r.2.2.1 = Am) ∨ (r.2.1 77 = Fm 77 + 1 ∧ (∀ q, q ≠ 77 → r.2.1 q = Fm q) ∧ (∀ q, q ≠ 58 → q ≠ 59 → q ≠ 60 → r.2.2.1 q = Am q) ∧ ai r.2.2.1 58 (Fm 77).toInt = x1.toInt ∧ ai r.2.2.1 59 (Fm 77).toInt = x2.toInt ∧ ai r.2.2.1 60 (Fm 77).toInt = x3.toInt ∧ ∀ k : Int, 0 ≤ k → k ≠ (Fm 77).toInt → ai r.2.2.1 58 k = ai Am 58 k ∧ ai r.2.2.1 59 k = ai Am 59 k ∧ ai r.2.2.1 60 k = ai Am 60 k)) := by
  unfold d_tell3
  refine po_cond (fun _ => po_some (.inl ⟨rfl, rfl⟩)) (fun _ => ?_)
  refine po_bl (fun v2 _ => ?_)
  refine po_cond (fun _ => po_some (.inl ⟨rfl, rfl⟩)) (fun _ => ?_)
  refine po_bl (fun v4 _ => ?_)
  refine po_cond (fun _ => ?_) (fun _ => po_some (.inl ⟨rfl, rfl⟩))
  refine po_bl (fun A6 h6 => po_bl (fun A7 h7 => po_bl (fun A8 h8 => po_bl (fun F9 h9 => po_some (.inr ?_)))))
  have U6 := (gg_st h6).2.2
  have U7 := (gg_st h7).2.2
  have U8 := (gg_st h8).2.2
  have u := gg_pf h9
  have e58 : A8 58 = A6 58 := (U8.1 58 (by decide)).trans (U7.1 58 (by decide))
  have e59 : A8 59 = A7 59 := U8.1 59 (by decide)
  have f59 : A6 59 = Am 59 := U6.1 59 (by decide)
  have f60 : A7 60 = Am 60 := (U7.1 60 (by decide)).trans (U6.1 60 (by decide))
  refine ⟨u.1, u.2, fun q a b c => (U8.1 q c).trans ((U7.1 q b).trans (U6.1 q a)), ?_, ?_, U8.2.1, fun k k0 hk => ⟨?_, ?_, ?_⟩⟩
  · show ai A8 58 _ = _
    rw [ai_fr e58]
    exact U6.2.1
  · show ai A8 59 _ = _
    rw [ai_fr e59]
    exact U7.2.1
  · show ai A8 58 k = _
    rw [ai_fr e58]
    exact U6.2.2 k k0 hk
  · show ai A8 59 k = _
    rw [ai_fr e59, U7.2.2 k k0 hk, ai_fr f59]
  · show ai A8 60 k = _
    rw [U8.2.2 k k0 hk, ai_fr f60]
theorem p2_tellR (X : XR P F A Fm Am) (G : Gc P F A) (S : SAm Fm Am) : P2 (e_SleepWork_tell P F A J x1 x2 x3) (d_tell3 Fm Am Jm x1 x2 x3) (fun a b => a.1 = b.1 ∧ XR a.2.1 a.2.2.1 a.2.2.2.1 b.2.1 b.2.2.1) := by
  intro a b ha hb
  have sc : a.1 = b.1 ∧ SCx a.2.2.1 b.2.1 b.2.2.1 := p2_tell G S ⟨X.1.1, X.2.1⟩ a b ha hb
  obtain ⟨p, c⟩ := u_cTell a ha
  have d := u_dTell b hb
  have r77 : 0 ≤ (Fm 77).toInt ∧ (Fm 77).toInt ≤ 30 := S.1 77
  have e77 : F 25 2 = Fm 77 := X.2.1.1
  have s77 := sc.2.1
  have e1 := i_p1 (x := Fm 77) (by omega)
  refine ⟨sc.1, ?_⟩
  rw [p]
  rcases c with ⟨cF, cA⟩ | ⟨st, c1, c2, c3, c4, c5, c6⟩
  · rcases d with ⟨dF, dA⟩ | ⟨d1, -⟩
    · rw [cF, cA, dF, dA]
      exact X
    · rw [cF, d1, e77] at s77
      exact absurd (congrArg Int32.toInt s77) (by omega)
  · rcases d with ⟨dF, dA⟩ | ⟨d1, d2, d3, d4, d5, d6, d7⟩
    · rw [c1, dF, e77] at s77
      exact absurd (congrArg Int32.toInt s77) (by omega)
    · refine X.told G (fun r k h _ => c2 r k h) c3 d2 d3 sc.2 (fun k k0 k1 => ?_)
      rw [c1, e77, e1] at k1
      rw [e77] at c4 c5 c6
      by_cases hk : k = (Fm 77).toInt
      · rw [hk, c4, c5, d4, d5, d6]
        have s6 := (X.1.s6 st.1).2
        have n16 := X.1.ct.2.2.2.1.2
        have mm := i_mulR (c := 6) (k := 6) (x := x1) (by decide) (by omega) (by omega)
        rw [i_add (by rw [mm]; omega) (by rw [mm]; omega), mm]
        exact ⟨by omega, rfl⟩
      · rw [(c6 k k0 hk).1, (c6 k k0 hk).2, (d7 k k0 hk).1, (d7 k k0 hk).2.1, (d7 k k0 hk).2.2]
        exact X.2.2.2.2 k k0 (by rw [e77]; omega)
end H9fb
end Qz159
section Qz160
/-! work, on both sides -/
section H9fc
variable {n m : Nat} {P P' : Nat → Nat → Nat} {F F' : Nat → Nat → Int32} {A A' : Nat → Nat → Nat → Int32} {J : Nat → Nat → Nat → Int64} {Fm Fm' : Nat → Int32} {Am Am' : Nat → Nat → Int32} {Jm : Nat → Nat → Int64} {x1 x2 x3 : Int32}
theorem r_work_42 : ∀ {n : Nat} {Fm : Nat → Int32} {Am : Nat → Nat → Int32} {Jm : Nat → Nat → Int64} {x2 : Int32}, 0 ≤ x2.toInt → po (d_work_42 n Fm Am Jm x2) (fun r => r.1 = 1 ∧ r.2.1 = Fm ∧ CPm 48 47 0 0 x2.toInt Am r.2.2.1) := by
  intro n
  induction n with
  | zero => intro Fm Am Jm x2 _ r hr; cases hr
  | succ n ih =>
    intro Fm Am Jm x2 h0
    have l100 : (100 : Int32).toInt = 100 := by decide
    unfold d_work_42
    refine po_cond (fun c => po_some ⟨rfl, rfl, CPm.rfl' (by rw [i_ge, l100] at c; exact c)⟩) (fun c => ?_)
    rw [i_nge, l100] at c
    refine po_bl (fun v2 h2 => po_bl (fun A3 h3 => ?_))
    have e := i_p1 (x := x2) (by omega)
    refine po_mono (ih (by omega)) (fun r h => ⟨h.1, h.2.1, CPm.step (by decide) h2 h3 (by omega) (by omega) h0 (by omega) (by omega) (by rw [← e]; exact h.2.2)⟩)
theorem p2_pob {α β : Type} {x : Option α} {z : Option β} {Q : α → β → Prop} {R : α → Prop} (h : po x R) (k : P2 x z Q) : P2 x z (fun a b => Q a b ∧ R a) := fun a b ha hb => ⟨k a b ha hb, h a ha⟩
theorem p2_workR (X : XR P F A Fm Am) (G : Gc P F A) (S : SAm Fm Am) : P2 (e_SleepWork_work P F A J x1 x2) (d_work m Fm Am Jm x1 x2) (fun a b => a.1 = b.1 ∧ XR a.2.1 a.2.2.1 a.2.2.2.1 b.2.1 b.2.2.1) := by
  have X0 := X
  obtain ⟨N, -, Y, -, -⟩ := X0
  have n2 : P 0 8 ≠ 2 := G.n2
  have ct := N.ct
  unfold e_SleepWork_work d_work
  refine p2_bl (fun _ hk => ?_)
  obtain ⟨-, rfl⟩ := gg_chk hk
  refine p2_call (R := fun v w => BV v (0 ≤ x1.toInt ∧ x1.toInt < (F (P 0 8) 16).toInt ∧ 0 ≤ x2.toInt ∧ x2.toInt < ci A (P 0 8) 5 x1.toInt) ∧ v = w) (p2_of v_cStep (v_dStep S) (fun a b h h' => ⟨h, h.eq h' (CX.stp N.1)⟩)) ?_
  rintro v w ⟨b, rfl⟩
  rcases b with ⟨rfl, p⟩ | ⟨rfl, p⟩
  · refine p2_cl (fun c => absurd c (by decide)) (fun _ => p2_cr (fun c => absurd c (by decide)) (fun _ => ?_))
    refine p2_bl (fun v4 h4 => p2_br (fun v3 h3 => ?_))
    have g4 := (gl h4).2.2
    have g3 := (gm h3).2.2
    obtain ⟨s1, s2, s3, s4, s5, s6, s7⟩ := Y.1
    have t6 : x1.toInt < 6 := by omega
    have st : v4.toInt = ai Am 47 x1.toInt ∧ 0 ≤ v4.toInt := by
      have := s2 x1.toInt p.1 t6
      rw [g4]
      exact this
    refine p2_cl (fun c => p2_cr (fun _ => ?_) (fun c2 => ?_)) (fun c => p2_cr (fun c2 => ?_) (fun _ => p2_some ⟨rfl, X⟩))
    · rw [i_gt, i_0] at c
      refine p2_bl (fun v6 h6 => p2_bl (fun A7 h7 => p2_bl (fun _ hk8 => ?_)))
      obtain ⟨-, rfl⟩ := gg_chk hk8
      have g6 := (gl h6).2.2
      have U := (gg_cst h7).2.2
      refine p2_r r_takes ?_
      rintro ⟨u, F6, A7m, J8⟩ ⟨rfl, cp⟩
      dsimp only at cp ⊢
      refine p2_br (fun v9 h9 => p2_br (fun A10 h10 => ?_))
      have g9 := (gm h9).2.2
      have V := (gg_st h10).2.2
      have t47 : ∀ i, 0 ≤ i → i < 100 → ai A7m 48 i = ai Am 47 i := fun i i0 i1 => by
        have := cp.2.1 i i0 i1
        rw [Int.zero_add] at this
        exact this
      have e64 : v6.toInt = v4.toInt := by rw [g6, g4]
      have e9 : v9.toInt = v4.toInt := by rw [g9, t47 _ p.1 (by omega), st.1]
      have rg6 := i_rng v6
      have rg9 := i_rng v9
      have m6 := i_sub (x := v6) (y := 1) (by rw [i_1]; omega) (by rw [i_1]; omega)
      have m9 := i_sub (x := v9) (y := 1) (by rw [i_1]; omega) (by rw [i_1]; omega)
      rw [i_1] at m6 m9
      have o48 : ∀ i, 0 ≤ i → i < 100 → i ≠ x1.toInt → ai A10 48 i = ai Am 47 i := fun i i0 i1 hne => by rw [V.2.2 i i0 hne, t47 i i0 i1]
      have rows : ∀ q, q ≠ 48 → A10 q = Am q := fun q hq => (V.1 q hq).trans (cp.1 q hq)
      have a7 : ∀ o, o ≠ 2 → A7 2 o = A 2 o := fun o ho => U.2.2 2 o (fun e => ho e.2)
      have a8 : ∀ r o, r ≠ 2 → A7 r o = A r o := fun r o hr => U.2.2 r o (fun e => hr e.1)
      have N7 : NHx (P 0 8) F A7 F6 A10 := N.fr (fun _ => rfl) (fun o _ => a8 _ o n2) rfl (fun q _ _ => rows q (by omega))
      have B7 : SBx True (P 0 8) 2 F A7 A10 48 0 := by
        refine SBx.mk0 (fun k k0 k1 => ?_) (fun k k0 k1 => ?_) (fun k k0 k1 => ?_) (fun k k0 k1 => ?_)
        · rw [ci_fr (a7 1 (by decide)), o48 (6 + k) (by omega) (by omega) (by omega)]
          exact s1 k k0 k1
        · by_cases e : k = x1.toInt
          · rw [e, U.1, V.2.1, m6, m9]
            omega
          · rw [U.2.1 k k0 e, o48 k k0 (by omega) e]
            exact s2 k k0 k1
        · rw [ci_fr (a7 4 (by decide)), o48 (72 + k) (by omega) (by omega) (by omega)]
          exact s3 k k0 k1
        · rw [ci_fr (a7 3 (by decide)), ci_fr (a7 5 (by decide)), ci_fr (a7 6 (by decide)), ci_fr (a7 7 (by decide)), o48 (42 + k) (by omega) (by omega) (by omega), o48 (48 + k) (by omega) (by omega) (by omega), o48 (54 + k) (by omega) (by omega) (by omega), o48 (60 + k) (by omega) (by omega) (by omega), o48 (66 + k) (by omega) (by omega) (by omega)]
          have w := s4 k k0 k1
          exact ⟨w.1.cg rfl (a8 _ 5 n2), w.2.1, w.2.2.1, fun _ => w.2.2.2⟩
      have u5 : x2.toInt < ci A7 (P 0 8) 5 x1.toInt := by rw [ci_fr (a8 _ 5 n2)]; exact p.2.2.2
      refine p2_call (p2_pob (b_work (by decide) s7.2.s (by decide) U p.1 t6 (by omega) (by omega)) (p2_fin N7 B7 (by decide) p.1 p.2.1 p.2.2.1 u5 rfl rfl rfl rfl)) ?_
      rintro ⟨u1, P10, F11, A12, J13⟩ ⟨u2, F12, A13, J14⟩ ⟨⟨f1, f2, f3, f4, f5, f6, f7⟩, bd⟩
      dsimp only at bd f1 f2 f3 f4 f5 f6 f7 ⊢
      subst f1 f2 f4
      refine p2_l w_stale ?_
      rintro ⟨u3, P15, F16, A17, J18⟩ ⟨w1, w2, w3⟩
      dsimp only at w1 w2 w3 ⊢
      refine p2_of (po_some (R := fun (a : cR Int32) => a.1 = 1 ∧ a.2.1 = P15 ∧ a.2.2.1 = F16 ∧ a.2.2.2.1 = A17) ⟨rfl, rfl, rfl, rfl⟩) (r_work_42 (x2 := 0) (by decide)) ?_
      rintro ⟨v0, P0, F0, A0, J0⟩ ⟨v1, Fz, Az, Jz⟩ ⟨z1, z2, z3, z4⟩ ⟨y1, y2, y3⟩
      dsimp only at z1 z2 z3 z4 y1 y2 y3 ⊢
      subst z2 z3 z4
      rw [i_0] at y3
      have t48 : ∀ i, 0 ≤ i → i < 100 → ai Az 47 i = ai A13 48 i := fun i i0 i1 => by
        have := y3.2.1 i i0 i1
        rw [Int.zero_add] at this
        exact this
      refine ⟨z1.trans y1.symm, ?_⟩
      rw [w1, w3]
      have a12 : ∀ o, o ≠ 1 → A12 2 o = A7 2 o := fun o ho => f3 2 o (fun e => ho e.2)
      have k1 : ∀ i, 0 ≤ i → i < 100 → i < 6 ∨ 42 ≤ i → ai Az 47 i = ai A10 48 i := fun i i0 i1 hi => by rw [t48 i i0 i1, f6 i i0 hi]
      refine X.now G (fun r k _ h2 => w2.2 r k h2) (fun r o hr => (f3 r o (fun e => hr e.1)).trans (a8 r o hr)) y2 (fun q h1 h2 => (y3.1 q h1).trans ((f5 q (by omega)).trans (rows q (by omega)))) ?_
      refine ⟨fun k k0 k1' => ?_, fun k k0 k1' => ?_, fun k k0 k1' => ?_, fun k k0 k1' => ?_, ?_, ?_, ?_, bd.a⟩
      · show ci A12 2 1 k = ai Az 47 (6 + k)
        rw [t48 _ (by omega) (by omega)]
        exact f7 k k0 k1'
      · show ci A12 2 2 k = ai Az 47 k ∧ 0 ≤ ci A12 2 2 k
        rw [ci_fr (a12 2 (by decide)), k1 k k0 (by omega) (by omega)]
        exact B7.sf k0 k1'
      · show ci A12 2 4 k = ai Az 47 (72 + k)
        rw [ci_fr (a12 4 (by decide)), k1 _ (by omega) (by omega) (by omega)]
        exact B7.tl k0 k1'
      · show LQx (P10 0 8) F11 A (ci A12 2 3 k) (ai Az 47 (42 + k)) (ai Az 47 (48 + k)) ∧ ci A12 2 5 k = ai Az 47 (54 + k) ∧ ci A12 2 6 k = ai Az 47 (60 + k) ∧ ci A12 2 7 k = ai Az 47 (66 + k)
        rw [ci_fr (a12 3 (by decide)), ci_fr (a12 5 (by decide)), ci_fr (a12 6 (by decide)), ci_fr (a12 7 (by decide)), k1 (42 + k) (by omega) (by omega) (by omega), k1 (48 + k) (by omega) (by omega) (by omega), k1 (54 + k) (by omega) (by omega) (by omega), k1 (60 + k) (by omega) (by omega) (by omega), k1 (66 + k) (by omega) (by omega) (by omega)]
        have w := B7.mn k0 k1'
        exact ⟨w.1.cg rfl (a8 _ 5 n2).symm, w.2.1, w.2.2.1, w.2.2.2 trivial⟩
      · show (F0 2 7).toInt = ai Az 47 78
        rw [w2.2 2 7 (by decide), k1 78 (by decide) (by decide) (by decide), o48 78 (by decide) (by decide) (by omega)]
        exact s5
      · show (F0 2 8).toInt = ai Az 47 79
        rw [w2.2 2 8 (by decide), k1 79 (by decide) (by decide) (by decide), o48 79 (by decide) (by decide) (by omega)]
        exact s6
      · show F0 2 7 &&& 4095 = F0 2 7
        rw [w2.2 2 7 (by decide)]
        exact s7.1
    · rw [i_gt, i_0] at c
      rw [i_nne, i_0] at c2
      rw [g3] at c2
      omega
    · rw [i_ngt, i_0] at c
      rw [i_ne, i_0] at c2
      rw [g3] at c2
      omega
  · exact p2_cl (fun _ => p2_cr (fun _ => p2_some ⟨rfl, X⟩) (fun c => absurd c (by decide))) (fun c => absurd c (by decide))
end H9fc
end Qz160
