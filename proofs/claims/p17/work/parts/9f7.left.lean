/-! what men left in a good text: nothing, or a step of a known task (the reference alone) -/
section H9f7
variable {n : Nat} {F F' F0 : Nat → Int32} {A A' A0 : Nat → Nat → Int32} {J : Nat → Nat → Int64} {x1 x2 s1 s3 s4 : Int32} {l s c : Int}
def LTw (s : Int) (A : Nat → Nat → Int32) (m : Int) : Prop := 0 ≤ ai A 31 (6 * s + m) ∨ (ai A 31 (6 * s + m) = -1 ∧ ai A 32 (6 * s + m) = -1)
def XFm (F : Nat → Int32) (A : Nat → Nat → Int32) : Prop := 1 ≤ (F 13).toInt ∨ 1 ≤ (F 15).toInt ∨ ∀ m, 0 ≤ m → m < ai A 29 (F 19).toInt → LTw (F 19).toInt A m
theorem LTw.fr {m : Int} (h : LTw s A m) (h1 : ai A' 31 (6 * s + m) = ai A 31 (6 * s + m)) (h2 : ai A' 32 (6 * s + m) = ai A 32 (6 * s + m)) : LTw s A' m := by
  unfold LTw
  rw [h1, h2]
  exact h
theorem XFm.fr (X : XFm F A) (h13 : 1 ≤ (F 13).toInt → 1 ≤ (F' 13).toInt) (h15 : 1 ≤ (F 15).toInt → 1 ≤ (F' 15).toInt) (k : F' 19 = F 19) (r29 : A' 29 = A 29) (r31 : A' 31 = A 31) (r32 : A' 32 = A 32) : XFm F' A' := by
  rcases X with h | h | h
  · exact .inl (h13 h)
  · exact .inr (.inl (h15 h))
  · refine .inr (.inr (fun m m0 m1 => ?_))
    rw [k] at m1 ⊢
    rw [ai_fr r29] at m1
    exact (h m m0 m1).fr (by rw [ai_fr r31]) (by rw [ai_fr r32])
theorem XFm.q (X : XFm F A) (q : QCm F F' A A') : XFm F' A' := X.fr q.2.2.2.2.2.1 q.2.2.2.2.2.2 (q.2.2.1 19 (by decide)) (q.2.2.2.1 29) (q.2.2.2.1 31) (q.2.2.2.1 32)
theorem IAm.sto {j : Nat} {i v : Int} (hA : IAm A) (o : ∀ q, q ≠ j → A' q = A q) (e : ai A' j i = v) (r : ∀ q, 0 ≤ q → q ≠ i → ai A' j q = ai A j q) (hv : rA j i v) : IAm A' := by
  intro q k k0
  by_cases hq : q = j
  · subst hq
    by_cases hk : k = i
    · subst hk
      rw [e]
      exact hv
    · rw [r k k0 hk]
      exact hA q k k0
  · rw [ai_fr (o q hq)]
    exact hA q k k0
/-- the end of a man's sentence -/
def Xw (F : Nat → Int32) (A : Nat → Nat → Int32) : Prop := 1 ≤ (F 13).toInt ∨ 1 ≤ (F 15).toInt ∨ ∀ m, 0 ≤ m → m < ai A 29 (F 19).toInt + 1 → LTw (F 19).toInt A m
theorem Xw.q (X : Xw F A) (q : QCm F F' A A') : Xw F' A' := by
  have k := q.2.2.1 19 (by decide)
  rcases X with h | h | h
  · exact .inl (q.2.2.2.2.2.1 h)
  · exact .inr (.inl (q.2.2.2.2.2.2 h))
  · refine .inr (.inr (fun m m0 m1 => ?_))
    rw [k] at m1 ⊢
    rw [ai_fr (q.2.2.2.1 29)] at m1
    exact (h m m0 m1).fr (by rw [ai_fr (q.2.2.2.1 31)]) (by rw [ai_fr (q.2.2.2.1 32)])
theorem x_tellMan_118 (hF : IFm F) (hA : IAm A) (X : Xw F A) : po (d_tellMan_118 n F A J x2) (fun r => XFm r.2.1 r.2.2.1) := by
  unfold d_tellMan_118
  refine po_call (q_must hF hA).po ?_
  rintro ⟨u, F28, A29, J30⟩ q
  dsimp only at q ⊢
  have X2 := X.q q
  have r19 : 0 ≤ (F28 19).toInt ∧ (F28 19).toInt ≤ 1 := q.1 19
  refine po_cond (fun c => ?_) (fun c => po_some ?_)
  · refine po_bl (fun v32 h32 => ?_)
    unfold d_notes
    refine po_call (R := fun (r : Unit × (Nat → Int32) × (Nat → Nat → Int32) × (Nat → Nat → Int64)) => (∀ q, q ≠ 20 → r.2.1 q = F28 q) ∧ (∀ q, q ≠ 9 → q ≠ 10 → r.2.2.1 q = A29 q)) ?_ ?_
    · refine po_bl (fun _ _ => po_bl (fun _ _ => po_bl (fun A3 h3 => po_bl (fun A4 h4 => po_bl (fun F5 h5 => po_some ⟨(gg_pf h5).2, fun q a b => ((gg_st h4).2.2.1 q b).trans ((gg_st h3).2.2.1 q a)⟩)))))
    rintro ⟨u, F34, A35, J36⟩ ⟨w1, w2⟩
    dsimp only at w1 w2 ⊢
    refine po_bl (fun v37 h37 => po_bl (fun A38 h38 => po_some ?_))
    have g := gg_ld h37
    have U := (gg_st h38).2.2
    have k19 : F34 19 = F28 19 := w1 19 (by decide)
    rw [k19] at g U
    have e37 : v37.toInt = ai A29 29 (F28 19).toInt := by
      rw [g.2.2, w2 29 (by decide) (by decide)]
      rfl
    have r29 : 0 ≤ ai A29 29 (F28 19).toInt ∧ ai A29 29 (F28 19).toInt ≤ 6 := q.2.1 29 _ r19.1
    have e1 := i_p1 (x := v37) (by omega)
    show XFm F34 A38
    unfold XFm
    rw [w1 13 (by decide), w1 15 (by decide), k19, U.2.1, e1, e37]
    refine X2.imp id (fun h => h.imp id (fun h m m0 m1 => (h m m0 m1).fr ?_ ?_))
    · rw [ai_fr (U.1 31 (by decide)), ai_fr (w2 31 (by decide) (by decide))]
    · rw [ai_fr (U.1 32 (by decide)), ai_fr (w2 32 (by decide) (by decide))]
  · show XFm F28 A29
    exact X2.imp id (fun h => h.imp id (fun h m m0 m1 => h m m0 (by omega)))
theorem x_tellMan_114 (hF : IFm F) (hA : IAm A) (rx : 0 ≤ s3.toInt ∧ s3.toInt ≤ 1) (e1 : s1.toInt = 6 * (F 19).toInt + ai A 29 (F 19).toInt) (X : 1 ≤ (F 13).toInt ∨ 1 ≤ (F 15).toInt ∨ ((∀ m, 0 ≤ m → m < ai A 29 (F 19).toInt → LTw (F 19).toInt A m) ∧ 0 ≤ ai A 31 s1.toInt)) : po (d_tellMan_114 n F A J x2 s1 s3 s4) (fun r => XFm r.2.1 r.2.2.1) := by
  unfold d_tellMan_114
  refine po_call (q_bounded hF hA rx).po ?_
  rintro ⟨v39, F40, A41, J42⟩ ⟨q, -⟩
  dsimp only at q ⊢
  refine po_bl (fun A43 h43 => ?_)
  have U := (gg_st h43).2.2
  have hA43 : IAm A43 := q.2.1.sto U.1 rfl U.2.2 trivial
  have k := q.2.2.1 19 (by decide)
  have r19 : 0 ≤ (F 19).toInt ∧ (F 19).toInt ≤ 1 := hF 19
  have r29 : 0 ≤ ai A 29 (F 19).toInt ∧ ai A 29 (F 19).toInt ≤ 6 := hA 29 _ r19.1
  refine x_tellMan_118 (n := n) (x2 := x2) q.1 hA43 ?_
  rcases X with h | h | h
  · exact .inl (q.2.2.2.2.2.1 h)
  · exact .inr (.inl (q.2.2.2.2.2.2 h))
  · refine .inr (.inr (fun m m0 m1 => ?_))
    rw [k] at m1 ⊢
    rw [ai_fr (U.1 29 (by decide)), ai_fr (q.2.2.2.1 29)] at m1
    by_cases e : m = ai A 29 (F 19).toInt
    · refine .inl ?_
      rw [ai_fr (U.1 31 (by decide)), ai_fr (q.2.2.2.1 31), e, ← e1]
      exact h.2
    · exact (h.1 m m0 (by omega)).fr (by rw [ai_fr (U.1 31 (by decide)), ai_fr (q.2.2.2.1 31)]) (by rw [U.2.2 (6 * (F 19).toInt + m) (by omega) (by omega), ai_fr (q.2.2.2.1 32)])
theorem x_tellMan (hF : IFm F) (hA : IAm A) (hn : 50 ≤ n) (N : NCm F A) (X : XFm F A) : po (d_tellMan n F A J) (fun r => XFm r.2.1 r.2.2.1) := by
  have r19 : 0 ≤ (F 19).toInt ∧ (F 19).toInt ≤ 1 := hF 19
  have r29 : 0 ≤ ai A 29 (F 19).toInt ∧ ai A 29 (F 19).toInt ≤ 6 := hA 29 _ r19.1
  unfold d_tellMan
  refine po_bl (fun v1 h1 => ?_)
  have ev : v1.toInt = ai A 29 (F 19).toInt := by
    rw [(gg_ld h1).2.2]
    rfl
  have ex : (6 * F 19 + v1).toInt = 6 * (F 19).toInt + ai A 29 (F 19).toInt := by
    have m := i_mulL (c := 6) (k := 6) (x := F 19) (by decide) (by omega) (by omega)
    rw [i_add (by rw [m]; omega) (by rw [m]; omega), m, ev]
  refine po_call (s_d_named hF hA (by omega)).po ?_
  rintro ⟨v2, F3, A4, J5⟩ ⟨b3, a4, p3, o4, -, w13, w15⟩
  dsimp only at b3 a4 p3 o4 w13 w15 ⊢
  have z3 : 0 ≤ (F3 13).toInt ∧ (F3 13).toInt ≤ 5 := b3 13
  have Q3 : (1 ≤ (F 13).toInt → 1 ≤ (F3 13).toInt) ∧ (1 ≤ (F 15).toInt → 1 ≤ (F3 15).toInt) := ⟨fun h => by omega, fun h => by omega⟩
  have X3 : XFm F3 A4 := X.fr Q3.1 Q3.2 (p3 19 (by decide)) (o4 29 (by decide)) (o4 31 (by decide)) (o4 32 (by decide))
  have N3 : NCm F3 A4 := N.fr0 (p3 19 (by decide)) (p3 20 (by decide)) (fun q _ => o4 q (by simp))
  refine po_call (q_known (x1 := 0) b3 a4 (by omega) N3.1 (by decide)).po ?_
  rintro ⟨v6, F7, A8, J9⟩ ⟨q7, y0, -, y1⟩
  dsimp only at q7 y0 y1 ⊢
  have X7 := X3.q q7
  have k7 : F7 19 = F 19 := (q7.2.2.1 19 (by decide)).trans (p3 19 (by decide))
  have a8 : ∀ q, A8 q = A q := fun q => (q7.2.2.2.1 q).trans (o4 q (by simp))
  refine po_bl (fun A10 h10 => po_bl (fun A11 h11 => po_bl (fun A12 h12 => ?_)))
  have U10 := (gg_st h10).2.2
  have U11 := (gg_st h11).2.2
  have U12 := (gg_st h12).2.2
  rw [ex] at U10 U11 U12
  have l0 : (0 : Int32).toInt = 0 := by decide
  have l2 : (2 : Int32).toInt = 2 := by decide
  have lm : (-1 : Int32).toInt = -1 := by decide
  have r11 : 0 ≤ ai A4 11 (F3 19).toInt ∧ ai A4 11 (F3 19).toInt ≤ 8 := a4 11 _ (by rw [p3 19 (by decide)]; omega)
  have hA10 : IAm A10 := q7.2.1.sto U10.1 U10.2.1 U10.2.2 (show -1 ≤ v6.toInt ∧ v6.toInt ≤ 7 by omega)
  have hA11 : IAm A11 := hA10.sto U11.1 U11.2.1 U11.2.2 (show -1 ≤ (-1 : Int32).toInt ∧ (-1 : Int32).toInt ≤ 5 by decide)
  have hA12 : IAm A12 := hA11.sto U12.1 U12.2.1 U12.2.2 trivial
  have c29 : ai A12 29 (F 19).toInt = ai A 29 (F 19).toInt := by rw [ai_fr (U12.1 29 (by decide)), ai_fr (U11.1 29 (by decide)), ai_fr (U10.1 29 (by decide)), ai_fr (a8 29)]
  have d31 : ai A12 31 (6 * (F 19).toInt + ai A 29 (F 19).toInt) = -1 := by rw [ai_fr (U12.1 31 (by decide)), U11.2.1]; exact lm
  have d32 : ai A12 32 (6 * (F 19).toInt + ai A 29 (F 19).toInt) = -1 := by rw [U12.2.1]; exact lm
  have o31 : ∀ m, 0 ≤ m → m < ai A 29 (F 19).toInt → ai A12 31 (6 * (F 19).toInt + m) = ai A8 31 (6 * (F 19).toInt + m) := fun m m0 m1 => by rw [ai_fr (U12.1 31 (by decide)), U11.2.2 _ (by omega) (by omega), ai_fr (U10.1 31 (by decide))]
  have o32 : ∀ m, 0 ≤ m → m < ai A 29 (F 19).toInt → ai A12 32 (6 * (F 19).toInt + m) = ai A8 32 (6 * (F 19).toInt + m) := fun m m0 m1 => by rw [U12.2.2 _ (by omega) (by omega), ai_fr (U11.1 32 (by decide)), ai_fr (U10.1 32 (by decide))]
  have k8 : ai A8 29 (F 19).toInt = ai A 29 (F 19).toInt := by rw [ai_fr (a8 29)]
  have old : 1 ≤ (F7 13).toInt ∨ 1 ≤ (F7 15).toInt ∨ ∀ m, 0 ≤ m → m < ai A 29 (F 19).toInt → LTw (F 19).toInt A12 m := by
    have X7' := X7
    unfold XFm at X7'
    rw [k7, k8] at X7'
    exact X7'.imp id (fun h => h.imp id (fun h m m0 m1 => (h m m0 m1).fr (o31 m m0 m1) (o32 m m0 m1)))
  have W12 : Xw F7 A12 := by
    unfold Xw
    rw [k7, c29]
    refine old.imp id (fun h => h.imp id (fun h m m0 m1 => ?_))
    by_cases e : m = ai A 29 (F 19).toInt
    · rw [e]
      exact .inr ⟨d31, d32⟩
    · exact h m m0 (by omega)
  have z7 : 0 ≤ (F7 13).toInt ∧ (F7 13).toInt ≤ 5 := q7.1 13
  refine po_cond (fun c => x_tellMan_118 q7.1 hA12 W12) (fun c => ?_)
  refine po_bl (fun v14 _ => ?_)
  refine po_cond (fun c => x_tellMan_118 q7.1 hA12 W12) (fun c => ?_)
  refine po_call (q_goesOn q7.1 hA12).po ?_
  rintro ⟨u, F17, A18, J19⟩ q17
  dsimp only at q17 ⊢
  have N12 : NCm F7 A12 := N3.fr0 (q7.2.2.1 19 (by decide)) (q7.2.2.1 20 (by decide)) (fun q hq => (U12.1 q (by omega)).trans ((U11.1 q (by omega)).trans ((U10.1 q (by omega)).trans (q7.2.2.2.1 q))))
  have N17 : NCm F17 A18 := N12.fr0 (q17.2.2.1 19 (by decide)) (q17.2.2.1 20 (by decide)) (fun q _ => q17.2.2.2.1 q)
  refine po_call (q_known (x1 := 2) q17.1 q17.2.1 (by omega) N17.1 (by decide)).po ?_
  rintro ⟨v20, F21, A22, J23⟩ ⟨q21, t0, t1, t2⟩
  dsimp only at q21 t0 t1 t2 ⊢
  refine po_bl (fun A24 h24 => ?_)
  have U24 := (gg_st h24).2.2
  rw [ex] at U24
  have k17 : F17 19 = F 19 := (q17.2.2.1 19 (by decide)).trans k7
  have k21 : F21 19 = F 19 := (q21.2.2.1 19 (by decide)).trans k17
  have r19' : 0 ≤ ai A18 19 (F17 19).toInt ∧ ai A18 19 (F17 19).toInt ≤ 6 := q17.2.1 19 _ (by rw [k17]; omega)
  have hA24 : IAm A24 := q21.2.1.sto U24.1 U24.2.1 U24.2.2 (show -1 ≤ v20.toInt ∧ v20.toInt ≤ 5 by omega)
  have a22 : ∀ q, A22 q = A12 q := fun q => (q21.2.2.2.1 q).trans (q17.2.2.2.1 q)
  have c24 : ai A24 29 (F 19).toInt = ai A 29 (F 19).toInt := by rw [ai_fr (U24.1 29 (by decide)), ai_fr (a22 29), c29]
  have e114 : (6 * F 19 + v1).toInt = 6 * (F21 19).toInt + ai A24 29 (F21 19).toInt := by rw [k21, c24]; exact ex
  have W24 : 1 ≤ (F21 13).toInt ∨ 1 ≤ (F21 15).toInt ∨ ((∀ m, 0 ≤ m → m < ai A24 29 (F21 19).toInt → LTw (F21 19).toInt A24 m) ∧ 0 ≤ ai A24 31 (6 * F 19 + v1).toInt) := by
    rw [k21, c24, ex, U24.2.1]
    rcases t1 with h | h | h
    · rcases old with g | g | g
      · exact .inl (q21.2.2.2.2.2.1 (q17.2.2.2.2.2.1 g))
      · exact .inr (.inl (q21.2.2.2.2.2.2 (q17.2.2.2.2.2.2 g)))
      · exact .inr (.inr ⟨fun m m0 m1 => (g m m0 m1).fr (by rw [U24.2.2 _ (by omega) (by omega), ai_fr (a22 31)]) (by rw [ai_fr (U24.1 32 (by decide)), ai_fr (a22 32)]), h⟩)
    · exact .inl h
    · exact .inr (.inl h)
  refine po_cond (fun c => po_bl (fun v26 _ => ?_)) (fun c => ?_)
  · exact x_tellMan_114 q21.1 hA24 (by decide) e114 W24
  · exact x_tellMan_114 q21.1 hA24 (by decide) e114 W24
/-- a sentence that wants room -/
theorem x_room {x1 x2 : Int32} {D : (Nat → Int32) → (Nat → Nat → Int32) → (Nat → Nat → Int64) → Option (Unit × (Nat → Int32) × (Nat → Nat → Int32) × (Nat → Nat → Int64))} (h : RDm l s F0 F A0 A) (h13 : (F 13).toInt = 0) (X : XFm F A) (hD : ∀ F2 J2, RDm l s F0 F2 A0 A → (F2 13).toInt = 0 → x1.toInt ≠ x2.toInt → F2 19 = F 19 → XFm F2 A → po (D F2 A J2) (fun r => XFm r.2.1 r.2.2.1)) : po ((d_roomFor F A J x1 x2).bind fun (_, F5, A6, J7) => cond (g_cnd .ne (F5 13) 0) (some ((), F5, A6, J7)) ((D F5 A6 J7).bind fun (_, F10, A11, J12) => some ((), F10, A11, J12))) (fun r => XFm r.2.1 r.2.2.1) := by
  have l0 : (0 : Int32).toInt = 0 := by decide
  refine po_call (q_roomFor h.1 h.2.1 h13).po ?_
  rintro ⟨u, F2, A2, J2⟩ ⟨q, w⟩
  dsimp only at q w ⊢
  have h2 := h.qc q
  have X2 := X.q q
  have e := q.eq
  subst e
  refine po_cond (fun c => po_some X2) (fun c => ?_)
  rw [i_nne] at c
  refine po_call (hD F2 J2 h2 (by omega) (by omega) (q.2.2.1 19 (by decide)) X2) ?_
  rintro ⟨u3, F3, A3, J3⟩ g
  exact po_some g
theorem x_fail {J : Nat → Nat → Int64} (h : RDm l s F0 F A0 A) (X : XFm F A) : po ((d_fail F A J 1).bind fun (_, F24, A25, J26) => some ((), F24, A25, J26)) (fun r => XFm r.2.1 r.2.2.1) := by
  refine po_call (q_fail h.1 h.2.1 (by decide)).po ?_
  rintro ⟨u, F2, A2, J2⟩ ⟨q, -⟩
  exact po_some (X.q q)
theorem x_tell0 (hs : 0 ≤ s ∧ s ≤ 1 ∧ s = 1 - l) (h : RDm l s F0 F A0 A) (h13 : (F 13).toInt = 0) (hn : 640 ≤ n) (X : XFm F A) : po (d_tell0 n F A J) (fun r => XFm r.2.1 r.2.2.1) := by
  have hF := h.1
  have hA := h.2.1
  have r11 : 0 ≤ (F 11).toInt ∧ (F 11).toInt ≤ 400 := hF 11
  have e19 := h.2.2.2.1
  have fl : ∀ {J}, po ((d_fail F A J 1).bind fun (_, F24, A25, J26) => some ((), F24, A25, J26)) (fun r => XFm r.2.1 r.2.2.1) := fun {J} => x_fail h X
  have hl : ∀ {F2}, RDm l s F0 F2 A0 A → 0 ≤ l ∧ (F2 18).toInt = l ∧ (F2 19).toInt = 1 - l := fun g => ⟨by omega, g.2.2.1, by rw [g.2.2.2.1]; omega⟩
  unfold d_tell0
  refine po_bl (fun v _ => ?_)
  refine po_cond (fun _ => ?_) (fun _ => ?_)
  · refine po_bl (fun x xe => ?_)
    have ve := gg_ld xe
    have xr : ai A 11 (F 19).toInt = x.toInt := by rw [ve.2.2]; rfl
    refine x_room (D := fun F A J => d_tellRoom n F A J) h h13 X (fun F2 J2 g z ne k19 X2 => ?_)
    have l8 : (8 : Int32).toInt = 8 := by decide
    have r : 0 ≤ ai A 11 (F 19).toInt ∧ ai A 11 (F 19).toInt ≤ 8 := hA 11 _ (by omega)
    refine po_mono (s_d_tellRoom (l := l) g.1 g.2.1 (by omega) (hl g) g.2.2.2.2.1 (by rw [k19]; omega) z).po ?_
    rintro ⟨u, F3, A3, J3⟩ ⟨m1, m2, m3, m4, m5, m6, m7, m8, m9⟩
    dsimp only at m1 m2 m3 m4 m5 m6 m7 m8 m9 ⊢
    have z15 : 0 ≤ (F3 15).toInt ∧ (F3 15).toInt ≤ 5 := m1 15
    exact X2.fr (fun h => by omega) (fun h => by omega) (m3 19 (by decide)) (m4 29 (by decide)) (m4 31 (by decide)) (m4 32 (by decide))
  refine po_cond (fun _ => ?_) (fun _ => ?_)
  · refine po_bl (fun x xe => ?_)
    have ve := gg_ld xe
    have xr : ai A 12 (F 19).toInt = x.toInt := by rw [ve.2.2]; rfl
    refine x_room (D := fun F A J => d_tellDoor n F A J) h h13 X (fun F2 J2 g z ne k19 X2 => ?_)
    have l8 : (12 : Int32).toInt = 12 := by decide
    have r : 0 ≤ ai A 12 (F 19).toInt ∧ ai A 12 (F 19).toInt ≤ 12 := hA 12 _ (by omega)
    refine po_mono (s_d_tellDoor (l := l) g.1 g.2.1 (by omega) (hl g) g.2.2.2.2.1 (by rw [k19]; omega) z).po ?_
    rintro ⟨u, F3, A3, J3⟩ ⟨m1, m2, m3, m4, m5, m6, m7, m8, m9⟩
    dsimp only at m1 m2 m3 m4 m5 m6 m7 m8 m9 ⊢
    have z15 : 0 ≤ (F3 15).toInt ∧ (F3 15).toInt ≤ 5 := m1 15
    exact X2.fr (fun h => by omega) (fun h => by omega) (m3 19 (by decide)) (m4 29 (by decide)) (m4 31 (by decide)) (m4 32 (by decide))
  refine po_cond (fun _ => fl) (fun _ => ?_)
  refine po_cond (fun _ => ?_) (fun _ => ?_)
  · refine po_bl (fun x xe => ?_)
    have ve := gg_ld xe
    have xr : ai A 17 (F 19).toInt = x.toInt := by rw [ve.2.2]; rfl
    refine x_room (D := fun F A J => d_tellTool n F A J) h h13 X (fun F2 J2 g z ne k19 X2 => ?_)
    have l8 : (6 : Int32).toInt = 6 := by decide
    have r : 0 ≤ ai A 17 (F 19).toInt ∧ ai A 17 (F 19).toInt ≤ 6 := hA 17 _ (by omega)
    refine po_mono (s_d_tellTool (l := l) g.1 g.2.1 (by omega) (hl g) g.2.2.2.2.1 (by rw [k19]; omega) z).po ?_
    rintro ⟨u, F3, A3, J3⟩ ⟨m1, m2, m3, m4, m5, m6, m7, m8, m9⟩
    dsimp only at m1 m2 m3 m4 m5 m6 m7 m8 m9 ⊢
    have z15 : 0 ≤ (F3 15).toInt ∧ (F3 15).toInt ≤ 5 := m1 15
    exact X2.fr (fun h => by omega) (fun h => by omega) (m3 19 (by decide)) (m4 29 (by decide)) (m4 31 (by decide)) (m4 32 (by decide))
  refine po_cond (fun _ => ?_) (fun _ => ?_)
  · refine po_bl (fun x xe => ?_)
    have ve := gg_ld xe
    have xr : ai A 19 (F 19).toInt = x.toInt := by rw [ve.2.2]; rfl
    refine x_room (D := fun F A J => d_tellTask n F A J) h h13 X (fun F2 J2 g z ne k19 X2 => ?_)
    have l8 : (6 : Int32).toInt = 6 := by decide
    have r : 0 ≤ ai A 19 (F 19).toInt ∧ ai A 19 (F 19).toInt ≤ 6 := hA 19 _ (by omega)
    refine po_mono (s_d_tellTask (l := l) g.1 g.2.1 (by omega) (hl g) g.2.2.2.2.1 (by rw [k19]; omega) z).po ?_
    rintro ⟨u, F3, A3, J3⟩ ⟨m1, m2, m3, m4, m5, m6, m7, m8, m9⟩
    dsimp only at m1 m2 m3 m4 m5 m6 m7 m8 m9 ⊢
    have z15 : 0 ≤ (F3 15).toInt ∧ (F3 15).toInt ≤ 5 := m1 15
    exact X2.fr (fun h => by omega) (fun h => by omega) (m3 19 (by decide)) (m4 29 (by decide)) (m4 31 (by decide)) (m4 32 (by decide))
  refine po_cond (fun _ => ?_) (fun _ => ?_)
  · refine po_call (q_goesOn1 hF hA).po ?_
    rintro ⟨u, F2, A2, J2⟩ ⟨q, w1, w2⟩
    dsimp only at q w1 w2 ⊢
    have g := h.qc q
    have X2 := X.q q
    have e := q.eq
    subst e
    have l1 : (1 : Int32).toInt = 1 := by decide
    have r2 : 0 ≤ (F2 11).toInt ∧ (F2 11).toInt ≤ 400 := q.1 11
    have e1 := i_sub (x := F2 11) (y := 1) (by omega) (by omega)
    refine po_call (s_d_tellStep (l := l) q.1 q.2.1 (by omega) g.2.2.2.2.1 (hl g) (by omega)).po ?_
    rintro ⟨u, F3, A3, J3⟩ ⟨m1, m2, m3, m4, m5, m6, m7, m8, m9⟩
    dsimp only at m1 m2 m3 m4 m5 m6 m7 m8 m9 ⊢
    exact po_some (X2.fr m7 m8 (m3 19 (by decide)) (m4 29 (by decide)) (m4 31 (by decide)) (m4 32 (by decide)))
  refine po_cond (fun _ => fl) (fun _ => ?_)
  refine po_cond (fun _ => fl) (fun _ => ?_)
  refine po_cond (fun _ => ?_) (fun _ => ?_)
  · refine po_bl (fun x xe => ?_)
    refine x_room (D := fun F A J => d_tellMan n F A J) h h13 X (fun F2 J2 g z ne k19 X2 => ?_)
    exact x_tellMan g.1 g.2.1 (by omega) g.2.2.2.2.1 X2
  refine po_cond (fun _ => fl) (fun _ => ?_)
  refine po_cond (fun _ => ?_) (fun _ => ?_)
  · refine po_bl (fun x xe => ?_)
    have ve := gg_ld xe
    have xr : ai A 33 (F 19).toInt = x.toInt := by rw [ve.2.2]; rfl
    refine x_room (D := fun F A J => d_tellLaw n F A J) h h13 X (fun F2 J2 g z ne k19 X2 => ?_)
    have l8 : (8 : Int32).toInt = 8 := by decide
    obtain ⟨a1, a2, a3, a4, a5, a6, a7, a8, a9, a10, a11, a12⟩ := g
    obtain ⟨b1, b2, b3⟩ := a9.resolve_left (by omega)
    have b0 := a8.resolve_left (by omega)
    have r33 : 0 ≤ ai A 33 s ∧ ai A 33 s ≤ 8 := hA 33 _ (by omega)
    have h33 : ai A 33 s < 8 := by rw [← e19]; rw [← e19] at r33; omega
    refine po_mono (s_d_tellLaw hs a1 a2 (by omega) a5 a4 a7 ⟨b0, by omega⟩ h33 (.inr b2)).po ?_
    rintro ⟨u, F3, A3, J3⟩ ⟨m1, m2, m3, m4, m5, m6, m7, m8, m9, m10⟩
    dsimp only at m1 m2 m3 m4 m5 m6 m7 m8 m9 m10 ⊢
    exact X2.fr m7 m8 (m3 19 (by decide)) (m4 29 (by decide)) (m4 31 (by decide)) (m4 32 (by decide))
  refine po_cond (fun _ => fl) (fun _ => ?_)
  refine po_cond (fun _ => fl) (fun _ => ?_)
  refine po_cond (fun _ => fl) (fun _ => ?_)
  refine po_cond (fun _ => ?_) (fun _ => fl)
  · refine po_call (q_goesOn1 hF hA).po ?_
    rintro ⟨u, F2, A2, J2⟩ ⟨q, w1, w2⟩
    dsimp only at q w1 w2 ⊢
    have X2 := X.q q
    refine po_call (q_bounded q.1 q.2.1 (by decide)).po ?_
    rintro ⟨v3, F3, A3, J3⟩ ⟨q3, y0, y1, y2⟩
    dsimp only at q3 y0 y1 y2 ⊢
    have X3 := X2.q q3
    refine po_bl (fun A4 h4 => ?_)
    have U := (gg_st h4).2.2
    have hA4 : IAm A4 := q3.2.1.sto U.1 rfl U.2.2 (show 0 ≤ ai A4 41 _ ∧ ai A4 41 _ ≤ 9999 by rw [U.2.1]; exact ⟨y0, y1⟩)
    have X4 : XFm F3 A4 := X3.fr id id rfl (U.1 29 (by decide)) (U.1 31 (by decide)) (U.1 32 (by decide))
    refine po_call (q_must q3.1 hA4).po ?_
    rintro ⟨u, F5, A5, J5⟩ q5
    exact po_some (X4.q q5)
/-- a first evening writes into row 47 alone -/
def KB (Fr : Nat → Int32) (Ar : Nat → Nat → Int32) (F : Nat → Int32) (A : Nat → Nat → Int32) : Prop := F = Fr ∧ ∀ q, q ≠ 47 → A q = Ar q
theorem KB.rfl' : KB F A F A := ⟨rfl, fun _ _ => rfl⟩
theorem kb_st {γ : Type} {Fr : Nat → Int32} {Ar : Nat → Nat → Int32} {j n : Nat} {i x : Int32} {g : (Nat → Nat → Int32) → Option γ} {Q : γ → Prop} (h : KB Fr Ar F A) (hj : j = 47) (kk : ∀ A', KB Fr Ar F A' → po (g A') Q) : po ((m_st A j n i x).bind g) Q :=
  po_bl (fun A' e => kk A' ⟨h.1, fun q hq => ((gg_st e).2.2.1 q (by omega)).trans (h.2 q hq)⟩)
end H9f7
section G9f7
variable {Fr : Nat → Int32} {Ar : Nat → Nat → Int32}
theorem kb_d_begins_219 {K176 : (Nat → Int32) → (Nat → Nat → Int32) → (Nat → Nat → Int64) → Int32 → Option (Unit × (Nat → Int32) × (Nat → Nat → Int32) × (Nat → Nat → Int64))} {n : Nat} {F : Nat → Int32} {A : Nat → Nat → Int32} {J : Nat → Nat → Int64} {x1 : Int32} (hK176 : ∀ (a0 : Nat → Int32) (a1 : Nat → Nat → Int32) (a2 : Nat → Nat → Int64) (a3 : Int32), KB Fr Ar a0 a1 → po (K176 a0 a1 a2 a3) (fun r => KB Fr Ar r.2.1 r.2.2.1)) (h : KB Fr Ar F A) : po (d_begins_219 K176 n F A J x1) (fun r => KB Fr Ar r.2.1 r.2.2.1) := by
  unfold d_begins_219
  repeat' (first
    | with_reducible exact po_some (by assumption)
    | (with_reducible refine kb_st (by assumption) (by decide) ?_; intro _ _)
    | with_reducible exact hK176 _ _ _ _ (by assumption)
    | (intros; with_reducible exact hK176 _ _ _ _ (by assumption))
    | with_reducible refine po_cond (fun _ => ?_) (fun _ => ?_)
    | with_reducible refine po_bind_cond (fun _ => ?_) (fun _ => ?_)
    | with_reducible refine po_bl (fun _ _ => ?_))
theorem kb_d_begins_176   : ∀ {n : Nat} {F : Nat → Int32} {A : Nat → Nat → Int32} {J : Nat → Nat → Int64} {x1 : Int32}, KB Fr Ar F A → po (d_begins_176  n F A J x1) (fun r => KB Fr Ar r.2.1 r.2.2.1) := by
  intro n
  induction n with
  | zero => intro F A J x1 _ r hr; cases hr
  | succ n ih =>
    intro F A J x1 h
    unfold d_begins_176
    repeat' (first
      | with_reducible exact po_some (by assumption)
      | (with_reducible refine kb_st (by assumption) (by decide) ?_; intro _ _)
      | with_reducible refine kb_d_begins_219 ?_ (by assumption)
      | (with_reducible refine po_call (kb_d_begins_219 ?_ (by assumption)) ?_)
      | with_reducible exact ih (by assumption)
      | (with_reducible refine po_call (ih (by assumption)) ?_; rintro ⟨_, _, _, _⟩ _; try dsimp only)
      | (intros; with_reducible exact ih (by assumption))
      | with_reducible refine po_cond (fun _ => ?_) (fun _ => ?_)
      | with_reducible refine po_bind_cond (fun _ => ?_) (fun _ => ?_)
      | with_reducible refine po_bl (fun _ _ => ?_))
theorem kb_d_begins_132   : ∀ {n : Nat} {F : Nat → Int32} {A : Nat → Nat → Int32} {J : Nat → Nat → Int64} {x1 : Int32}, KB Fr Ar F A → po (d_begins_132  n F A J x1) (fun r => KB Fr Ar r.2.1 r.2.2.1) := by
  intro n
  induction n with
  | zero => intro F A J x1 _ r hr; cases hr
  | succ n ih =>
    intro F A J x1 h
    unfold d_begins_132
    repeat' (first
      | with_reducible exact po_some (by assumption)
      | (with_reducible refine kb_st (by assumption) (by decide) ?_; intro _ _)
      | with_reducible exact kb_d_begins_176 (by assumption)
      | (with_reducible refine po_call (kb_d_begins_176 (by assumption)) ?_; rintro ⟨_, _, _, _⟩ _; try dsimp only)
      | with_reducible exact ih (by assumption)
      | (with_reducible refine po_call (ih (by assumption)) ?_; rintro ⟨_, _, _, _⟩ _; try dsimp only)
      | (intros; with_reducible exact ih (by assumption))
      | with_reducible refine po_cond (fun _ => ?_) (fun _ => ?_)
      | with_reducible refine po_bind_cond (fun _ => ?_) (fun _ => ?_)
      | with_reducible refine po_bl (fun _ _ => ?_))
theorem kb_d_begins_59   : ∀ {n : Nat} {F : Nat → Int32} {A : Nat → Nat → Int32} {J : Nat → Nat → Int64} {x1 : Int32}, KB Fr Ar F A → po (d_begins_59  n F A J x1) (fun r => KB Fr Ar r.2.1 r.2.2.1) := by
  intro n
  induction n with
  | zero => intro F A J x1 _ r hr; cases hr
  | succ n ih =>
    intro F A J x1 h
    unfold d_begins_59
    repeat' (first
      | with_reducible exact po_some (by assumption)
      | (with_reducible refine kb_st (by assumption) (by decide) ?_; intro _ _)
      | with_reducible exact kb_d_begins_132 (by assumption)
      | (with_reducible refine po_call (kb_d_begins_132 (by assumption)) ?_; rintro ⟨_, _, _, _⟩ _; try dsimp only)
      | with_reducible exact ih (by assumption)
      | (with_reducible refine po_call (ih (by assumption)) ?_; rintro ⟨_, _, _, _⟩ _; try dsimp only)
      | (intros; with_reducible exact ih (by assumption))
      | with_reducible refine po_cond (fun _ => ?_) (fun _ => ?_)
      | with_reducible refine po_bind_cond (fun _ => ?_) (fun _ => ?_)
      | with_reducible refine po_bl (fun _ _ => ?_))
theorem kb_d_begins_23   : ∀ {n : Nat} {F : Nat → Int32} {A : Nat → Nat → Int32} {J : Nat → Nat → Int64} {x1 : Int32}, KB Fr Ar F A → po (d_begins_23  n F A J x1) (fun r => KB Fr Ar r.2.1 r.2.2.1) := by
  intro n
  induction n with
  | zero => intro F A J x1 _ r hr; cases hr
  | succ n ih =>
    intro F A J x1 h
    unfold d_begins_23
    repeat' (first
      | with_reducible exact po_some (by assumption)
      | (with_reducible refine kb_st (by assumption) (by decide) ?_; intro _ _)
      | with_reducible exact kb_d_begins_59 (by assumption)
      | (with_reducible refine po_call (kb_d_begins_59 (by assumption)) ?_; rintro ⟨_, _, _, _⟩ _; try dsimp only)
      | with_reducible exact ih (by assumption)
      | (with_reducible refine po_call (ih (by assumption)) ?_; rintro ⟨_, _, _, _⟩ _; try dsimp only)
      | (intros; with_reducible exact ih (by assumption))
      | with_reducible refine po_cond (fun _ => ?_) (fun _ => ?_)
      | with_reducible refine po_bind_cond (fun _ => ?_) (fun _ => ?_)
      | with_reducible refine po_bl (fun _ _ => ?_))
theorem kb_d_begins_2   : ∀ {n : Nat} {F : Nat → Int32} {A : Nat → Nat → Int32} {J : Nat → Nat → Int64} {x1 : Int32}, KB Fr Ar F A → po (d_begins_2  n F A J x1) (fun r => KB Fr Ar r.2.1 r.2.2.1) := by
  intro n
  induction n with
  | zero => intro F A J x1 _ r hr; cases hr
  | succ n ih =>
    intro F A J x1 h
    unfold d_begins_2
    repeat' (first
      | with_reducible exact po_some (by assumption)
      | (with_reducible refine kb_st (by assumption) (by decide) ?_; intro _ _)
      | with_reducible exact kb_d_begins_23 (by assumption)
      | (with_reducible refine po_call (kb_d_begins_23 (by assumption)) ?_; rintro ⟨_, _, _, _⟩ _; try dsimp only)
      | with_reducible exact ih (by assumption)
      | (with_reducible refine po_call (ih (by assumption)) ?_; rintro ⟨_, _, _, _⟩ _; try dsimp only)
      | (intros; with_reducible exact ih (by assumption))
      | with_reducible refine po_cond (fun _ => ?_) (fun _ => ?_)
      | with_reducible refine po_bind_cond (fun _ => ?_) (fun _ => ?_)
      | with_reducible refine po_bl (fun _ _ => ?_))
theorem kb_d_begins {n : Nat} {F : Nat → Int32} {A : Nat → Nat → Int32} {J : Nat → Nat → Int64}  (h : KB Fr Ar F A) : po (d_begins n F A J) (fun r => KB Fr Ar r.2.1 r.2.2.1) := by
  unfold d_begins
  repeat' (first
    | with_reducible exact po_some (by assumption)
    | (with_reducible refine kb_st (by assumption) (by decide) ?_; intro _ _)
    | with_reducible exact kb_d_begins_2 (by assumption)
    | (with_reducible refine po_call (kb_d_begins_2 (by assumption)) ?_; rintro ⟨_, _, _, _⟩ _; try dsimp only)
    | with_reducible refine po_cond (fun _ => ?_) (fun _ => ?_)
    | with_reducible refine po_bind_cond (fun _ => ?_) (fun _ => ?_)
    | with_reducible refine po_bl (fun _ _ => ?_))
end G9f7
section K9f7
variable {F F0 : Nat → Int32} {A0 : Nat → Nat → Int32} {l s : Int}
/-- what men left, in the evening of now -/
def XL7 (F : Nat → Int32) (A : Nat → Nat → Int32) : Prop := (∀ m, 0 ≤ m → m < ai A 29 (F 18).toInt → 0 ≤ ai A 47 (42 + m) ∨ (ai A 47 (42 + m) = -1 ∧ ai A 47 (48 + m) = -1)) ∧ (∀ k : Int, 0 ≤ k → k < 36 → ai A 47 (6 + k) = 0) ∧ ∀ k : Int, 0 ≤ k → k < 6 → ai A 19 (F 18).toInt ≤ k → ai A 47 k = 0
def RPx (r : Int32 × (Nat → Int32) × (Nat → Nat → Int32) × (Nat → Nat → Int64)) : Prop := RPm r ∧ (r.1.toInt ≠ 0 ∨ XL7 r.2.1 r.2.2.1)
theorem x_read_322 : ∀ {n : Nat} {F : Nat → Int32} {A : Nat → Nat → Int32} {J : Nat → Nat → Int64} {x1 : Int32}, po (d_read_322 n F A J x1) (fun r => r.2.1 = F ∧ ∀ q, q ≠ 61 → r.2.2.1 q = A q) := by
  intro n
  induction n with
  | zero => intro F A J x1 r hr; cases hr
  | succ n ih =>
    intro F A J x1
    unfold d_read_322
    refine po_cond (fun _ => po_some ⟨rfl, fun _ _ => rfl⟩) (fun _ => po_bl (fun A48 h => ?_))
    have U := (gg_st h).2.2
    exact po_mono ih (fun r h => ⟨h.1, fun q hq => (h.2 q hq).trans (U.1 q hq)⟩)
theorem x_read_271 {n : Nat} {A : Nat → Nat → Int32} {J : Nat → Nat → Int64} {s1 : Int32} (hF : IFm F) (hA : IAm A) (X : XFm F A) : po (d_read_271 n F A J s1) (fun r => r.1.toInt ≠ 0 ∨ XL7 r.2.1 r.2.2.1) := by
  unfold d_read_271
  refine po_bl (fun F37 h37 => ?_)
  have u := gg_pf h37
  have u13 : F37 13 = F 13 := u.2 13 (by decide)
  have u15 : F37 15 = F 15 := u.2 15 (by decide)
  refine po_cond (fun c13 => po_cond (fun c15 => ?_) (fun c => po_some (.inl ?_))) (fun c => po_some (.inl ?_))
  · rw [i_le, i_0, u13] at c13
    rw [i_le, i_0, u15] at c15
    have X3 := (X.resolve_left (by omega)).resolve_left (by omega)
    refine po_bl (fun F40 h40 => ?_)
    have u40 := gg_pf h40
    have k19 : F40 18 = F 19 := u40.1.trans (u.2 19 (by decide))
    have hF40 : IFm F40 := by
      intro k
      by_cases e : k = 18
      · subst e
        rw [k19]
        exact hF 19
      · rw [u40.2 k e]
        by_cases e2 : k = 17
        · subst e2
          exact trivial
        · rw [u.2 k e2]
          exact hF k
    refine po_call (po_and (v_begins hF40 hA) (kb_d_begins KB.rfl')) ?_
    rintro ⟨u2, F42, A43, J44⟩ ⟨b1, b2, b3⟩
    dsimp only at b1 b2 b3 ⊢
    subst b2
    refine po_bl (fun F45 h45 => po_bl (fun F46 h46 => ?_))
    have k46 : F46 18 = F 19 := ((gg_pf h46).2 18 (by decide)).trans (((gg_pf h45).2 18 (by decide)).trans k19)
    rw [k19] at b1
    refine po_mono x_read_322 (fun r h => .inr ⟨fun m m0 m1 => ?_, fun k k0 k1 => ?_, fun k k0 k1 k2 => ?_⟩)
    · rw [h.1, k46] at m1
      rw [ai_fr (h.2 29 (by decide)), ai_fr (b3 29 (by decide))] at m1
      rw [ai_fr (h.2 47 (by decide))]
      have e := b1.2.2.2.1 m m0 m1
      rw [e.1, e.2.1]
      exact X3 m m0 m1
    · rw [ai_fr (h.2 47 (by decide))]
      exact b1.1 k k0 k1
    · rw [h.1, k46] at k2
      rw [ai_fr (h.2 19 (by decide)), ai_fr (b3 19 (by decide))] at k2
      rw [ai_fr (h.2 47 (by decide))]
      exact (b1.2.1 k k0 k1).2 k2
  · rw [i_nle, i_0] at c
    show (F37 15).toInt ≠ 0
    omega
  · rw [i_nle, i_0] at c
    show (F37 13).toInt ≠ 0
    omega
theorem x_read_219p (hs : 0 ≤ s ∧ s ≤ 1 ∧ s = 1 - l) : ∀ {n : Nat} {F' : Nat → Int32} {A' : Nat → Nat → Int32} {J : Nat → Nat → Int64}, RDm l s F F' A0 A' → XFm F' A' → ((1 ≤ (F' 13).toInt ∧ 500 ≤ n) ∨ 1500 - (F' 11).toInt < (n : Int)) → po (d_read_219 n F' A' J) (fun r => r.1.toInt ≠ 0 ∨ XL7 r.2.1 r.2.2.1) := by
  intro n
  induction n with
  | zero => intro F' A' J R X hn r hr; cases hr
  | succ n ih =>
    intro F' A' J R X hn
    have r11 : 0 ≤ (F' 11).toInt ∧ (F' 11).toInt ≤ 400 := R.1 11
    have r13 : 0 ≤ (F' 13).toInt ∧ (F' 13).toInt ≤ 5 := R.1 13
    have go : po (d_read_241 n F' A' J) (fun r => r.1.toInt ≠ 0 ∨ XL7 r.2.1 r.2.2.1) := by
      unfold d_read_241
      exact po_cond (fun _ => po_cond (fun _ => x_read_271 R.1 R.2.1 X) (fun _ => x_read_271 R.1 R.2.1 X)) (fun _ => x_read_271 R.1 R.2.1 X)
    unfold d_read_219
    refine po_cond (fun _ => go) (fun c1 => ?_)
    rw [i_nne, i_0] at c1
    refine po_bl (fun v _ => ?_)
    refine po_cond (fun _ => go) (fun c2 => ?_)
    refine po_call (po_and (s_d_tell0 hs R c1 (by omega)).po (x_tell0 hs R c1 (by omega) X)) ?_
    rintro ⟨u, F2, A2, J2⟩ ⟨⟨T1, T2⟩, T3⟩
    dsimp only at T1 T2 T3 ⊢
    exact ih T1 T3 (by omega)
theorem x_read_219 (hs : 0 ≤ s ∧ s ≤ 1 ∧ s = 1 - l) (S : SAm F0 A0) (e0 : (F0 18).toInt = l) (h2 : (F 2).toInt = 0) (f18 : F 18 = F0 18) (f74 : F 74 = F0 74) {n : Nat} {F' : Nat → Int32} {A' : Nat → Nat → Int32} {J : Nat → Nat → Int64} (R : RDm l s F F' A0 A') (hn : (1 ≤ (F' 13).toInt ∧ 500 ≤ n) ∨ 1500 - (F' 11).toInt < (n : Int)) (X : XFm F' A') : ok (d_read_219 n F' A' J) RPx := ok_and (s_d_read_219 hs S e0 h2 f18 f74 R hn) (x_read_219p hs R X hn)
theorem x_read_177 (hs : 0 ≤ s ∧ s ≤ 1 ∧ s = 1 - l) (S : SAm F0 A0) (e0 : (F0 18).toInt = l) (hF : IFm F) (h2 : (F 2).toInt = 0) (f18 : F 18 = F0 18) (f74 : F 74 = F0 74) (e19 : (F 19).toInt = s) (z11 : (F 11).toInt = 0) (z12 : (F 12).toInt = 0) (z13 : (F 13).toInt = 0) (z15 : (F 15).toInt = 0) (z20 : (F 20).toInt = 0) (z49 : (F 49).toInt = 50 * s) (z56 : (F 56).toInt = 420 * s) : ∀ {n : Nat} {A : Nat → Nat → Int32} {J : Nat → Nat → Int64} {x1 : Int32}, IAm A → LSm l A0 A → (∀ q, q = 11 ∨ q = 12 ∨ q = 17 ∨ q = 19 ∨ q = 29 ∨ q = 33 → ai A q s = 0) → (∀ q, 45 ≤ q → A q = A0 q) → (∀ k, 0 ≤ k → k < x1.toInt → ai A 34 (6 * s + k) = 0 ∧ ai A 35 (6 * s + k) = 0) → 0 ≤ x1.toInt ∧ x1.toInt ≤ 6 → 1510 - x1.toInt < (n : Int) → ok (d_read_177 n F A J x1) RPx := by
  intro n
  induction n with
  | zero => intro A J x1 hA L z o lw hx hn; exact absurd hn (by omega)
  | succ n ih =>
    intro A J x1 hA L z o lw hx hn
    have l1 : (1 : Int32).toInt = 1 := by decide
    have l6 : (6 : Int32).toInt = 6 := by decide
    have l0 : (0 : Int32).toInt = 0 := by decide
    unfold d_read_177
    refine ok_cond (fun c => ?_) (fun c => ?_)
    · rw [i_ge] at c
      have zA := z 11 (by omega)
      have zB := z 12 (by omega)
      have zC := z 17 (by omega)
      have zD := z 19 (by omega)
      have zE := z 29 (by omega)
      have zG := z 33 (by omega)
      refine x_read_219 hs S e0 h2 f18 f74 ⟨hF, hA, by rw [f18]; exact e0, e19, ⟨fun q h0 h1 => absurd h1 (by omega), ?_⟩, L, ⟨by omega, by omega, .inr ⟨z12, by omega⟩⟩, .inr (by omega), .inr ⟨by omega, fun b p q => absurd q (by omega), fun m m0 m1 b p q => ?_⟩, .inr (.inr ⟨fun d h0 h1 => absurd h1 (by omega), fun t h0 h1 => absurd h1 (by omega), fun t q h0 h1 => absurd h1 (by omega), fun m h0 h1 => absurd h1 (by omega)⟩), fun _ _ => rfl, o⟩ (.inr (by omega)) (.inr (.inr (fun m m0 m1 => absurd m1 (by rw [e19, zE]; omega))))
      · unfold CTm
        rw [e19]
        omega
      · have := lw m m0 (by omega)
        omega
    · rw [i_nge] at c
      have e1 := i_mulL (c := 6) (k := 6) (x := F 19) (by decide) (by omega) (by omega)
      have e2 := i_add (x := 6 * F 19) (y := x1) (by omega) (by omega)
      have e3 := i_add (x := x1) (y := 1) (by omega) (by omega)
      refine ok_st (j := 34) hA (by omega) (by omega) (show 0 ≤ (0 : Int32).toInt ∧ (0 : Int32).toInt ≤ 100 by decide) ?_
      intro A2 a2 o2 s2 n2
      refine ok_st (j := 35) a2 (by omega) (by omega) (show 0 ≤ (0 : Int32).toInt ∧ (0 : Int32).toInt ≤ 100 by decide) ?_
      intro A3 a3 o3 s3 n3
      have zz : (6 * F 19 + x1).toInt = 6 * s + x1.toInt := by omega
      rw [zz] at s2 n2 s3 n3
      have L2 : LSm l A0 A2 := L.st (by omega) 6 rfl o2 n2 ⟨by omega, by omega⟩ (by omega)
      have L3 : LSm l A0 A3 := L2.st (by omega) 6 rfl o3 n3 ⟨by omega, by omega⟩ (by omega)
      refine ih a3 L3 (fun q hq => by rw [ai_fr (o3 q (by omega)), ai_fr (o2 q (by omega))]; exact z q hq) (fun q hq => (o3 q (by omega)).trans ((o2 q (by omega)).trans (o q hq))) (fun k h0 h1 => ?_) (by omega) (by omega)
      rw [ai_fr (o3 34 (by decide))]
      by_cases e : k = x1.toInt
      · rw [e]
        exact ⟨s2.trans l0, s3.trans l0⟩
      · rw [n2 _ (by omega) (by omega), n3 _ (by omega) (by omega), ai_fr (o2 35 (by decide))]
        exact lw k h0 (by omega)
theorem x_read_10 (S : SAm F0 A0) (hF : IFm F) (f18 : F 18 = F0 18) (f74 : F 74 = F0 74) : ∀ {n : Nat} {A : Nat → Nat → Int32} {J : Nat → Nat → Int64} {x1 : Int32}, IAm A → (∀ q, q ≠ 2 → A q = A0 q) → 0 ≤ x1.toInt ∧ x1.toInt ≤ 2000 → 12000 - x1.toInt < (n : Int) → ok (d_read_10 n F A J x1) RPx := by
  intro n
  induction n with
  | zero => intro A J x1 hA o hx hn; exact absurd hn (by omega)
  | succ n ih =>
    intro A J x1 hA o hx hn
    have r4 : 0 ≤ (F 4).toInt ∧ (F 4).toInt ≤ 2000 := hF 4
    have r18 : 0 ≤ (F 18).toInt ∧ (F 18).toInt ≤ 1 := hF 18
    have l1 : (1 : Int32).toInt = 1 := by decide
    have l0 : (0 : Int32).toInt = 0 := by decide
    unfold d_read_10
    refine ok_cond (fun c => ?_) (fun c => ?_)
    · refine ok_pf hF (show 0 ≤ (0 : Int32).toInt ∧ (0 : Int32).toInt ≤ 2000 by decide) ?_
      intro F3 b3 k3 p3
      refine ok_call (s_d_cut b3 hA (by omega)) ?_
      rintro ⟨u, F5, A5, J5⟩ ⟨b5, a5, p5, o5, -⟩
      dsimp only at b5 a5 p5 o5 ⊢
      refine ok_pf b5 (show 0 ≤ (0 : Int32).toInt ∧ (0 : Int32).toInt ≤ 400 by decide) ?_
      intro F6 b6 k6 p6
      refine ok_pf b6 (show 0 ≤ (0 : Int32).toInt ∧ (0 : Int32).toInt ≤ 7 by decide) ?_
      intro F7 b7 k7 p7
      refine ok_pf b7 (show 0 ≤ (0 : Int32).toInt ∧ (0 : Int32).toInt ≤ 5 by decide) ?_
      intro F8 b8 k8 p8
      refine ok_pf b8 (show 0 ≤ (0 : Int32).toInt ∧ (0 : Int32).toInt ≤ 5 by decide) ?_
      intro F9 b9 k9 p9
      have g18 : F9 18 = F 18 := (p9 18 (by decide)).trans ((p8 18 (by decide)).trans ((p7 18 (by decide)).trans ((p6 18 (by decide)).trans ((p5 18 (by decide)).trans (p3 18 (by decide))))))
      have e1 := i_sub (x := 1) (y := F9 18) (by rw [g18]; omega) (by rw [g18]; omega)
      rw [g18] at e1
      refine ok_pf b9 (show 0 ≤ (1 - F9 18).toInt ∧ (1 - F9 18).toInt ≤ 1 by rw [g18]; omega) ?_
      intro F10 b10 k10 p10
      refine ok_pf b10 (show 0 ≤ (0 : Int32).toInt ∧ (0 : Int32).toInt ≤ 32 by decide) ?_
      intro F11 b11 k11 p11
      have x19 : (F11 19).toInt = 1 - (F 18).toInt := by rw [p11 19 (by decide), k10, g18]; omega
      refine ok_st (j := 11) a5 (by omega) (by omega) (show 0 ≤ (0 : Int32).toInt ∧ (0 : Int32).toInt ≤ 8 by decide) ?_
      intro A6 a6 o6 s6 n6
      refine ok_st (j := 12) a6 (by omega) (by omega) (show 0 ≤ (0 : Int32).toInt ∧ (0 : Int32).toInt ≤ 12 by decide) ?_
      intro A7 a7 o7 s7 n7
      refine ok_st (j := 17) a7 (by omega) (by omega) (show 0 ≤ (0 : Int32).toInt ∧ (0 : Int32).toInt ≤ 6 by decide) ?_
      intro A8 a8 o8 s8 n8
      refine ok_st (j := 19) a8 (by omega) (by omega) (show 0 ≤ (0 : Int32).toInt ∧ (0 : Int32).toInt ≤ 6 by decide) ?_
      intro A9 a9 o9 s9 n9
      refine ok_st (j := 29) a9 (by omega) (by omega) (show 0 ≤ (0 : Int32).toInt ∧ (0 : Int32).toInt ≤ 6 by decide) ?_
      intro A10 a10 o10 s10 n10
      refine ok_st (j := 33) a10 (by omega) (by omega) (show 0 ≤ (0 : Int32).toInt ∧ (0 : Int32).toInt ≤ 8 by decide) ?_
      intro A11 a11 o11 s11 n11
      refine ok_st (j := 41) a11 (by omega) (by omega) (show 0 ≤ (480 : Int32).toInt ∧ (480 : Int32).toInt ≤ 9999 by decide) ?_
      intro A12 a12 o12 s12 n12
      have e2 := i_mulL (c := 50) (k := 50) (x := F11 19) (by decide) (by omega) (by omega)
      refine ok_pf b11 (show 0 ≤ (50 * F11 19).toInt ∧ (50 * F11 19).toInt ≤ 100 by omega) ?_
      intro F12 b12 k12 p12
      have y19 : (F12 19).toInt = 1 - (F 18).toInt := by rw [p12 19 (by decide)]; exact x19
      have e3 := i_mulL (c := 420) (k := 420) (x := F12 19) (by decide) (by omega) (by omega)
      refine ok_pf b12 (show 0 ≤ (420 * F12 19).toInt ∧ (420 * F12 19).toInt ≤ 840 by omega) ?_
      intro F13 b13 k13 p13
      have L5 : LSm (F 18).toInt A0 A5 := ((LSm.rfl' (F 18).toInt A0).fr [2] (fun q hq => o q (fun e => hq (by rw [e]; decide))) (by decide)).fr [3, 4, 5] o5 (by decide)
      have L6 := L5.st r18.1 1 rfl o6 n6 ⟨by omega, by omega⟩ (by omega)
      have L7 := L6.st r18.1 1 rfl o7 n7 ⟨by omega, by omega⟩ (by omega)
      have L8 := L7.st r18.1 1 rfl o8 n8 ⟨by omega, by omega⟩ (by omega)
      have L9 := L8.st r18.1 1 rfl o9 n9 ⟨by omega, by omega⟩ (by omega)
      have L10 := L9.st r18.1 1 rfl o10 n10 ⟨by omega, by omega⟩ (by omega)
      have L11 := L10.st r18.1 1 rfl o11 n11 ⟨by omega, by omega⟩ (by omega)
      have L12 := L11.st r18.1 1 rfl o12 n12 ⟨by omega, by omega⟩ (by omega)
      have fr : ∀ q, q ∉ ([11, 12, 13, 15, 19, 20, 49, 56] : List Nat) → F13 q = F5 q := fun q hq => (p13 q (fun e => hq (by rw [e]; decide))).trans ((p12 q (fun e => hq (by rw [e]; decide))).trans ((p11 q (fun e => hq (by rw [e]; decide))).trans ((p10 q (fun e => hq (by rw [e]; decide))).trans ((p9 q (fun e => hq (by rw [e]; decide))).trans ((p8 q (fun e => hq (by rw [e]; decide))).trans ((p7 q (fun e => hq (by rw [e]; decide))).trans (p6 q (fun e => hq (by rw [e]; decide)))))))))
      have oA : ∀ q, q ∉ ([11, 12, 17, 19, 29, 33, 41] : List Nat) → A12 q = A5 q := fun q hq => (o12 q (fun e => hq (by rw [e]; decide))).trans ((o11 q (fun e => hq (by rw [e]; decide))).trans ((o10 q (fun e => hq (by rw [e]; decide))).trans ((o9 q (fun e => hq (by rw [e]; decide))).trans ((o8 q (fun e => hq (by rw [e]; decide))).trans ((o7 q (fun e => hq (by rw [e]; decide))).trans (o6 q (fun e => hq (by rw [e]; decide))))))))
      rw [x19, l0] at s6 s7 s8 s9 s10 s11
      have v11 : ai A12 11 (1 - (F 18).toInt) = 0 := by rw [ai_fr (o12 11 (by decide)), ai_fr (o11 11 (by decide)), ai_fr (o10 11 (by decide)), ai_fr (o9 11 (by decide)), ai_fr (o8 11 (by decide)), ai_fr (o7 11 (by decide))]; exact s6
      have v12 : ai A12 12 (1 - (F 18).toInt) = 0 := by rw [ai_fr (o12 12 (by decide)), ai_fr (o11 12 (by decide)), ai_fr (o10 12 (by decide)), ai_fr (o9 12 (by decide)), ai_fr (o8 12 (by decide))]; exact s7
      have v17 : ai A12 17 (1 - (F 18).toInt) = 0 := by rw [ai_fr (o12 17 (by decide)), ai_fr (o11 17 (by decide)), ai_fr (o10 17 (by decide)), ai_fr (o9 17 (by decide))]; exact s8
      have v19 : ai A12 19 (1 - (F 18).toInt) = 0 := by rw [ai_fr (o12 19 (by decide)), ai_fr (o11 19 (by decide)), ai_fr (o10 19 (by decide))]; exact s9
      have v29 : ai A12 29 (1 - (F 18).toInt) = 0 := by rw [ai_fr (o12 29 (by decide)), ai_fr (o11 29 (by decide))]; exact s10
      have v33 : ai A12 33 (1 - (F 18).toInt) = 0 := by rw [ai_fr (o12 33 (by decide))]; exact s11
      refine x_read_177 (l := (F 18).toInt) (s := 1 - (F 18).toInt) ⟨by omega, by omega, rfl⟩ S (by rw [f18]) b13 ?_ ?_ ?_ ?_ ?_ ?_ ?_ ?_ ?_ ?_ ?_ a12 L12 ?_ ?_ (fun k h0 h1 => absurd h1 (by omega)) (by decide) (by omega)
      · rw [fr 2 (by decide), p5 2 (by decide), k3]; exact l0
      · exact (fr 18 (by decide)).trans ((p5 18 (by decide)).trans ((p3 18 (by decide)).trans f18))
      · exact (fr 74 (by decide)).trans ((p5 74 (by decide)).trans ((p3 74 (by decide)).trans f74))
      · rw [p13 19 (by decide)]; exact y19
      · rw [p13 11 (by decide), p12 11 (by decide), p11 11 (by decide), p10 11 (by decide), p9 11 (by decide), p8 11 (by decide), p7 11 (by decide), k6]; exact l0
      · rw [p13 12 (by decide), p12 12 (by decide), p11 12 (by decide), p10 12 (by decide), p9 12 (by decide), p8 12 (by decide), k7]; exact l0
      · rw [p13 13 (by decide), p12 13 (by decide), p11 13 (by decide), p10 13 (by decide), p9 13 (by decide), k8]; exact l0
      · rw [p13 15 (by decide), p12 15 (by decide), p11 15 (by decide), p10 15 (by decide), k9]; exact l0
      · rw [p13 20 (by decide), p12 20 (by decide), k11]; exact l0
      · rw [p13 49 (by decide), k12]; omega
      · rw [k13]; omega
      · intro q hq
        rcases hq with rfl | rfl | rfl | rfl | rfl | rfl
        · exact v11
        · exact v12
        · exact v17
        · exact v19
        · exact v29
        · exact v33
      · intro q hq
        exact (oA q (by simp; omega)).trans ((o5 q (by simp; omega)).trans (o q (by omega)))
    · rw [i_nge] at c
      have e3 := i_add (x := x1) (y := 1) (by omega) (by omega)
      refine ok_ld (j := 1) hA (by omega) (by omega) ?_
      intro v _ _
      refine ok_st (j := 2) hA (by omega) (by omega) trivial ?_
      intro A2 a2 o2 s2 n2
      exact ih a2 (fun q hq => (o2 q hq).trans (o q hq)) (by omega) (by omega)
theorem x_read {A : Nat → Nat → Int32} {J : Nat → Nat → Int64} {n : Nat} (S : SAm F A) (hn : 12100 ≤ n) : ok (d_read n F A J) RPx := by
  have l0 : (0 : Int32).toInt = 0 := by decide
  unfold d_read
  refine ok_pf S.1 (show 0 ≤ (F 2).toInt ∧ (F 2).toInt ≤ 2000 from S.1 2) ?_
  intro F1 b1 k1 p1
  exact x_read_10 S b1 (p1 18 (by decide)) (p1 74 (by decide)) S.2.1 (fun _ _ => rfl) (by decide) (by omega)
end K9f7
