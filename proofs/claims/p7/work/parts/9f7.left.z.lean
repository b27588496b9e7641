section Qz153
/-! what men left in a good text: nothing, or a step of a known task (the reference alone) -/
section H9f7
variable {n : Nat} {F F' F0 : Nat → Int32} {A A' A0 : Nat → Nat → Int32} {J : Nat → Nat → Int64} {x1 x2 s1 s3 s4 : Int32} {l s c : Int}
def LTw (s : Int) (A : Nat → Nat → Int32) (m : Int) : Prop := 0 ≤ ai A 31 (6 * s + m) ∨ (ai A 31 (6 * s + m) = -1 ∧ ai A 32 (6 * s + m) = -1)
def XFm (F : Nat → Int32) (A : Nat → Nat → Int32) : Prop := 1 ≤ (F 13).toInt ∨ 1 ≤ (F 15).toInt ∨ ∀ m, 0 ≤ m → m < ai A 29 (F 19).toInt → LTw (F 19).toInt A m
theorem LTw.fr {m : Int} (h : LTw s A m) (h1 : ai A' 31 (6 * s + m) = ai A 31 (6 * s + m)) (h2 : ai A' 32 (6 * s + m) = ai A 32 (6 * s + m)) : LTw s A' m := by
  unfold LTw
  rw [h1, h2]
  exact h
theorem XFm.fr (X : XFm F A) (h13 : 1 ≤ (F 13).toInt → 1 ≤ (F' 13).toInt) (h15 : 1 ≤ (F 15).toInt → 1 ≤ (F' 15).toInt) (k : F' 19 = F 19) (r29 : A' 29 = A 29) (r31 : A' 31 = A 31) (r32 : A' 32 = A 32) : XFm F' A' := by
  rcases X with h | h | h
  · exact .inl (h13 h)
  · exact .inr (.inl (h15 h))
  · refine .inr (.inr (fun m m0 m1 => ?_))
    rw [k] at m1 ⊢
    rw [ai_fr r29] at m1
    exact (h m m0 m1).fr (by rw [ai_fr r31]) (by rw [ai_fr r32])
theorem XFm.q (X : XFm F A) (q : QCm F F' A A') : XFm F' A' := X.fr q.2.2.2.2.2.1 q.2.2.2.2.2.2 (q.2.2.1 19 (by decide)) (q.2.2.2.1 29) (q.2.2.2.1 31) (q.2.2.2.1 32)
theorem IAm.sto {j : Nat} {i v : Int} (hA : IAm A) (o : ∀ q, q ≠ j → A' q = A q) (e : ai A' j i = v) (r : ∀ q, 0 ≤ q → q ≠ i → ai A' j q = ai A j q) (hv : rA j i v) : IAm A' := by
  intro q k k0
  by_cases hq : q = j
  · subst hq
    by_cases hk : k = i
    · subst hk
      rw [e]
      exact hv
    · rw [r k k0 hk]
      exact hA q k k0
  · rw [ai_fr (o q hq)]
    exact hA q k k0
/-- the end of a man's sentence -/
def Xw (F : Nat → Int32) (A : Nat → Nat → Int32) : Prop := 1 ≤ (F 13).toInt ∨ 1 ≤ (F 15).toInt ∨ ∀ m, 0 ≤ m → m < ai A 29 (F 19).toInt + 1 → LTw (F 19).toInt A m
theorem Xw.q (X : Xw F A) (q : QCm F F' A A') : Xw F' A' := by
  have k := q.2.2.1 19 (by decide)
  rcases X with h | h | h
  · exact .inl (q.2.2.2.2.2.1 h)
  · exact .inr (.inl (q.2.2.2.2.2.2 h))
  · refine .inr (.inr (fun m m0 m1 => ?_))
    rw [k] at m1 ⊢
    rw [ai_fr (q.2.2.2.1 29)] at m1
    exact (h m m0 m1).fr (by rw [ai_fr (q.2.2.2.1 31)]) (by rw [ai_fr (q.2.2.2.1 32)])
theorem x_tellMan_118 (hF : IFm F) (hA : IAm A) (X : Xw F A) : po (d_tellMan_118 n F A J x2) (fun r => XFm r.2.1 r.2.2.1) := by
  unfold d_tellMan_118
  refine po_call (q_must hF hA).po ?_
  rintro ⟨u, F28, A29, J30⟩ q
  dsimp only at q ⊢
  have X2 := X.q q
  have r19 : 0 ≤ (F28 19).toInt ∧ (F28 19).toInt ≤ 1 := q.1 19
  refine po_cond (fun c => ?_) (fun c => po_some ?_)
  · refine po_bl (fun v32 h32 => ?_)
    unfold d_notes
    refine po_call (R := fun (r : Unit × (Nat → Int32) × (Nat → Nat → Int32) × (Nat → Nat → Int64)) => (∀ q, q ≠ 20 → r.2.1 q = F28 q) ∧ (∀ q, q ≠ 9 → q ≠ 10 → r.2.2.1 q = A29 q)) ?_ ?_
    · refine po_bl (fun _ _ => po_bl (fun _ _ => po_bl (fun A3 h3 => po_bl (fun A4 h4 => po_bl (fun F5 h5 => po_some ⟨(gg_pf h5).2, fun q a b => ((gg_st h4).2.2.1 q b).trans ((gg_st h3).2.2.1 q a)⟩)))))
    rintro ⟨u, F34, A35, J36⟩ ⟨w1, w2⟩
    dsimp only at w1 w2 ⊢
    refine po_bl (fun v37 h37 => po_bl (fun A38 h38 => po_some ?_))
    have g := gg_ld h37
    have U := (gg_st h38).2.2
    have k19 : F34 19 = F28 19 := w1 19 (by decide)
    rw [k19] at g U
    have e37 : v37.toInt = ai A29 29 (F28 19).toInt := by
      rw [g.2.2, w2 29 (by decide) (by decide)]
      rfl
    have r29 : 0 ≤ ai A29 29 (F28 19).toInt ∧ ai A29 29 (F28 19).toInt ≤ 6 := q.2.1 29 _ r19.1
    have e1 := i_p1 (x := v37) (by omega)
    show XFm F34 A38
    unfold XFm
    rw [w1 13 (by decide), w1 15 (by decide), k19, U.2.1, e1, e37]
    refine X2.imp id (fun h => h.imp id (fun h m m0 m1 => (h m m0 m1).fr ?_ ?_))
    · rw [ai_fr (U.1 31 (by decide)), ai_fr (w2 31 (by decide) (by decide))]
    · rw [ai_fr (U.1 32 (by decide)), ai_fr (w2 32 (by decide) (by decide))]
  · show XFm F28 A29
    exact X2.imp id (fun h => h.imp id (fun h m m0 m1 => h m m0 (by omega)))
theorem x_tellMan_114 (hF : IFm F) (hA : IAm A) (rx : 0 ≤ s3.toInt ∧ s3.toInt ≤ 1) (e1 : s1.toInt = 6 * (F 19).toInt + ai A 29 (F 19).toInt) (X : 1 ≤ (F 13).toInt ∨ 1 ≤ (F 15).toInt ∨ ((∀ m, 0 ≤ m → m < ai A 29 (F 19).toInt → LTw (F 19).toInt A m) ∧ 0 ≤ ai A 31 s1.toInt)) : po (d_tellMan_114 n F A J x2 s1 s3 s4) (fun r => XFm r.2.1 r.2.2.1) := by
  unfold d_tellMan_114
  refine po_call (q_bounded hF hA rx).po ?_
  rintro ⟨v39, F40, A41, J42⟩ ⟨q, -⟩
  dsimp only at q ⊢
  refine po_bl (fun A43 h43 => ?_)
  have U := (gg_st h43).2.2
  have hA43 : IAm A43 := q.2.1.sto U.1 rfl U.2.2 trivial
  have k := q.2.2.1 19 (by decide)
  have r19 : 0 ≤ (F 19).toInt ∧ (F 19).toInt ≤ 1 := hF 19
  have r29 : 0 ≤ ai A 29 (F 19).toInt ∧ ai A 29 (F 19).toInt ≤ 6 := hA 29 _ r19.1
  refine x_tellMan_118 (n := n) (x2 := x2) q.1 hA43 ?_
  rcases X with h | h | h
  · exact .inl (q.2.2.2.2.2.1 h)
  · exact .inr (.inl (q.2.2.2.2.2.2 h))
  · refine .inr (.inr (fun m m0 m1 => ?_))
    rw [k] at m1 ⊢
    rw [ai_fr (U.1 29 (by decide)), ai_fr (q.2.2.2.1 29)] at m1
    by_cases e : m = ai A 29 (F 19).toInt
    · refine .inl ?_
      rw [ai_fr (U.1 31 (by decide)), ai_fr (q.2.2.2.1 31), e, ← e1]
      exact h.2
    · exact (h.1 m m0 (by omega)).fr (by rw [ai_fr (U.1 31 (by decide)), ai_fr (q.2.2.2.1 31)]) (by rw [U.2.2 (6 * (F 19).toInt + m) (by omega) (by omega), ai_fr (q.2.2.2.1 32)])
theorem x_tellMan (hF : IFm F) (hA : IAm A) (hn : 50 ≤ n) (N : NCm F A) (X : XFm F A) : po (d_tellMan n F A J) (fun r => XFm r.2.1 r.2.2.1) := by
  have r19 : 0 ≤ (F 19).toInt ∧ (F 19).toInt ≤ 1 := hF 19
  have r29 : 0 ≤ ai A 29 (F 19).toInt ∧ ai A 29 (F 19).toInt ≤ 6 := hA 29 _ r19.1
  unfold d_tellMan
  refine po_bl (fun v1 h1 => ?_)
  have ev : v1.toInt = ai A 29 (F 19).toInt := by
    rw [(gg_ld h1).2.2]
    rfl
  have ex : (6 * F 19 + v1).toInt = 6 * (F 19).toInt + ai A 29 (F 19).toInt := by
    have m := i_mulL (c := 6) (k := 6) (x := F 19) (by decide) (by omega) (by omega)
    rw [i_add (by rw [m]; omega) (by rw [m]; omega), m, ev]
  refine po_call (s_d_named hF hA (by omega)).po ?_
  rintro ⟨v2, F3, A4, J5⟩ ⟨b3, a4, p3, o4, -, w13, w15⟩
  dsimp only at b3 a4 p3 o4 w13 w15 ⊢
  have z3 : 0 ≤ (F3 13).toInt ∧ (F3 13).toInt ≤ 5 := b3 13
  have Q3 : (1 ≤ (F 13).toInt → 1 ≤ (F3 13).toInt) ∧ (1 ≤ (F 15).toInt → 1 ≤ (F3 15).toInt) := ⟨fun h => by omega, fun h => by omega⟩
  have X3 : XFm F3 A4 := X.fr Q3.1 Q3.2 (p3 19 (by decide)) (o4 29 (by decide)) (o4 31 (by decide)) (o4 32 (by decide))
  have N3 : NCm F3 A4 := N.fr0 (p3 19 (by decide)) (p3 20 (by decide)) (fun q _ => o4 q (by simp))
  refine po_call (q_known (x1 := 0) b3 a4 (by omega) N3.1 (by decide)).po ?_
  rintro ⟨v6, F7, A8, J9⟩ ⟨q7, y0, -, y1⟩
  dsimp only at q7 y0 y1 ⊢
  have X7 := X3.q q7
  have k7 : F7 19 = F 19 := (q7.2.2.1 19 (by decide)).trans (p3 19 (by decide))
  have a8 : ∀ q, A8 q = A q := fun q => (q7.2.2.2.1 q).trans (o4 q (by simp))
  refine po_bl (fun A10 h10 => po_bl (fun A11 h11 => po_bl (fun A12 h12 => ?_)))
  have U10 := (gg_st h10).2.2
  have U11 := (gg_st h11).2.2
  have U12 := (gg_st h12).2.2
  rw [ex] at U10 U11 U12
  have l0 : (0 : Int32).toInt = 0 := by decide
  have l2 : (2 : Int32).toInt = 2 := by decide
  have lm : (-1 : Int32).toInt = -1 := by decide
  have r11 : 0 ≤ ai A4 11 (F3 19).toInt ∧ ai A4 11 (F3 19).toInt ≤ 8 := a4 11 _ (by rw [p3 19 (by decide)]; omega)
  have hA10 : IAm A10 := q7.2.1.sto U10.1 U10.2.1 U10.2.2 (show -1 ≤ v6.toInt ∧ v6.toInt ≤ 7 by omega)
  have hA11 : IAm A11 := hA10.sto U11.1 U11.2.1 U11.2.2 (show -1 ≤ (-1 : Int32).toInt ∧ (-1 : Int32).toInt ≤ 5 by decide)
  have hA12 : IAm A12 := hA11.sto U12.1 U12.2.1 U12.2.2 trivial
  have c29 : ai A12 29 (F 19).toInt = ai A 29 (F 19).toInt := by rw [ai_fr (U12.1 29 (by decide)), ai_fr (U11.1 29 (by decide)), ai_fr (U10.1 29 (by decide)), ai_fr (a8 29)]
  have d31 : ai A12 31 (6 * (F 19).toInt + ai A 29 (F 19).toInt) = -1 := by rw [ai_fr (U12.1 31 (by decide)), U11.2.1]; exact lm
  have d32 : ai A12 32 (6 * (F 19).toInt + ai A 29 (F 19).toInt) = -1 := by rw [U12.2.1]; exact lm
  have o31 : ∀ m, 0 ≤ m → m < ai A 29 (F 19).toInt → ai A12 31 (6 * (F 19).toInt + m) = ai A8 31 (6 * (F 19).toInt + m) := fun m m0 m1 => by rw [ai_fr (U12.1 31 (by decide)), U11.2.2 _ (by omega) (by omega), ai_fr (U10.1 31 (by decide))]
  have o32 : ∀ m, 0 ≤ m → m < ai A 29 (F 19).toInt → ai A12 32 (6 * (F 19).toInt + m) = ai A8 32 (6 * (F 19).toInt + m) := fun m m0 m1 => by rw [U12.2.2 _ (by omega) (by omega), ai_fr (U11.1 32 (by decide)), ai_fr (U10.1 32 (by decide))]
  have k8 : ai A8 29 (F 19).toInt = ai A 29 (F 19).toInt := by rw [ai_fr (a8 29)]
  have old : 1 ≤ (F7 13).toInt ∨ 1 ≤ (F7 15).toInt ∨ ∀ m, 0 ≤ m → m < ai A 29 (F 19).toInt → LTw (F 19).toInt A12 m := by
    have X7' := X7
    unfold XFm at X7'
    rw [k7, k8] at X7'
    exact X7'.imp id (fun h => h.imp id (fun h m m0 m1 => (h m m0 m1).fr (o31 m m0 m1) (o32 m m0 m1)))
  have W12 : Xw F7 A12 := by
    unfold Xw
    rw [k7, c29]
    refine old.imp id (fun h => h.imp id (fun h m m0 m1 => ?_))
    by_cases e : m = ai A 29 (F 19).toInt
    · rw [e]
      exact .inr ⟨d31, d32⟩
    · exact h m m0 (by omega)
  have z7 : 0 ≤ (F7 13).toInt ∧ (F7 13).toInt ≤ 5 := q7.1 13
  refine po_cond (fun c => x_tellMan_118 q7.1 hA12 W12) (fun c => ?_)
  refine po_bl (fun v14 _ => ?_)
  refine po_cond (fun c => x_tellMan_118 q7.1 hA12 W12) (fun c => ?_)
  refine po_call (q_goesOn q7.1 hA12).po ?_
  rintro ⟨u, F17, A18, J19⟩ q17
  dsimp only at q17 ⊢
  have N12 : NCm F7 A12 := N3.fr0 (q7.2.2.1 19 (by decide)) (q7.2.2.1 20 (by decide)) (fun q hq => (U12.1 q (by omega)).trans ((U11.1 q (by omega)).trans ((U10.1 q (by omega)).trans (q7.2.2.2.1 q))))
  have N17 : NCm F17 A18 := N12.fr0 (q17.2.2.1 19 (by decide)) (q17.2.2.1 20 (by decide)) (fun q _ => q17.2.2.2.1 q)
  refine po_call (q_known (x1 := 2) q17.1 q17.2.1 (by omega) N17.1 (by decide)).po ?_
  rintro ⟨v20, F21, A22, J23⟩ ⟨q21, t0, t1, t2⟩
  dsimp only at q21 t0 t1 t2 ⊢
  refine po_bl (fun A24 h24 => ?_)
  have U24 := (gg_st h24).2.2
  rw [ex] at U24
  have k17 : F17 19 = F 19 := (q17.2.2.1 19 (by decide)).trans k7
  have k21 : F21 19 = F 19 := (q21.2.2.1 19 (by decide)).trans k17
  have r19' : 0 ≤ ai A18 19 (F17 19).toInt ∧ ai A18 19 (F17 19).toInt ≤ 6 := q17.2.1 19 _ (by rw [k17]; omega)
  have hA24 : IAm A24 := q21.2.1.sto U24.1 U24.2.1 U24.2.2 (show -1 ≤ v20.toInt ∧ v20.toInt ≤ 5 by omega)
  have a22 : ∀ q, A22 q = A12 q := fun q => (q21.2.2.2.1 q).trans (q17.2.2.2.1 q)
  have c24 : ai A24 29 (F 19).toInt = ai A 29 (F 19).toInt := by rw [ai_fr (U24.1 29 (by decide)), ai_fr (a22 29), c29]
  have e114 : (6 * F 19 + v1).toInt = 6 * (F21 19).toInt + ai A24 29 (F21 19).toInt := by rw [k21, c24]; exact ex
  have W24 : 1 ≤ (F21 13).toInt ∨ 1 ≤ (F21 15).toInt ∨ ((∀ m, 0 ≤ m → m < ai A24 29 (F21 19).toInt → LTw (F21 19).toInt A24 m) ∧ 0 ≤ ai A24 31 (6 * F 19 + v1).toInt) := by
    rw [k21, c24, ex, U24.2.1]
    rcases t1 with h | h | h
    · rcases old with g | g | g
      · exact .inl (q21.2.2.2.2.2.1 (q17.2.2.2.2.2.1 g))
      · exact .inr (.inl (q21.2.2.2.2.2.2 (q17.2.2.2.2.2.2 g)))
      · exact .inr (.inr ⟨fun m m0 m1 => (g m m0 m1).fr (by rw [U24.2.2 _ (by omega) (by omega), ai_fr (a22 31)]) (by rw [ai_fr (U24.1 32 (by decide)), ai_fr (a22 32)]), h⟩)
    · exact .inl h
    · exact .inr (.inl h)
  refine po_cond (fun c => po_bl (fun v26 _ => ?_)) (fun c => ?_)
  · exact x_tellMan_114 q21.1 hA24 (by decide) e114 W24
  · exact x_tellMan_114 q21.1 hA24 (by decide) e114 W24
/-- a sentence that wants room -/
theorem x_room {x1 x2 : Int32} {D : (Nat → Int32) → (Nat → Nat → Int32) → (Nat → Nat → Int64) → Option (Unit × (Nat → Int32) × (Nat → Nat → Int32) × (Nat → Nat → Int64))} (h : RDm l s F0 F A0 A) (h13 : (F 13).toInt = 0) (X : XFm F A) (hD : ∀ F2 J2, RDm l s F0 F2 A0 A → (F2 13).toInt = 0 → x1.toInt ≠ x2.toInt → F2 19 = F 19 → XFm F2 A → po (D F2 A J2) (fun r => XFm r.2.1 r.2.2.1)) : po ((d_roomFor F A J x1 x2).bind fun (_, F5, A6, J7) => cond (g_cnd .ne (F5 13) 0) (some ((), F5, A6, J7)) ((D F5 A6 J7).bind fun (_, F10, A11, J12) => some ((), F10, A11, J12))) (fun r => XFm r.2.1 r.2.2.1) := by
  have l0 : (0 : Int32).toInt = 0 := by decide
  refine po_call (q_roomFor h.1 h.2.1 h13).po ?_
  rintro ⟨u, F2, A2, J2⟩ ⟨q, w⟩
  dsimp only at q w ⊢
  have h2 := h.qc q
  have X2 := X.q q
  have e := q.eq
  subst e
  refine po_cond (fun c => po_some X2) (fun c => ?_)
  rw [i_nne] at c
  refine po_call (hD F2 J2 h2 (by omega) (by omega) (q.2.2.1 19 (by decide)) X2) ?_
  rintro ⟨u3, F3, A3, J3⟩ g
  exact po_some g
theorem x_fail {J : Nat → Nat → Int64} (h : RDm l s F0 F A0 A) (X : XFm F A) : po ((d_fail F A J 1).bind fun (_, F24, A25, J26) => some ((), F24, A25, J26)) (fun r => XFm r.2.1 r.2.2.1) := by
  refine po_call (q_fail h.1 h.2.1 (by decide)).po ?_
  rintro ⟨u, F2, A2, J2⟩ ⟨q, -⟩
  exact po_some (X.q q)
theorem x_tell0 (hs : 0 ≤ s ∧ s ≤ 1 ∧ s = 1 - l) (h : RDm l s F0 F A0 A) (h13 : (F 13).toInt = 0) (hn : 640 ≤ n) (X : XFm F A) : po (d_tell0 n F A J) (fun r => XFm r.2.1 r.2.2.1) := by
  have hF := h.1
  have hA := h.2.1
  have r11 : 0 ≤ (F 11).toInt ∧ (F 11).toInt ≤ 400 := hF 11
  have e19 := h.2.2.2.1
  have fl : ∀ {J}, po ((d_fail F A J 1).bind fun (_, F24, A25, J26) => some ((), F24, A25, J26)) (fun r => XFm r.2.1 r.2.2.1) := fun {J} => x_fail h X
  have hl : ∀ {F2}, RDm l s F0 F2 A0 A → 0 ≤ l ∧ (F2 18).toInt = l ∧ (F2 19).toInt = 1 - l := fun g => ⟨by omega, g.2.2.1, by rw [g.2.2.2.1]; omega⟩
  unfold d_tell0
  refine po_bl (fun v _ => ?_)
  refine po_cond (fun _ => ?_) (fun _ => ?_)
  · refine po_bl (fun x xe => ?_)
    have ve := gg_ld xe
    have xr : ai A 11 (F 19).toInt = x.toInt := by rw [ve.2.2]; rfl
    refine x_room (D := fun F A J => d_tellRoom n F A J) h h13 X (fun F2 J2 g z ne k19 X2 => ?_)
    have l8 : (8 : Int32).toInt = 8 := by decide
    have r : 0 ≤ ai A 11 (F 19).toInt ∧ ai A 11 (F 19).toInt ≤ 8 := hA 11 _ (by omega)
    refine po_mono (s_d_tellRoom (l := l) g.1 g.2.1 (by omega) (hl g) g.2.2.2.2.1 (by rw [k19]; omega) z).po ?_
    rintro ⟨u, F3, A3, J3⟩ ⟨m1, m2, m3, m4, m5, m6, m7, m8, m9⟩
    dsimp only at m1 m2 m3 m4 m5 m6 m7 m8 m9 ⊢
    have z15 : 0 ≤ (F3 15).toInt ∧ (F3 15).toInt ≤ 5 := m1 15
    exact X2.fr (fun h => by omega) (fun h => by omega) (m3 19 (by decide)) (m4 29 (by decide)) (m4 31 (by decide)) (m4 32 (by decide))
  refine po_cond (fun _ => ?_) (fun _ => ?_)
  · refine po_bl (fun x xe => ?_)
    have ve := gg_ld xe
    have xr : ai A 12 (F 19).toInt = x.toInt := by rw [ve.2.2]; rfl
    refine x_room (D := fun F A J => d_tellDoor n F A J) h h13 X (fun F2 J2 g z ne k19 X2 => ?_)
    have l8 : (12 : Int32).toInt = 12 := by decide
    have r : 0 ≤ ai A 12 (F 19).toInt ∧ ai A 12 (F 19).toInt ≤ 12 := hA 12 _ (by omega)
    refine po_mono (s_d_tellDoor (l := l) g.1 g.2.1 (by omega) (hl g) g.2.2.2.2.1 (by rw [k19]; omega) z).po ?_
    rintro ⟨u, F3, A3, J3⟩ ⟨m1, m2, m3, m4, m5, m6, m7, m8, m9⟩
    dsimp only at m1 m2 m3 m4 m5 m6 m7 m8 m9 ⊢
    have z15 : 0 ≤ (F3 15).toInt ∧ (F3 15).toInt ≤ 5 := m1 15
    exact X2.fr (fun h => by omega) (fun h => by omega) (m3 19 (by decide)) (m4 29 (by decide)) (m4 31 (by decide)) (m4 32 (by decide))
  refine po_cond (fun _ => fl) (fun _ => ?_)
  refine po_cond (fun _ => ?_) (fun _ => ?_)
  · refine po_bl (fun x xe => ?_)
    have ve := gg_ld xe
    have xr : ai A 17 (F 19).toInt = x.toInt := by rw [ve.2.2]; rfl
    refine x_room (D := fun F A J => d_tellTool n F A J) h h13 X (fun F2 J2 g z ne k19 X2 => ?_)
    have l8 : (6 : Int32).toInt = 6 := by decide
    have r : 0 ≤ ai A 17 (F 19).toInt ∧ ai A 17 (F 19).toInt ≤ 6 := hA 17 _ (by omega)
    refine po_mono (s_d_tellTool (l := l) g.1 g.2.1 (by omega) (hl g) g.2.2.2.2.1 (by rw [k19]; omega) z).po ?_
    rintro ⟨u, F3, A3, J3⟩ ⟨m1, m2, m3, m4, m5, m6, m7, m8, m9⟩
    dsimp only at m1 m2 m3 m4 m5 m6 m7 m8 m9 ⊢
    have z15 : 0 ≤ (F3 15).toInt ∧ (F3 15).toInt ≤ 5 := m1 15
    exact X2.fr (fun h => by omega) (fun h => by omega) (m3 19 (by decide)) (m4 29 (by decide)) (m4 31 (by decide)) (m4 32 (by decide))
  refine po_cond (fun _ => ?_) (fun _ => ?_)
  · refine po_bl (fun x xe => ?_)
    have ve := gg_ld xe
    have xr : ai A 19 (F 19).toInt = x.toInt := by rw [ve.2.2]; rfl
    refine x_room (D := fun F A J => d_tellTask n F A J) h h13 X (fun F2 J2 g z ne k19 X2 => ?_)
    have l8 : (6 : Int32).toInt = 6 := by decide
    have r : 0 ≤ ai A 19 (F 19).toInt ∧ ai A 19 (F 19).toInt ≤ 6 := hA 19 _ (by omega)
    refine po_mono (s_d_tellTask (l := l) g.1 g.2.1 (by omega) (hl g) g.2.2.2.2.1 (by rw [k19]; omega) z).po ?_
    rintro ⟨u, F3, A3, J3⟩ ⟨m1, m2, m3, m4, m5, m6, m7, m8, m9⟩
    dsimp only at m1 m2 m3 m4 m5 m6 m7 m8 m9 ⊢
    have z15 : 0 ≤ (F3 15).toInt ∧ (F3 15).toInt ≤ 5 := m1 15
    exact X2.fr (fun h => by omega) (fun h => by omega) (m3 19 (by decide)) (m4 29 (by decide)) (m4 31 (by decide)) (m4 32 (by decide))
  refine po_cond (fun _ => ?_) (fun _ => ?_)
  · refine po_call (q_goesOn1 hF hA).po ?_
    rintro ⟨u, F2, A2, J2⟩ ⟨q, w1, w2⟩
    dsimp only at q w1 w2 ⊢
    have g := h.qc q
    have X2 := X.q q
    have e := q.eq
    subst e
    have l1 : (1 : Int32).toInt = 1 := by decide
    have r2 : 0 ≤ (F2 11).toInt ∧ (F2 11).toInt ≤ 400 := q.1 11
    have e1 := i_sub (x := F2 11) (y := 1) (by omega) (by omega)
    refine po_call (s_d_tellStep (l := l) q.1 q.2.1 (by omega) g.2.2.2.2.1 (hl g) (by omega)).po ?_
    rintro ⟨u, F3, A3, J3⟩ ⟨m1, m2, m3, m4, m5, m6, m7, m8, m9⟩
    dsimp only at m1 m2 m3 m4 m5 m6 m7 m8 m9 ⊢
    exact po_some (X2.fr m7 m8 (m3 19 (by decide)) (m4 29 (by decide)) (m4 31 (by decide)) (m4 32 (by decide)))
  refine po_cond (fun _ => fl) (fun _ => ?_)
  refine po_cond (fun _ => fl) (fun _ => ?_)
  refine po_cond (fun _ => ?_) (fun _ => ?_)
  · refine po_bl (fun x xe => ?_)
    refine x_room (D := fun F A J => d_tellMan n F A J) h h13 X (fun F2 J2 g z ne k19 X2 => ?_)
    exact x_tellMan g.1 g.2.1 (by omega) g.2.2.2.2.1 X2
  refine po_cond (fun _ => fl) (fun _ => ?_)
  refine po_cond (fun _ => ?_) (fun _ => ?_)
  · refine po_bl (fun x xe => ?_)
    have ve := gg_ld xe
    have xr : ai A 33 (F 19).toInt = x.toInt := by rw [ve.2.2]; rfl
    refine x_room (D := fun F A J => d_tellLaw n F A J) h h13 X (fun F2 J2 g z ne k19 X2 => ?_)
    have l8 : (8 : Int32).toInt = 8 := by decide
    obtain ⟨a1, a2, a3, a4, a5, a6, a7, a8, a9, a10, a11, a12⟩ := g
    obtain ⟨b1, b2, b3⟩ := a9.resolve_left (by omega)
    have b0 := a8.resolve_left (by omega)
    have r33 : 0 ≤ ai A 33 s ∧ ai A 33 s ≤ 8 := hA 33 _ (by omega)
    have h33 : ai A 33 s < 8 := by rw [← e19]; rw [← e19] at r33; omega
    refine po_mono (s_d_tellLaw hs a1 a2 (by omega) a5 a4 a7 ⟨b0, by omega⟩ h33 (.inr b2)).po ?_
    rintro ⟨u, F3, A3, J3⟩ ⟨m1, m2, m3, m4, m5, m6, m7, m8, m9, m10⟩
    dsimp only at m1 m2 m3 m4 m5 m6 m7 m8 m9 m10 ⊢
    exact X2.fr m7 m8 (m3 19 (by decide)) (m4 29 (by decide)) (m4 31 (by decide)) (m4 32 (by decide))
  refine po_cond (fun _ => fl) (fun _ => ?_)
  refine po_cond (fun _ => fl) (fun _ => ?_)
  refine po_cond (fun _ => fl) (fun _ => ?_)
  refine po_cond (fun _ => ?_) (fun _ => fl)
  · refine po_call (q_goesOn1 hF hA).po ?_
    rintro ⟨u, F2, A2, J2⟩ ⟨q, w1, w2⟩
    dsimp only at q w1 w2 ⊢
    have X2 := X.q q
    refine po_call (q_bounded q.1 q.2.1 (by decide)).po ?_
    rintro ⟨v3, F3, A3, J3⟩ ⟨q3, y0, y1, y2⟩
    dsimp only at q3 y0 y1 y2 ⊢
    have X3 := X2.q q3
    refine po_bl (fun A4 h4 => ?_)
    have U := (gg_st h4).2.2
    have hA4 : IAm A4 := q3.2.1.sto U.1 rfl U.2.2 (show 0 ≤ ai A4 41 _ ∧ ai A4 41 _ ≤ 9999 by rw [U.2.1]; exact ⟨y0, y1⟩)
    have X4 : XFm F3 A4 := X3.fr id id rfl (U.1 29 (by decide)) (U.1 31 (by decide)) (U.1 32 (by decide))
    refine po_call (q_must q3.1 hA4).po ?_
    rintro ⟨u, F5, A5, J5⟩ q5
    exact po_some (X4.q q5)
/-- a first evening writes into row 47 alone -/
def KB (Fr : Nat → Int32) (Ar : Nat → Nat → Int32) (F : Nat → Int32) (A : Nat → Nat → Int32) : Prop := F = Fr ∧ ∀ q, q ≠ 47 → A q = Ar q
theorem KB.rfl' : KB F A F A := ⟨rfl, fun _ _ => rfl⟩
theorem kb_st {γ : Type} {Fr : Nat → Int32} {Ar : Nat → Nat → Int32} {j n : Nat} {i x : Int32} {g : (Nat → Nat → Int32) → Option γ} {Q : γ → Prop} (h : KB Fr Ar F A) (hj : j = 47) (kk : ∀ A', KB Fr Ar F A' → po (g A') Q) : po ((m_st A j n i x).bind g) Q :=
  po_bl (fun A' e => kk A' ⟨h.1, fun q hq => ((gg_st e).2.2.1 q (by omega)).trans (h.2 q hq)⟩)
end H9f7
section G9f7
variable {Fr : Nat → Int32} {Ar : Nat → Nat → Int32}
theorem kb_d_begins_219 {K176 : (Nat → Int32) → (Nat → Nat → Int32) → (Nat → Nat → Int64) → Int32 → Option (Unit × (Nat → Int32) × (Nat → Nat → Int32) × (Nat → Nat → Int64))} {n : Nat} {F : Nat → Int32} {A : Nat → Nat → Int32} {J : Nat → Nat → Int64} {x1 : Int32} (hK176 : ∀ (a0 : Nat → Int32) (a1 : Nat → Nat → Int32) (a2 : Nat → Nat → Int64) (a3 : Int32), KB Fr Ar a0 a1 → po (K176 a0 a1 a2 a3) (fun r => KB Fr Ar r.2.1 r.2.2.1)) (h : KB Fr Ar F A) : po (d_begins_219 K176 n F A J x1) (fun r => KB Fr Ar r.2.1 r.2.2.1) := by
  unfold d_begins_219
  repeat' (first
    | with_reducible exact po_some (by assumption)
    | (with_reducible refine kb_st (by assumption) (by decide) ?_; intro _ _)
    | with_reducible exact hK176 _ _ _ _ (by assumption)
    | (intros; with_reducible exact hK176 _ _ _ _ (by assumption))
    | with_reducible refine po_cond (fun _ => ?_) (fun _ => ?_)
    | with_reducible refine po_bind_cond (fun _ => ?_) (fun _ => ?_)
    | with_reducible refine po_bl (fun _ _ => ?_))
theorem kb_d_begins_176   : ∀ {n : Nat} {F : Nat → Int32} {A : Nat → Nat → Int32} {J : Nat → Nat → Int64} {x1 : Int32}, KB Fr Ar F A → po (d_begins_176  n F A J x1) (fun r => KB Fr Ar r.2.1 r.2.2.1) := by
  intro n
  induction n with
  | zero => intro F A J x1 _ r hr; cases hr
  | succ n ih =>
    intro F A J x1 h
    unfold d_begins_176
    repeat' (first
      | with_reducible exact po_some (by assumption)
      | (with_reducible refine kb_st (by assumption) (by decide) ?_; intro _ _)
      | with_reducible refine kb_d_begins_219 ?_ (by assumption)
      | (with_reducible refine po_call (kb_d_begins_219 ?_ (by assumption)) ?_)
      | with_reducible exact ih (by assumption)
      | (with_reducible refine po_call (ih (by assumption)) ?_; rintro ⟨_, _, _, _⟩ _; try dsimp only)
      | (intros; with_reducible exact ih (by assumption))
      | with_reducible refine po_cond (fun _ => ?_) (fun _ => ?_)
      | with_reducible refine po_bind_cond (fun _ => ?_) (fun _ => ?_)
      | with_reducible refine po_bl (fun _ _ => ?_))
theorem kb_d_begins_132   : ∀ {n : Nat} {F : Nat → Int32} {A : Nat → Nat → Int32} {J : Nat → Nat → Int64} {x1 : Int32}, KB Fr Ar F A → po (d_begins_132  n F A J x1) (fun r => KB Fr Ar r.2.1 r.2.2.1) := by
  intro n
  induction n with
  | zero => intro F A J x1 _ r hr; cases hr
  | succ n ih =>
    intro F A J x1 h
    unfold d_begins_132
    repeat' (first
      | with_reducible exact po_some (by assumption)
      | (with_reducible refine kb_st (by assumption) (by decide) ?_; intro _ _)
      | with_reducible exact kb_d_begins_176 (by assumption)
      | (with_reducible refine po_call (kb_d_begins_176 (by assumption)) ?_; rintro ⟨_, _, _, _⟩ _; try dsimp only)
      | with_reducible exact ih (by assumption)
      | (with_reducible refine po_call (ih (by assumption)) ?_; rintro ⟨_, _, _, _⟩ _; try dsimp only)
      | (intros; with_reducible exact ih (by assumption))
      | with_reducible refine po_cond (fun _ => ?_) (fun _ => ?_)
      | with_reducible refine po_bind_cond (fun _ => ?_) (fun _ => ?_)
      | with_reducible refine po_bl (fun _ _ => ?_))
theorem kb_d_begins_59   : ∀ {n : Nat} {F : Nat → Int32} {A : Nat → Nat → Int32} {J : Nat → Nat → Int64} {x1 : Int32}, KB Fr Ar F A → po (d_begins_59  n F A J x1) (fun r => KB Fr Ar r.2.1 r.2.2.1) := by
  intro n
  induction n with
  | zero => intro F A J x1 _ r hr; cases hr
  | succ n ih =>
    intro F A J x1 h
    unfold d_begins_59
    repeat' (first
      | with_reducible exact po_some (by assumption)
      | (with_reducible refine kb_st (by assumption) (by decide) ?_; intro _ _)
      | with_reducible exact kb_d_begins_132 (by assumption)
      | (with_reducible refine po_call (kb_d_begins_132 (by assumption)) ?_; rintro ⟨_, _, _, _⟩ _; try dsimp only)
      | with_reducible exact ih (by assumption)
      | (with_reducible refine po_call (ih (by assumption)) ?_; rintro ⟨_, _, _, _⟩ _; try dsimp only)
      | (intros; with_reducible exact ih (by assumption))
      | with_reducible refine po_cond (fun _ => ?_) (fun _ => ?_)
      | with_reducible refine po_bind_cond (fun _ => ?_) (fun _ => ?_)
      | with_reducible refine po_bl (fun _ _ => ?_))
theorem kb_d_begins_23   : ∀ {n : Nat} {F : Nat → Int32} {A : Nat → Nat → Int32} {J : Nat → Nat → Int64} {x1 : Int32}, KB Fr Ar F A → po (d_begins_23  n F A J x1) (fun r => KB Fr Ar r.2.1 r.2.2.1) := by
  intro n
  induction n with
  | zero => intro F A J x1 _ r hr; cases hr
  | succ n ih =>
    intro F A J x1 h
    unfold d_begins_23
    repeat' (first
      | with_reducible exact po_some (by assumption)
      | (with_reducible refine kb_st (by assumption) (by decide) ?_; intro _ _)
      | with_reducible exact kb_d_begins_59 (by assumption)
      | (with_reducible refine po_call (kb_d_begins_59 (by assumption)) ?_; rintro ⟨_, _, _, _⟩ _; try dsimp only)
      | with_reducible exact ih (by assumption)
      | (with_reducible refine po_call (ih (by assumption)) ?_; rintro ⟨_, _, _, _⟩ _; try dsimp only)
      | (intros; with_reducible exact ih (by assumption))
      | with_reducible refine po_cond (fun _ => ?_) (fun _ => ?_)
      | with_reducible refine po_bind_cond (fun _ => ?_) (fun _ => ?_)
      | with_reducible refine po_bl (fun _ _ => ?_))
theorem kb_d_begins_2   : ∀ {n : Nat} {F : Nat → Int32} {A : Nat → Nat → Int32} {J : Nat → Nat → Int64} {x1 : Int32}, KB Fr Ar F A → po (d_begins_2  n F A J x1) (fun r => KB Fr Ar r.2.1 r.2.2.1) := by
  intro n
  induction n with
  | zero => intro F A J x1 _ r hr; cases hr
  | succ n ih =>
    intro F A J x1 h
    unfold d_begins_2
    repeat' (first
      | with_reducible exact po_some (by assumption)
      | (with_reducible refine kb_st (by assumption) (by decide) ?_; intro _ _)
      | with_reducible exact kb_d_begins_23 (by assumption)
      | (with_reducible refine po_call (kb_d_begins_23 (by assumption)) ?_; rintro ⟨_, _, _, _⟩ _; try dsimp only)
      | with_reducible exact ih (by assumption)
      | (with_reducible refine po_call (ih (by assumption)) ?_; rintro ⟨_, _, _, _⟩ _; try dsimp only)
      | (intros; with_reducible exact ih (by assumption))
      | with_reducible refine po_cond (fun _ => ?_) (fun _ => ?_)
      | with_reducible refine po_bind_cond (fun _ => ?_) (fun _ => ?_)
      | with_reducible refine po_bl (fun _ _ => ?_))
theorem kb_d_begins {n : Nat} {F : Nat → Int32} {A : Nat → Nat → Int32} {J : Nat → Nat → Int64}  (h : KB Fr Ar F A) : po (d_begins n F A J) (fun r => KB Fr Ar r.2.1 r.2.2.1) := by
  unfold d_begins
  repeat' (first
    | with_reducible exact po_some (by assumption)
    | (with_reducible refine kb_st (by assumption) (by decide) ?_; intro _ _)
    | with_reducible exact kb_d_begins_2 (by assumption)
    | (with_reducible refine po_call (kb_d_begins_2 (by assumption)) ?_; rintro ⟨_, _, _, _⟩ _; try dsimp only)
    | with_reducible refine po_cond (fun _ => ?_) (fun _ => ?_)
    | with_reducible refine po_bind_cond (fun _ => ?_) (fun _ => ?_)
    | with_reducible refine po_bl (fun _ _ => ?_))
end G9f7
section K9f7
variable {F F0 : Nat → Int32} {A0 : Nat → Nat → Int32} {l s : Int}
/-- what men left, in the evening of now -/
def XL7 (F : Nat → Int32) (A : Nat → Nat → Int32) : Prop := ∀ m, 0 ≤ m → m < ai A 29 (F 18).toInt → 0 ≤ ai A 47 (42 + m) ∨ (ai A 47 (42 + m) = -1 ∧ ai A 47 (48 + m) = -1)
def RPx (r : Int32 × (Nat → Int32) × (Nat → Nat → Int32) × (Nat → Nat → Int64)) : Prop := RPm r ∧ (r.1.toInt ≠ 0 ∨ XL7 r.2.1 r.2.2.1)
theorem x_read_322 : ∀ {n : Nat} {F : Nat → Int32} {A : Nat → Nat → Int32} {J : Nat → Nat → Int64} {x1 : Int32}, po (d_read_322 n F A J x1) (fun r => r.2.1 = F ∧ ∀ q, q ≠ 61 → r.2.2.1 q = A q) := by
  intro n
  induction n with
  | zero => intro F A J x1 r hr; cases hr
  | succ n ih =>
    intro F A J x1
    unfold d_read_322
    refine po_cond (fun _ => po_some ⟨rfl, fun _ _ => rfl⟩) (fun _ => po_bl (fun A48 h => ?_))
    have U := (gg_st h).2.2
    exact po_mono ih (fun r h => ⟨h.1, fun q hq => (h.2 q hq).trans (U.1 q hq)⟩)
theorem x_read_271 {n : Nat} {A : Nat → Nat → Int32} {J : Nat → Nat → Int64} {s1 : Int32} (hF : IFm F) (hA : IAm A) (X : XFm F A) : po (d_read_271 n F A J s1) (fun r => r.1.toInt ≠ 0 ∨ XL7 r.2.1 r.2.2.1) := by
  unfold d_read_271
  refine po_bl (fun F37 h37 => ?_)
  have u := gg_pf h37
  have u13 : F37 13 = F 13 := u.2 13 (by decide)
  have u15 : F37 15 = F 15 := u.2 15 (by decide)
  refine po_cond (fun c13 => po_cond (fun c15 => ?_) (fun c => po_some (.inl ?_))) (fun c => po_some (.inl ?_))
  · rw [i_le, i_0, u13] at c13
    rw [i_le, i_0, u15] at c15
    have X3 := (X.resolve_left (by omega)).resolve_left (by omega)
    refine po_bl (fun F40 h40 => ?_)
    have u40 := gg_pf h40
    have k19 : F40 18 = F 19 := u40.1.trans (u.2 19 (by decide))
    have hF40 : IFm F40 := by
      intro k
      by_cases e : k = 18
      · subst e
        rw [k19]
        exact hF 19
      · rw [u40.2 k e]
        by_cases e2 : k = 17
        · subst e2
          exact trivial
        · rw [u.2 k e2]
          exact hF k
    refine po_call (po_and (v_begins hF40 hA) (kb_d_begins KB.rfl')) ?_
    rintro ⟨u2, F42, A43, J44⟩ ⟨b1, b2, b3⟩
    dsimp only at b1 b2 b3 ⊢
    subst b2
    refine po_bl (fun F45 h45 => po_bl (fun F46 h46 => ?_))
    have k46 : F46 18 = F 19 := ((gg_pf h46).2 18 (by decide)).trans (((gg_pf h45).2 18 (by decide)).trans k19)
    refine po_mono x_read_322 (fun r h => .inr ?_)
    intro m m0 m1
    rw [h.1, k46] at m1
    rw [ai_fr (h.2 29 (by decide)), ai_fr (b3 29 (by decide))] at m1
    rw [ai_fr (h.2 47 (by decide))]
    rw [k19] at b1
    have e := b1.2.2.2.1 m m0 m1
    rw [e.1, e.2.1]
    exact X3 m m0 m1
  · rw [i_nle, i_0] at c
    show (F37 15).toInt ≠ 0
    omega
  · rw [i_nle, i_0] at c
    show (F37 13).toInt ≠ 0
    omega
theorem x_read_219p (hs : 0 ≤ s ∧ s ≤ 1 ∧ s = 1 - l) : ∀ {n : Nat} {F' : Nat → Int32} {A' : Nat → Nat → Int32} {J : Nat → Nat → Int64}, RDm l s F F' A0 A' → XFm F' A' → ((1 ≤ (F' 13).toInt ∧ 500 ≤ n) ∨ 1500 - (F' 11).toInt < (n : Int)) → po (d_read_219 n F' A' J) (fun r => r.1.toInt ≠ 0 ∨ XL7 r.2.1 r.2.2.1) := by
  intro n
  induction n with
  | zero => intro F' A' J R X hn r hr; cases hr
  | succ n ih =>
    intro F' A' J R X hn
    have r11 : 0 ≤ (F' 11).toInt ∧ (F' 11).toInt ≤ 400 := R.1 11
    have r13 : 0 ≤ (F' 13).toInt ∧ (F' 13).toInt ≤ 5 := R.1 13
    have go : po (d_read_241 n F' A' J) (fun r => r.1.toInt ≠ 0 ∨ XL7 r.2.1 r.2.2.1) := by
      unfold d_read_241
      exact po_cond (fun _ => po_cond (fun _ => x_read_271 R.1 R.2.1 X) (fun _ => x_read_271 R.1 R.2.1 X)) (fun _ => x_read_271 R.1 R.2.1 X)
    unfold d_read_219
    refine po_cond (fun _ => go) (fun c1 => ?_)
    rw [i_nne, i_0] at c1
    refine po_bl (fun v _ => ?_)
    refine po_cond (fun _ => go) (fun c2 => ?_)
    refine po_call (po_and (s_d_tell0 hs R c1 (by omega)).po (x_tell0 hs R c1 (by omega) X)) ?_
    rintro ⟨u, F2, A2, J2⟩ ⟨⟨T1, T2⟩, T3⟩
    dsimp only at T1 T2 T3 ⊢
    exact ih T1 T3 (by omega)
theorem x_read_219 (hs : 0 ≤ s ∧ s ≤ 1 ∧ s = 1 - l) (S : SAm F0 A0) (e0 : (F0 18).toInt = l) (h2 : (F 2).toInt = 0) (f18 : F 18 = F0 18) (f74 : F 74 = F0 74) {n : Nat} {F' : Nat → Int32} {A' : Nat → Nat → Int32} {J : Nat → Nat → Int64} (R : RDm l s F F' A0 A') (hn : (1 ≤ (F' 13).toInt ∧ 500 ≤ n) ∨ 1500 - (F' 11).toInt < (n : Int)) (X : XFm F' A') : ok (d_read_219 n F' A' J) RPx := ok_and (s_d_read_219 hs S e0 h2 f18 f74 R hn) (x_read_219p hs R X hn)
theorem x_read_177 (hs : 0 ≤ s ∧ s ≤ 1 ∧ s = 1 - l) (S : SAm F0 A0) (e0 : (F0 18).toInt = l) (hF : IFm F) (h2 : (F 2).toInt = 0) (f18 : F 18 = F0 18) (f74 : F 74 = F0 74) (e19 : (F 19).toInt = s) (z11 : (F 11).toInt = 0) (z12 : (F 12).toInt = 0) (z13 : (F 13).toInt = 0) (z15 : (F 15).toInt = 0) (z20 : (F 20).toInt = 0) (z49 : (F 49).toInt = 50 * s) (z56 : (F 56).toInt = 420 * s) : ∀ {n : Nat} {A : Nat → Nat → Int32} {J : Nat → Nat → Int64} {x1 : Int32}, IAm A → LSm l A0 A → (∀ q, q = 11 ∨ q = 12 ∨ q = 17 ∨ q = 19 ∨ q = 29 ∨ q = 33 → ai A q s = 0) → (∀ q, 45 ≤ q → A q = A0 q) → (∀ k, 0 ≤ k → k < x1.toInt → ai A 34 (6 * s + k) = 0 ∧ ai A 35 (6 * s + k) = 0) → 0 ≤ x1.toInt ∧ x1.toInt ≤ 6 → 1510 - x1.toInt < (n : Int) → ok (d_read_177 n F A J x1) RPx := by
  intro n
  induction n with
  | zero => intro A J x1 hA L z o lw hx hn; exact absurd hn (by omega)
  | succ n ih =>
    intro A J x1 hA L z o lw hx hn
    have l1 : (1 : Int32).toInt = 1 := by decide
    have l6 : (6 : Int32).toInt = 6 := by decide
    have l0 : (0 : Int32).toInt = 0 := by decide
    unfold d_read_177
    refine ok_cond (fun c => ?_) (fun c => ?_)
    · rw [i_ge] at c
      have zA := z 11 (by omega)
      have zB := z 12 (by omega)
      have zC := z 17 (by omega)
      have zD := z 19 (by omega)
      have zE := z 29 (by omega)
      have zG := z 33 (by omega)
      refine x_read_219 hs S e0 h2 f18 f74 ⟨hF, hA, by rw [f18]; exact e0, e19, ⟨fun q h0 h1 => absurd h1 (by omega), ?_⟩, L, ⟨by omega, by omega, .inr ⟨z12, by omega⟩⟩, .inr (by omega), .inr ⟨by omega, fun b p q => absurd q (by omega), fun m m0 m1 b p q => ?_⟩, .inr (.inr ⟨fun d h0 h1 => absurd h1 (by omega), fun t h0 h1 => absurd h1 (by omega), fun t q h0 h1 => absurd h1 (by omega), fun m h0 h1 => absurd h1 (by omega)⟩), fun _ _ => rfl, o⟩ (.inr (by omega)) (.inr (.inr (fun m m0 m1 => absurd m1 (by rw [e19, zE]; omega))))
      · unfold CTm
        rw [e19]
        omega
      · have := lw m m0 (by omega)
        omega
    · rw [i_nge] at c
      have e1 := i_mulL (c := 6) (k := 6) (x := F 19) (by decide) (by omega) (by omega)
      have e2 := i_add (x := 6 * F 19) (y := x1) (by omega) (by omega)
      have e3 := i_add (x := x1) (y := 1) (by omega) (by omega)
      refine ok_st (j := 34) hA (by omega) (by omega) (show 0 ≤ (0 : Int32).toInt ∧ (0 : Int32).toInt ≤ 100 by decide) ?_
      intro A2 a2 o2 s2 n2
      refine ok_st (j := 35) a2 (by omega) (by omega) (show 0 ≤ (0 : Int32).toInt ∧ (0 : Int32).toInt ≤ 100 by decide) ?_
      intro A3 a3 o3 s3 n3
      have zz : (6 * F 19 + x1).toInt = 6 * s + x1.toInt := by omega
      rw [zz] at s2 n2 s3 n3
      have L2 : LSm l A0 A2 := L.st (by omega) 6 rfl o2 n2 ⟨by omega, by omega⟩ (by omega)
      have L3 : LSm l A0 A3 := L2.st (by omega) 6 rfl o3 n3 ⟨by omega, by omega⟩ (by omega)
      refine ih a3 L3 (fun q hq => by rw [ai_fr (o3 q (by omega)), ai_fr (o2 q (by omega))]; exact z q hq) (fun q hq => (o3 q (by omega)).trans ((o2 q (by omega)).trans (o q hq))) (fun k h0 h1 => ?_) (by omega) (by omega)
      rw [ai_fr (o3 34 (by decide))]
      by_cases e : k = x1.toInt
      · rw [e]
        exact ⟨s2.trans l0, s3.trans l0⟩
      · rw [n2 _ (by omega) (by omega), n3 _ (by omega) (by omega), ai_fr (o2 35 (by decide))]
        exact lw k h0 (by omega)
theorem x_read_10 (S : SAm F0 A0) (hF : IFm F) (f18 : F 18 = F0 18) (f74 : F 74 = F0 74) : ∀ {n : Nat} {A : Nat → Nat → Int32} {J : Nat → Nat → Int64} {x1 : Int32}, IAm A → (∀ q, q ≠ 2 → A q = A0 q) → 0 ≤ x1.toInt ∧ x1.toInt ≤ 2000 → 12000 - x1.toInt < (n : Int) → ok (d_read_10 n F A J x1) RPx := by
  intro n
  induction n with
  | zero => intro A J x1 hA o hx hn; exact absurd hn (by omega)
  | succ n ih =>
    intro A J x1 hA o hx hn
    have r4 : 0 ≤ (F 4).toInt ∧ (F 4).toInt ≤ 2000 := hF 4
    have r18 : 0 ≤ (F 18).toInt ∧ (F 18).toInt ≤ 1 := hF 18
    have l1 : (1 : Int32).toInt = 1 := by decide
    have l0 : (0 : Int32).toInt = 0 := by decide
    unfold d_read_10
    refine ok_cond (fun c => ?_) (fun c => ?_)
    · refine ok_pf hF (show 0 ≤ (0 : Int32).toInt ∧ (0 : Int32).toInt ≤ 2000 by decide) ?_
      intro F3 b3 k3 p3
      refine ok_call (s_d_cut b3 hA (by omega)) ?_
      rintro ⟨u, F5, A5, J5⟩ ⟨b5, a5, p5, o5, -⟩
      dsimp only at b5 a5 p5 o5 ⊢
      refine ok_pf b5 (show 0 ≤ (0 : Int32).toInt ∧ (0 : Int32).toInt ≤ 400 by decide) ?_
      intro F6 b6 k6 p6
      refine ok_pf b6 (show 0 ≤ (0 : Int32).toInt ∧ (0 : Int32).toInt ≤ 7 by decide) ?_
      intro F7 b7 k7 p7
      refine ok_pf b7 (show 0 ≤ (0 : Int32).toInt ∧ (0 : Int32).toInt ≤ 5 by decide) ?_
      intro F8 b8 k8 p8
      refine ok_pf b8 (show 0 ≤ (0 : Int32).toInt ∧ (0 : Int32).toInt ≤ 5 by decide) ?_
      intro F9 b9 k9 p9
      have g18 : F9 18 = F 18 := (p9 18 (by decide)).trans ((p8 18 (by decide)).trans ((p7 18 (by decide)).trans ((p6 18 (by decide)).trans ((p5 18 (by decide)).trans (p3 18 (by decide))))))
      have e1 := i_sub (x := 1) (y := F9 18) (by rw [g18]; omega) (by rw [g18]; omega)
      rw [g18] at e1
      refine ok_pf b9 (show 0 ≤ (1 - F9 18).toInt ∧ (1 - F9 18).toInt ≤ 1 by rw [g18]; omega) ?_
      intro F10 b10 k10 p10
      refine ok_pf b10 (show 0 ≤ (0 : Int32).toInt ∧ (0 : Int32).toInt ≤ 32 by decide) ?_
      intro F11 b11 k11 p11
      have x19 : (F11 19).toInt = 1 - (F 18).toInt := by rw [p11 19 (by decide), k10, g18]; omega
      refine ok_st (j := 11) a5 (by omega) (by omega) (show 0 ≤ (0 : Int32).toInt ∧ (0 : Int32).toInt ≤ 8 by decide) ?_
      intro A6 a6 o6 s6 n6
      refine ok_st (j := 12) a6 (by omega) (by omega) (show 0 ≤ (0 : Int32).toInt ∧ (0 : Int32).toInt ≤ 12 by decide) ?_
      intro A7 a7 o7 s7 n7
      refine ok_st (j := 17) a7 (by omega) (by omega) (show 0 ≤ (0 : Int32).toInt ∧ (0 : Int32).toInt ≤ 6 by decide) ?_
      intro A8 a8 o8 s8 n8
      refine ok_st (j := 19) a8 (by omega) (by omega) (show 0 ≤ (0 : Int32).toInt ∧ (0 : Int32).toInt ≤ 6 by decide) ?_
      intro A9 a9 o9 s9 n9
      refine ok_st (j := 29) a9 (by omega) (by omega) (show 0 ≤ (0 : Int32).toInt ∧ (0 : Int32).toInt ≤ 6 by decide) ?_
      intro A10 a10 o10 s10 n10
      refine ok_st (j := 33) a10 (by omega) (by omega) (show 0 ≤ (0 : Int32).toInt ∧ (0 : Int32).toInt ≤ 8 by decide) ?_
      intro A11 a11 o11 s11 n11
      refine ok_st (j := 41) a11 (by omega) (by omega) (show 0 ≤ (480 : Int32).toInt ∧ (480 : Int32).toInt ≤ 9999 by decide) ?_
      intro A12 a12 o12 s12 n12
      have e2 := i_mulL (c := 50) (k := 50) (x := F11 19) (by decide) (by omega) (by omega)
      refine ok_pf b11 (show 0 ≤ (50 * F11 19).toInt ∧ (50 * F11 19).toInt ≤ 100 by omega) ?_
      intro F12 b12 k12 p12
      have y19 : (F12 19).toInt = 1 - (F 18).toInt := by rw [p12 19 (by decide)]; exact x19
      have e3 := i_mulL (c := 420) (k := 420) (x := F12 19) (by decide) (by omega) (by omega)
      refine ok_pf b12 (show 0 ≤ (420 * F12 19).toInt ∧ (420 * F12 19).toInt ≤ 840 by omega) ?_
      intro F13 b13 k13 p13
      have L5 : LSm (F 18).toInt A0 A5 := ((LSm.rfl' (F 18).toInt A0).fr [2] (fun q hq => o q (fun e => hq (by rw [e]; decide))) (by decide)).fr [3, 4, 5] o5 (by decide)
      have L6 := L5.st r18.1 1 rfl o6 n6 ⟨by omega, by omega⟩ (by omega)
      have L7 := L6.st r18.1 1 rfl o7 n7 ⟨by omega, by omega⟩ (by omega)
      have L8 := L7.st r18.1 1 rfl o8 n8 ⟨by omega, by omega⟩ (by omega)
      have L9 := L8.st r18.1 1 rfl o9 n9 ⟨by omega, by omega⟩ (by omega)
      have L10 := L9.st r18.1 1 rfl o10 n10 ⟨by omega, by omega⟩ (by omega)
      have L11 := L10.st r18.1 1 rfl o11 n11 ⟨by omega, by omega⟩ (by omega)
      have L12 := L11.st r18.1 1 rfl o12 n12 ⟨by omega, by omega⟩ (by omega)
      have fr : ∀ q, q ∉ ([11, 12, 13, 15, 19, 20, 49, 56] : List Nat) → F13 q = F5 q := fun q hq => (p13 q (fun e => hq (by rw [e]; decide))).trans ((p12 q (fun e => hq (by rw [e]; decide))).trans ((p11 q (fun e => hq (by rw [e]; decide))).trans ((p10 q (fun e => hq (by rw [e]; decide))).trans ((p9 q (fun e => hq (by rw [e]; decide))).trans ((p8 q (fun e => hq (by rw [e]; decide))).trans ((p7 q (fun e => hq (by rw [e]; decide))).trans (p6 q (fun e => hq (by rw [e]; decide)))))))))
      have oA : ∀ q, q ∉ ([11, 12, 17, 19, 29, 33, 41] : List Nat) → A12 q = A5 q := fun q hq => (o12 q (fun e => hq (by rw [e]; decide))).trans ((o11 q (fun e => hq (by rw [e]; decide))).trans ((o10 q (fun e => hq (by rw [e]; decide))).trans ((o9 q (fun e => hq (by rw [e]; decide))).trans ((o8 q (fun e => hq (by rw [e]; decide))).trans ((o7 q (fun e => hq (by rw [e]; decide))).trans (o6 q (fun e => hq (by rw [e]; decide))))))))
      rw [x19, l0] at s6 s7 s8 s9 s10 s11
      have v11 : ai A12 11 (1 - (F 18).toInt) = 0 := by rw [ai_fr (o12 11 (by decide)), ai_fr (o11 11 (by decide)), ai_fr (o10 11 (by decide)), ai_fr (o9 11 (by decide)), ai_fr (o8 11 (by decide)), ai_fr (o7 11 (by decide))]; exact s6
      have v12 : ai A12 12 (1 - (F 18).toInt) = 0 := by rw [ai_fr (o12 12 (by decide)), ai_fr (o11 12 (by decide)), ai_fr (o10 12 (by decide)), ai_fr (o9 12 (by decide)), ai_fr (o8 12 (by decide))]; exact s7
      have v17 : ai A12 17 (1 - (F 18).toInt) = 0 := by rw [ai_fr (o12 17 (by decide)), ai_fr (o11 17 (by decide)), ai_fr (o10 17 (by decide)), ai_fr (o9 17 (by decide))]; exact s8
      have v19 : ai A12 19 (1 - (F 18).toInt) = 0 := by rw [ai_fr (o12 19 (by decide)), ai_fr (o11 19 (by decide)), ai_fr (o10 19 (by decide))]; exact s9
      have v29 : ai A12 29 (1 - (F 18).toInt) = 0 := by rw [ai_fr (o12 29 (by decide)), ai_fr (o11 29 (by decide))]; exact s10
      have v33 : ai A12 33 (1 - (F 18).toInt) = 0 := by rw [ai_fr (o12 33 (by decide))]; exact s11
      refine x_read_177 (l := (F 18).toInt) (s := 1 - (F 18).toInt) ⟨by omega, by omega, rfl⟩ S (by rw [f18]) b13 ?_ ?_ ?_ ?_ ?_ ?_ ?_ ?_ ?_ ?_ ?_ a12 L12 ?_ ?_ (fun k h0 h1 => absurd h1 (by omega)) (by decide) (by omega)
      · rw [fr 2 (by decide), p5 2 (by decide), k3]; exact l0
      · exact (fr 18 (by decide)).trans ((p5 18 (by decide)).trans ((p3 18 (by decide)).trans f18))
      · exact (fr 74 (by decide)).trans ((p5 74 (by decide)).trans ((p3 74 (by decide)).trans f74))
      · rw [p13 19 (by decide)]; exact y19
      · rw [p13 11 (by decide), p12 11 (by decide), p11 11 (by decide), p10 11 (by decide), p9 11 (by decide), p8 11 (by decide), p7 11 (by decide), k6]; exact l0
      · rw [p13 12 (by decide), p12 12 (by decide), p11 12 (by decide), p10 12 (by decide), p9 12 (by decide), p8 12 (by decide), k7]; exact l0
      · rw [p13 13 (by decide), p12 13 (by decide), p11 13 (by decide), p10 13 (by decide), p9 13 (by decide), k8]; exact l0
      · rw [p13 15 (by decide), p12 15 (by decide), p11 15 (by decide), p10 15 (by decide), k9]; exact l0
      · rw [p13 20 (by decide), p12 20 (by decide), k11]; exact l0
      · rw [p13 49 (by decide), k12]; omega
      · rw [k13]; omega
      · intro q hq
        rcases hq with rfl | rfl | rfl | rfl | rfl | rfl
        · exact v11
        · exact v12
        · exact v17
        · exact v19
        · exact v29
        · exact v33
      · intro q hq
        exact (oA q (by simp; omega)).trans ((o5 q (by simp; omega)).trans (o q (by omega)))
    · rw [i_nge] at c
      have e3 := i_add (x := x1) (y := 1) (by omega) (by omega)
      refine ok_ld (j := 1) hA (by omega) (by omega) ?_
      intro v _ _
      refine ok_st (j := 2) hA (by omega) (by omega) trivial ?_
      intro A2 a2 o2 s2 n2
      exact ih a2 (fun q hq => (o2 q hq).trans (o q hq)) (by omega) (by omega)
theorem x_read {A : Nat → Nat → Int32} {J : Nat → Nat → Int64} {n : Nat} (S : SAm F A) (hn : 12100 ≤ n) : ok (d_read n F A J) RPx := by
  have l0 : (0 : Int32).toInt = 0 := by decide
  unfold d_read
  refine ok_pf S.1 (show 0 ≤ (F 2).toInt ∧ (F 2).toInt ≤ 2000 from S.1 2) ?_
  intro F1 b1 k1 p1
  exact x_read_10 S b1 (p1 18 (by decide)) (p1 74 (by decide)) S.2.1 (fun _ _ => rfl) (by decide) (by omega)
end K9f7
end Qz153
section Qz154
/-! what both sides share between calls -/
section H9f8
variable {n : Nat} {h : Nat} {P P' : Nat → Nat → Nat} {F F' : Nat → Nat → Int32} {A A' : Nat → Nat → Nat → Int32} {J : Nat → Nat → Nat → Int64} {Fm Fm' : Nat → Int32} {Am Am' : Nat → Nat → Int32} {Jm : Nat → Nat → Int64} {f f' : Nat → Int32} {a a' : Nat → Nat → Int32} {g g' : Int → Int}
/-- an evening on both sides, in the house h -/
def SS (h : Nat) (F : Nat → Nat → Int32) (A : Nat → Nat → Nat → Int32) (f : Nat → Int32) (a : Nat → Nat → Int32) (g : Int → Int) : Prop := (∀ k : Int, 0 ≤ k → k < 36 → (a 1 k.toNat).toInt = g (6 + k)) ∧ (∀ k : Int, 0 ≤ k → k < 6 → (a 2 k.toNat).toInt = g k ∧ 0 ≤ (a 2 k.toNat).toInt) ∧ (∀ k : Int, 0 ≤ k → k < 6 → (a 4 k.toNat).toInt = g (72 + k)) ∧ (∀ m : Int, 0 ≤ m → m < (F h 17).toInt → LQx h F A (a 3 m.toNat).toInt (g (42 + m)) (g (48 + m)) ∧ (a 5 m.toNat).toInt = g (54 + m) ∧ (a 6 m.toNat).toInt = g (60 + m) ∧ (a 7 m.toNat).toInt = g (66 + m)) ∧ (f 7).toInt = g 78 ∧ (f 8).toInt = g 79 ∧ B7 (f 7)
theorem SS.ok (h17 : (F h 17).toInt ≤ 6) : SOK (SS h F A) := by
  intro f f' a a' g g' e hg s
  obtain ⟨s1, s2, s3, s4, s5, s6, s7⟩ := s
  refine ⟨fun k k0 k1 => ?_, fun k k0 k1 => ?_, fun k k0 k1 => ?_, fun m m0 m1 => ?_, ?_, ?_, ?_⟩
  · rw [e.2.2.1 k.toNat (by omega), hg (6 + k) (by omega) (by omega)]
    exact s1 k k0 k1
  · rw [e.2.2.2 2 k.toNat (by decide) (by decide) (by omega), hg k (by omega) (by omega)]
    exact s2 k k0 k1
  · rw [e.2.2.2 4 k.toNat (by decide) (by decide) (by omega), hg (72 + k) (by omega) (by omega)]
    exact s3 k k0 k1
  · rw [e.2.2.2 3 m.toNat (by decide) (by decide) (by omega), e.2.2.2 5 m.toNat (by decide) (by decide) (by omega), e.2.2.2 6 m.toNat (by decide) (by decide) (by omega), e.2.2.2 7 m.toNat (by decide) (by decide) (by omega), hg (42 + m) (by omega) (by omega), hg (48 + m) (by omega) (by omega), hg (54 + m) (by omega) (by omega), hg (60 + m) (by omega) (by omega), hg (66 + m) (by omega) (by omega)]
    exact s4 m m0 m1
  · rw [e.1, hg 78 (by decide) (by decide)]
    exact s5
  · rw [e.2.1, hg 79 (by decide) (by decide)]
    exact s6
  · rw [e.1]
    exact s7
theorem SS.hs (S : SS h F A f a g) (h17 : F' h 17 = F h 17) (h16 : F' h 16 = F h 16) (h5 : A' h 5 = A h 5) : SS h F' A' f a g := by
  unfold SS LQx
  rw [h17, h16, ci_fr h5]
  exact S
theorem SS.to {r j : Nat} {b : Int} (s : SS h F A (F' r) (A' r) (fun i => ai Am j (b + i))) (h17 : F' h 17 = F h 17) (h16 : F' h 16 = F h 16) (h5 : A' h 5 = A h 5) : SBx True h r F' A' Am j b ∧ (F' r 7).toInt = ai Am j (b + 78) ∧ (F' r 8).toInt = ai Am j (b + 79) ∧ B7 (F' r 7) := by
  have t := s.hs h17 h16 h5
  exact ⟨⟨t.1, t.2.1, t.2.2.1, fun m m0 m1 => ⟨(t.2.2.2.1 m m0 m1).1, (t.2.2.2.1 m m0 m1).2.1, (t.2.2.2.1 m m0 m1).2.2.1, fun _ => (t.2.2.2.1 m m0 m1).2.2.2⟩⟩, t.2.2.2.2.1, t.2.2.2.2.2.1, t.2.2.2.2.2.2⟩
theorem SS.of {r j : Nat} {b : Int} (s : SBx True h r F' A' Am j b) (s7 : (F' r 7).toInt = ai Am j (b + 78)) (s8 : (F' r 8).toInt = ai Am j (b + 79)) (s9 : B7 (F' r 7)) (h17 : F' h 17 = F h 17) (h16 : F' h 16 = F h 16) (h5 : A' h 5 = A h 5) : SS h F A (F' r) (A' r) (fun i => ai Am j (b + i)) := by
  have t : SS h F' A' (F' r) (A' r) (fun i => ai Am j (b + i)) := ⟨s.1, s.2.1, s.2.2.1, fun m m0 m1 => ⟨(s.2.2.2 m m0 m1).1, (s.2.2.2 m m0 m1).2.1, (s.2.2.2 m m0 m1).2.2.1, (s.2.2.2 m m0 m1).2.2.2 trivial⟩, s7, s8, s9⟩
  exact t.hs h17.symm h16.symm h5.symm
theorem g_zero {j : Nat} : (fun i => ai Am j i) = (fun i => ai Am j (0 + i)) := funext (fun i => by rw [Int.zero_add])
/-- what was told -/
def TLx (F : Nat → Nat → Int32) (A : Nat → Nat → Nat → Int32) (Am : Nat → Nat → Int32) : Prop := ∀ k : Int, 0 ≤ k → k < (F 25 2).toInt → ci A 25 1 k = 6 * ai Am 58 k + ai Am 59 k ∧ ci A 25 2 k = ai Am 60 k
/-- what both sides share between calls -/
def XR (P : Nat → Nat → Nat) (F : Nat → Nat → Int32) (A : Nat → Nat → Nat → Int32) (Fm : Nat → Int32) (Am : Nat → Nat → Int32) : Prop := NHx (P 0 8) F A Fm Am ∧ SCx F Fm Am ∧ YS (SS (P 0 8) F A) F A Fm Am ∧ WCx (P 0 8) F A ∧ TLx F A Am
theorem kd_st : ∀ r : Nat, r < 32 → (r = 2 ∨ (5 ≤ r ∧ r ≤ 24) ∨ 29 ≤ r) → c_kind r = 2 := by decide
theorem YS.map {S S' : (Nat → Int32) → (Nat → Nat → Int32) → (Int → Int) → Prop} (Y : YS S F A Fm Am) (k : ∀ f a g, S f a g → S' f a g) : YS S' F A Fm Am := ⟨k _ _ _ Y.1, fun u u0 u1 => k _ _ _ (Y.2.1 u u0 u1), fun s hs hb => k _ _ _ (Y.2.2 s hs hb)⟩
/-- a try leaves it -/
theorem XR.tried (X : XR P F A Fm Am) (G : Gc P F A) (q : QFc P P' F F' A A') (k : KT Fm Am Fm' Am') : XR P' F' A' Fm' Am' := by
  obtain ⟨N, C, Y, W, T⟩ := X
  have e8 : P' 0 8 = P 0 8 := q.1.1 0 8 (by decide)
  have hF := (q.1.2.2.1 _ G.live).1
  have hA := (q.1.2.2.1 _ G.live).2
  have hS : SOK (SS (P 0 8) F A) := SS.ok N.ct.2.2.2.2.2
  have st := q.2.1.1
  have sr : ∀ r : Nat, r < 32 → (r = 2 ∨ (5 ≤ r ∧ r ≤ 24) ∨ 29 ≤ r) → SE (F r) (F' r) (A r) (A' r) := fun r h1 h2 => .of (st r (kd_st r h1 h2) (by omega) (by omega)).2 (st r (kd_st r h1 h2) (by omega) (by omega)).1
  have Y' : YS (SS (P 0 8) F A) F' A' Fm' Am' := by
    refine ⟨Y.1.cg hS (sr 2 (by decide) (by decide)) (fun i _ _ => by unfold ai; rw [k.2 47 (by decide)]), ?_, Y.2.2.cg hS (fun r r0 r1 => sr r (by omega) (by omega)) (k.2 61 (by decide)) (k.2 62 (by decide))⟩
    rw [k.1 74 (by decide) (by decide)]
    exact Y.2.1.cg hS (by rw [q.1.2.2.2.2.1 1]) (fun r r0 r1 => sr r (by omega) (by omega)) (k.2 57 (by decide))
  refine ⟨?_, ?_, ?_, ?_, ?_⟩
  · rw [e8]
    exact N.fr hF hA (k.1 18 (by decide) (by decide)) (fun q a b => k.2 q (.inl (by omega)))
  · exact ⟨by rw [q.2.1.2.2 2, k.1 77 (by decide) (by decide)]; exact C.1, by rw [q.1.2.2.2.2.1 2, k.1 74 (by decide) (by decide)]; exact C.2.1, fun s hs => by rw [q.1.2.2.2.2.2.1, k.2 61 (by decide)]; exact C.2.2 s hs⟩
  · rw [e8]
    exact Y'.map (fun f a g s => s.hs (hF 17) (hF 16) (hA 5 (by decide)))
  · rw [e8]
    exact q.2.2 N.kd W
  · intro i i0 i1
    rw [q.2.1.2.2 2] at i1
    rw [ci_fr (q.2.1.2.1 1), ci_fr (q.2.1.2.1 2), ai_fr (k.2 58 (by decide)), ai_fr (k.2 59 (by decide)), ai_fr (k.2 60 (by decide))]
    exact T i i0 i1
theorem p2_try {o : Option (cR Int32)} {u : Option (mR Int32)} (X : XR P F A Fm Am) (G : Gc P F A) (ho : ok o (fun r => QFc P r.2.1 F r.2.2.1 A r.2.2.2.1)) (hu : po u (fun r => KT Fm Am r.2.1 r.2.2.1)) : P2 o u (fun a b => XR a.2.1 a.2.2.1 a.2.2.2.1 b.2.1 b.2.2.1) := p2_of ho.po hu (fun _ _ q k => X.tried G q k)
/-- a hand's work: the evening of now alone changes -/
theorem XR.now (X : XR P F A Fm Am) (G : Gc P F A) (hF : ∀ r k, r ≠ 2 → ¬ (r = 32 ∧ k = 6) → F' r k = F r k) (hA : ∀ r o, r ≠ 2 → A' r o = A r o) (e : Fm' = Fm) (hm : ∀ q, q ≠ 47 → q < 45 ∨ 57 ≤ q → Am' q = Am q) (S : SS (P 0 8) F A (F' 2) (A' 2) (fun i => ai Am' 47 i)) : XR P F' A' Fm' Am' := by
  obtain ⟨N, C, Y, W, T⟩ := X
  subst e
  have n2 : P 0 8 ≠ 2 := G.n2
  have n32 : P 0 8 ≠ 32 := fun e => absurd G.k08 (by rw [e]; decide)
  have hF8 : ∀ k, F' (P 0 8) k = F (P 0 8) k := fun k => hF _ k n2 (fun e => n32 e.1)
  have hA8 : ∀ o, A' (P 0 8) o = A (P 0 8) o := fun o => hA _ o n2
  have hS : SOK (SS (P 0 8) F A) := SS.ok N.ct.2.2.2.2.2
  have sr : ∀ r : Nat, r ≠ 2 → r ≠ 32 → SE (F r) (F' r) (A r) (A' r) := fun r h1 h2 => .of (fun k => hF r k h1 (fun e => h2 e.1)) (fun o => hA r o h1)
  have Y' : YS (SS (P 0 8) F A) F' A' Fm' Am' := ⟨S, Y.2.1.cg hS (by rw [hF 4 1 (by decide) (by decide)]) (fun r r0 r1 => sr r (by omega) (by omega)) (hm 57 (by decide) (by decide)), Y.2.2.cg hS (fun r r0 r1 => sr r (by omega) (by omega)) (hm 61 (by decide) (by decide)) (hm 62 (by decide) (by decide))⟩
  refine ⟨N.fr hF8 (fun o _ => hA8 o) rfl (fun q a b => hm q (by omega) (.inl (by omega))), ?_, Y'.map (fun f a g s => s.hs (hF8 17) (hF8 16) (hA8 5)), W.cg hF8 (fun o _ => hA8 o) (hF 36 101 (by decide) (by decide)) (hA 36 2 (by decide)), ?_⟩
  · exact ⟨by rw [hF 25 2 (by decide) (by decide)]; exact C.1, by rw [hF 4 2 (by decide) (by decide)]; exact C.2.1, fun s hs => by rw [hF 0 10 (by decide) (by decide), hm 61 (by decide) (by decide)]; exact C.2.2 s hs⟩
  · intro i i0 i1
    rw [hF 25 2 (by decide) (by decide)] at i1
    rw [ci_fr (hA 25 1 (by decide)), ci_fr (hA 25 2 (by decide)), ai_fr (hm 58 (by decide) (by decide)), ai_fr (hm 59 (by decide) (by decide)), ai_fr (hm 60 (by decide) (by decide))]
    exact T i i0 i1
theorem w_stale : po (e_Evening_setStale P F A J) (fun z => z.2.1 = P ∧ FUm F z.2.2.1 32 6 (-1) ∧ z.2.2.2.1 = A) := by
  unfold e_Evening_setStale
  exact po_bl (fun F1 h1 => po_some ⟨rfl, gg_cpf h1, rfl⟩)
/-- undo, hold, restore -/
theorem SCx.r74 (S : SAm Fm Am) : 0 ≤ (Fm 74).toInt ∧ (Fm 74).toInt ≤ 20 := S.1 74
end H9f8
end Qz154
section Qz155
/-! the hands' calls, on both sides -/
section H9f9
variable {n : Nat} {h : Nat} {P P' : Nat → Nat → Nat} {F F' : Nat → Nat → Int32} {A A' : Nat → Nat → Nat → Int32} {J : Nat → Nat → Nat → Int64} {Fm Fm' : Nat → Int32} {Am Am' : Nat → Nat → Int32} {Jm : Nat → Nat → Int64} {x1 x2 x3 : Int32} {f f' : Nat → Int32} {a a' : Nat → Nat → Int32} {g g' : Int → Int} {i v t u : Int}
/-- one cell of the evening of now is written -/
def CH (P : Nat → Nat → Nat) (F : Nat → Nat → Int32) (A : Nat → Nat → Nat → Int32) (o : Nat) (i v : Int) (r : cR Int32) : Prop := r.2.1 = P ∧ ((r.1 = 0 ∧ r.2.2.1 = F ∧ r.2.2.2.1 = A) ∨ (r.1 = 1 ∧ (0 ≤ i ∧ i < 6) ∧ FUm F r.2.2.1 32 6 (-1) ∧ CUm A r.2.2.2.1 2 o i v))
def DH (Fm : Nat → Int32) (Am : Nat → Nat → Int32) (i v : Int) (r : mR Int32) : Prop := r.2.1 = Fm ∧ ((r.1 = 0 ∧ r.2.2.1 = Am) ∨ (r.1 = 1 ∧ (∀ q, q ≠ 47 → r.2.2.1 q = Am q) ∧ ai r.2.2.1 47 i = v ∧ ∀ q, 0 ≤ q → q ≠ i → ai r.2.2.1 47 q = ai Am 47 q))
theorem u_cLay : po (e_SleepWork_lay P F A J x1 x2) (CH P F A 4 x1.toInt x2.toInt) := by
  unfold e_SleepWork_lay
  refine po_bl (fun v1 _ => ?_)
  refine po_cond (fun _ => po_some ⟨rfl, .inl ⟨rfl, rfl, rfl⟩⟩) (fun _ => ?_)
  refine po_bl (fun v3 _ => ?_)
  refine po_cond (fun _ => ?_) (fun _ => po_some ⟨rfl, .inl ⟨rfl, rfl, rfl⟩⟩)
  refine po_bl (fun A5 h5 => ?_)
  have U := gg_cst h5
  refine po_call w_stale ?_
  rintro ⟨u, P7, F8, A9, J10⟩ ⟨w1, w2, w3⟩
  dsimp only at w1 w2 w3 ⊢
  rw [w1, w3]
  exact po_some ⟨rfl, .inr ⟨rfl, ⟨U.1, U.2.1⟩, w2, U.2.2⟩⟩
theorem u_cGive : po (e_SleepWork_give P F A J x1 x2) (CH P F A 4 x1.toInt (100 + x2).toInt) := by
  unfold e_SleepWork_give
  refine po_bl (fun v1 _ => ?_)
  refine po_cond (fun _ => po_some ⟨rfl, .inl ⟨rfl, rfl, rfl⟩⟩) (fun _ => ?_)
  refine po_bl (fun v3 _ => ?_)
  refine po_cond (fun _ => ?_) (fun _ => po_some ⟨rfl, .inl ⟨rfl, rfl, rfl⟩⟩)
  refine po_bl (fun A5 h5 => ?_)
  have U := gg_cst h5
  refine po_call w_stale ?_
  rintro ⟨u, P7, F8, A9, J10⟩ ⟨w1, w2, w3⟩
  dsimp only at w1 w2 w3 ⊢
  rw [w1, w3]
  exact po_some ⟨rfl, .inr ⟨rfl, ⟨U.1, U.2.1⟩, w2, U.2.2⟩⟩
theorem i_72 {k x : Int32} (hk : 0 ≤ k.toInt ∧ k.toInt ≤ 100) (hx : 0 ≤ x.toInt ∧ x.toInt ≤ 12) : (k + x).toInt = k.toInt + x.toInt := i_add (by omega) (by omega)
theorem u_dLay (S : SAm Fm Am) : po (d_lay Fm Am Jm x1 x2) (DH Fm Am (72 + x1.toInt) x2.toInt) := by
  have l72 : (72 : Int32).toInt = 72 := by decide
  have c := S.cnt (j := 17) (by omega)
  unfold d_lay
  refine po_call (v_dTool S) ?_
  intro v b
  rcases b with ⟨rfl, p⟩ | ⟨rfl, p⟩
  · refine po_cond (fun c => absurd c (by decide)) (fun _ => ?_)
    refine po_bl (fun v3 _ => ?_)
    refine po_cond (fun _ => ?_) (fun _ => po_some ⟨rfl, .inl ⟨rfl, rfl⟩⟩)
    refine po_bl (fun A5 h5 => po_some ⟨rfl, .inr ⟨rfl, ?_⟩⟩)
    have U := (gg_st h5).2.2
    have e := i_72 (k := 72) (x := x1) (by decide) (by omega)
    rw [l72] at e
    rw [e] at U
    exact ⟨U.1, U.2.1, U.2.2⟩
  · exact po_cond (fun _ => po_some ⟨rfl, .inl ⟨rfl, rfl⟩⟩) (fun c => absurd c (by decide))
theorem u_dGive (S : SAm Fm Am) : po (d_give Fm Am Jm x1 x2) (DH Fm Am (72 + x1.toInt) (100 + x2).toInt) := by
  have l72 : (72 : Int32).toInt = 72 := by decide
  have c := S.cnt (j := 17) (by omega)
  unfold d_give
  refine po_call (v_dTool S) ?_
  intro v b
  rcases b with ⟨rfl, p⟩ | ⟨rfl, p⟩
  · refine po_cond (fun c => absurd c (by decide)) (fun _ => ?_)
    refine po_bl (fun v3 _ => ?_)
    refine po_cond (fun _ => ?_) (fun _ => po_some ⟨rfl, .inl ⟨rfl, rfl⟩⟩)
    refine po_bl (fun A5 h5 => po_some ⟨rfl, .inr ⟨rfl, ?_⟩⟩)
    have U := (gg_st h5).2.2
    have e := i_72 (k := 72) (x := x1) (by decide) (by omega)
    rw [l72] at e
    rw [e] at U
    exact ⟨U.1, U.2.1, U.2.2⟩
  · exact po_cond (fun _ => po_some ⟨rfl, .inl ⟨rfl, rfl⟩⟩) (fun c => absurd c (by decide))
theorem SS.tool (s : SS h F A f a g) (h7 : f' 7 = f 7) (h8 : f' 8 = f 8) (ha : ∀ o, o ≠ 4 → a' o = a o) (h4 : ∀ k : Int, 0 ≤ k → k ≠ i → (a' 4 k.toNat).toInt = (a 4 k.toNat).toInt) (h4i : (a' 4 i.toNat).toInt = v) (hg : ∀ q, 0 ≤ q → q ≠ 72 + i → g' q = g q) (hgi : g' (72 + i) = v) (i0 : 0 ≤ i) (i6 : i < 6) (nm : (F h 17).toInt ≤ 6) : SS h F A f' a' g' := by
  obtain ⟨s1, s2, s3, s4, s5, s6, s7⟩ := s
  refine ⟨fun k k0 k1 => ?_, fun k k0 k1 => ?_, fun k k0 k1 => ?_, fun m m0 m1 => ?_, ?_, ?_, by rw [h7]; exact s7⟩
  · rw [ha 1 (by decide), hg _ (by omega) (by omega)]
    exact s1 k k0 k1
  · rw [ha 2 (by decide), hg _ (by omega) (by omega)]
    exact s2 k k0 k1
  · by_cases e : k = i
    · rw [e, h4i, hgi]
    · rw [h4 k k0 e, hg _ (by omega) (by omega)]
      exact s3 k k0 k1
  · rw [ha 3 (by decide), ha 5 (by decide), ha 6 (by decide), ha 7 (by decide), hg _ (by omega) (by omega), hg _ (by omega) (by omega), hg _ (by omega) (by omega), hg _ (by omega) (by omega), hg _ (by omega) (by omega)]
    exact s4 m m0 m1
  · rw [h7, hg _ (by omega) (by omega)]
    exact s5
  · rw [h8, hg _ (by omega) (by omega)]
    exact s6
theorem SS.left (s : SS h F A f a g) (h7 : f' 7 = f 7) (h8 : f' 8 = f 8) (ha : ∀ o, o ≠ 3 → a' o = a o) (h3 : ∀ k : Int, 0 ≤ k → k ≠ i → (a' 3 k.toNat).toInt = (a 3 k.toNat).toInt) (h3i : (a' 3 i.toNat).toInt = v) (hg : ∀ q, 0 ≤ q → q ≠ 42 + i → q ≠ 48 + i → g' q = g q) (hgt : g' (42 + i) = t) (hgu : g' (48 + i) = u) (L : LQx h F A v t u) (i0 : 0 ≤ i) (i6 : i < 6) (nm : (F h 17).toInt ≤ 6) : SS h F A f' a' g' := by
  obtain ⟨s1, s2, s3, s4, s5, s6, s7⟩ := s
  refine ⟨fun k k0 k1 => ?_, fun k k0 k1 => ?_, fun k k0 k1 => ?_, fun m m0 m1 => ?_, ?_, ?_, by rw [h7]; exact s7⟩
  · rw [ha 1 (by decide), hg _ (by omega) (by omega) (by omega)]
    exact s1 k k0 k1
  · rw [ha 2 (by decide), hg _ (by omega) (by omega) (by omega)]
    exact s2 k k0 k1
  · rw [ha 4 (by decide), hg _ (by omega) (by omega) (by omega)]
    exact s3 k k0 k1
  · have e := s4 m m0 m1
    rw [ha 5 (by decide), ha 6 (by decide), ha 7 (by decide), hg (54 + m) (by omega) (by omega) (by omega), hg (60 + m) (by omega) (by omega) (by omega), hg (66 + m) (by omega) (by omega) (by omega)]
    refine ⟨?_, e.2⟩
    by_cases hm : m = i
    · rw [hm, h3i, hgt, hgu]
      exact L
    · rw [h3 m m0 hm, hg (42 + m) (by omega) (by omega) (by omega), hg (48 + m) (by omega) (by omega) (by omega)]
      exact e.1
  · rw [h7, hg _ (by omega) (by omega) (by omega)]
    exact s5
  · rw [h8, hg _ (by omega) (by omega) (by omega)]
    exact s6
/-- the frames of a hand's cell -/
theorem CH.fr {o : Nat} {r : cR Int32} (U : FUm F r.2.2.1 32 6 (-1)) (V : CUm A r.2.2.2.1 2 o i v) : (∀ q k, q ≠ 2 → ¬ (q = 32 ∧ k = 6) → r.2.2.1 q k = F q k) ∧ (∀ q p, q ≠ 2 → r.2.2.2.1 q p = A q p) ∧ (r.2.2.1 2 7 = F 2 7 ∧ r.2.2.1 2 8 = F 2 8) ∧ (∀ p, p ≠ o → r.2.2.2.1 2 p = A 2 p) := ⟨fun q k _ h => U.2 q k h, fun q p h => V.2.2 q p (fun e => h e.1), ⟨U.2 2 7 (by decide), U.2 2 8 (by decide)⟩, fun p h => V.2.2 2 p (fun e => h e.2)⟩
theorem p2_toolX {o : Option (cR Int32)} {w : Option (mR Int32)} (X : XR P F A Fm Am) (G : Gc P F A) (ho : po o (CH P F A 4 i v)) (hw : po w (DH Fm Am (72 + i) v)) (e : P2 o w (fun a b => a.1 = b.1)) : P2 o w (fun a b => a.1 = b.1 ∧ XR a.2.1 a.2.2.1 a.2.2.2.1 b.2.1 b.2.2.1) := by
  intro a b ha hb
  have e1 : a.1 = b.1 := e a b ha hb
  obtain ⟨p1, c⟩ := ho a ha
  obtain ⟨d1, d⟩ := hw b hb
  refine ⟨e1, ?_⟩
  have n17 := X.1.ct.2.2.2.2.2
  rcases c with ⟨c0, cF, cA⟩ | ⟨c0, ci', cF, cA⟩
  · rcases d with ⟨d0, dA⟩ | ⟨d0, -⟩
    · rw [p1, cF, cA, d1, dA]
      exact X
    · rw [c0, d0] at e1
      exact absurd e1 (by decide)
  · rcases d with ⟨d0, dA⟩ | ⟨d0, m1, m2, m3⟩
    · rw [c0, d0] at e1
      exact absurd e1 (by decide)
    · have fr := CH.fr cF cA
      rw [p1]
      refine X.now G fr.1 fr.2.1 d1 (fun q hq _ => m1 q hq) ?_
      exact X.2.2.1.1.tool fr.2.2.1.1 fr.2.2.1.2 fr.2.2.2 (fun k k0 hk => cA.2.1 k k0 hk) cA.1 m3 m2 ci'.1 ci'.2 n17
theorem p2_layX (X : XR P F A Fm Am) (G : Gc P F A) (S : SAm Fm Am) : P2 (e_SleepWork_lay P F A J x1 x2) (d_lay Fm Am Jm x1 x2) (fun a b => a.1 = b.1 ∧ XR a.2.1 a.2.2.1 a.2.2.2.1 b.2.1 b.2.2.1) := p2_toolX X G u_cLay (u_dLay S) (p2_lay G S X.1.1)
theorem p2_giveX (X : XR P F A Fm Am) (G : Gc P F A) (S : SAm Fm Am) : P2 (e_SleepWork_give P F A J x1 x2) (d_give Fm Am Jm x1 x2) (fun a b => a.1 = b.1 ∧ XR a.2.1 a.2.2.1 a.2.2.2.1 b.2.1 b.2.2.1) := p2_toolX X G u_cGive (u_dGive S) (p2_give G S X.1.1)
/-- bar -/
theorem u_cBar : po (e_SleepWork_bar P F A J x1 x2) (fun r => r.2.1 = P ∧ ((r.1 = 0 ∧ r.2.2.1 = F ∧ r.2.2.2.1 = A) ∨ (r.1 = 1 ∧ (∀ q k, ¬ (q = 2 ∧ k = 7) → ¬ (q = 32 ∧ k = 6) → r.2.2.1 q k = F q k) ∧ r.2.2.1 2 7 = (if x2 = 0 then F 2 7 &&& (((1 : Int32) <<< (x1 &&& 31)) ^^^ (-1)) else F 2 7 ||| ((1 : Int32) <<< (x1 &&& 31))) ∧ r.2.2.2.1 = A))) := by
  have f52 : ∀ s1 : Int32, po (e_SleepWork_bar_52 P F A J 2 s1) (fun r => r.1 = 1 ∧ r.2.1 = P ∧ (∀ q k, ¬ (q = 2 ∧ k = 7) → ¬ (q = 32 ∧ k = 6) → r.2.2.1 q k = F q k) ∧ r.2.2.1 2 7 = s1 ∧ r.2.2.2.1 = A) := by
    intro s1
    unfold e_SleepWork_bar_52
    refine po_bl (fun F5 h5 => ?_)
    have U := gg_cpf h5
    refine po_call w_stale ?_
    rintro ⟨u, P7, F8, A9, J10⟩ ⟨w1, w2, w3⟩
    dsimp only at w1 w2 w3 ⊢
    exact po_some ⟨rfl, w1, fun q k a b => (w2.2 q k b).trans (U.2 q k a), (w2.2 2 7 (by decide)).trans U.1, w3⟩
  unfold e_SleepWork_bar
  refine po_cond (fun _ => po_some ⟨rfl, .inl ⟨rfl, rfl, rfl⟩⟩) (fun _ => ?_)
  refine po_bl (fun q2 _ => ?_)
  refine po_cond (fun _ => ?_) (fun _ => po_some ⟨rfl, .inl ⟨rfl, rfl, rfl⟩⟩)
  refine po_cond (fun c => po_mono (f52 _) (fun r h => ⟨h.2.1, .inr ⟨h.1, h.2.2.1, ?_, h.2.2.2.2⟩⟩)) (fun c => po_mono (f52 _) (fun r h => ⟨h.2.1, .inr ⟨h.1, h.2.2.1, ?_, h.2.2.2.2⟩⟩))
  · rw [i_eq] at c
    rw [if_pos (i_ext c)]
    exact h.2.2.2.1
  · rw [i_neq] at c
    rw [if_neg (fun e => c (by rw [e]))]
    exact h.2.2.2.1
theorem u_dBar : po (d_bar Fm Am Jm x1 x2) (fun r => r.2.1 = Fm ∧ ((r.1 = 0 ∧ r.2.2.1 = Am) ∨ (r.1 = 1 ∧ (∀ q, q ≠ 47 → r.2.2.1 q = Am q) ∧ (∀ q, 0 ≤ q → q ≠ 78 → ai r.2.2.1 47 q = ai Am 47 q) ∧ ai r.2.2.1 47 78 = (if x2 = 0 then Am 47 78 &&& (((1 : Int32) <<< (x1 &&& 31)) ^^^ (-1)) else Am 47 78 ||| ((1 : Int32) <<< (x1 &&& 31))).toInt))) := by
  have l78 : (78 : Int32).toInt = 78 := by decide
  have f58 : ∀ {s1 s2 : Int32}, s1.toInt = 78 → po (d_bar_58 Fm Am Jm s1 s2) (fun r => r.1 = 1 ∧ r.2.1 = Fm ∧ (∀ q, q ≠ 47 → r.2.2.1 q = Am q) ∧ (∀ q, 0 ≤ q → q ≠ 78 → ai r.2.2.1 47 q = ai Am 47 q) ∧ ai r.2.2.1 47 78 = s2.toInt) := by
    intro s1 s2 e
    unfold d_bar_58
    refine po_bl (fun A7 h7 => po_some ?_)
    have U := (gg_st h7).2.2
    rw [e] at U
    exact ⟨rfl, rfl, U.1, U.2.2, U.2.1⟩
  unfold d_bar
  refine po_bl (fun v1 _ => po_bl (fun v2 _ => ?_))
  refine po_cond (fun _ => ?_) (fun _ => po_some ⟨rfl, .inl ⟨rfl, rfl⟩⟩)
  refine po_cond (fun c => po_bl (fun v5 h5 => po_mono (f58 l78) (fun r h => ⟨h.2.1, .inr ⟨h.1, h.2.2.1, h.2.2.2.1, ?_⟩⟩))) (fun c => po_bl (fun v5 h5 => po_mono (f58 l78) (fun r h => ⟨h.2.1, .inr ⟨h.1, h.2.2.1, h.2.2.2.1, ?_⟩⟩)))
  · have e5 : v5 = Am 47 78 := by
      rw [(gg_ld h5).2.2, l78]
      rfl
    rw [i_eq] at c
    rw [if_pos (i_ext c), ← e5]
    exact h.2.2.2.2
  · have e5 : v5 = Am 47 78 := by
      rw [(gg_ld h5).2.2, l78]
      rfl
    rw [i_neq] at c
    rw [if_neg (fun e => c (by rw [e])), ← e5]
    exact h.2.2.2.2
theorem p2_barX (X : XR P F A Fm Am) (G : Gc P F A) (S : SAm Fm Am) : P2 (e_SleepWork_bar P F A J x1 x2) (d_bar Fm Am Jm x1 x2) (fun a b => a.1 = b.1 ∧ XR a.2.1 a.2.2.1 a.2.2.2.1 b.2.1 b.2.2.1) := by
  intro a b ha hb
  have e1 : a.1 = b.1 := p2_bar G S X.1.1 a b ha hb
  obtain ⟨p1, c⟩ := u_cBar a ha
  obtain ⟨d1, d⟩ := u_dBar b hb
  refine ⟨e1, ?_⟩
  have n17 := X.1.ct.2.2.2.2.2
  have hx : a.1 = 1 → 0 ≤ x1.toInt ∧ x1.toInt < 12 := fun e => by
    have n14 := X.1.ct.2.1.2
    rcases v_cBar a ha with ⟨-, p⟩ | ⟨z, -⟩
    · omega
    · rw [z] at e
      exact absurd e (by decide)
  rcases c with ⟨c0, cF, cA⟩ | ⟨c0, cF, c7, cA⟩
  · rcases d with ⟨d0, dA⟩ | ⟨d0, -⟩
    · rw [p1, cF, cA, d1, dA]
      exact X
    · rw [c0, d0] at e1
      exact absurd e1 (by decide)
  · rcases d with ⟨d0, dA⟩ | ⟨d0, m1, m2, m3⟩
    · rw [c0, d0] at e1
      exact absurd e1 (by decide)
    · rw [p1]
      refine X.now G (fun q k h1 h2 => cF q k (fun e => h1 e.1) h2) (fun q o h => by rw [cA]) d1 (fun q hq _ => m1 q hq) ?_
      obtain ⟨s1, s2, s3, s4, s5, s6, s7⟩ := X.2.2.1.1
      have e78 : F 2 7 = Am 47 78 := i_ext s5
      refine ⟨fun k k0 k1 => ?_, fun k k0 k1 => ?_, fun k k0 k1 => ?_, fun m k0 k1 => ?_, ?_, ?_, ?_⟩
      · rw [cA]
        show _ = ai b.2.2.1 47 (6 + k)
        rw [m2 _ (by omega) (by omega)]
        exact s1 k k0 k1
      · rw [cA]
        show _ = ai b.2.2.1 47 k ∧ _
        rw [m2 _ (by omega) (by omega)]
        exact s2 k k0 k1
      · rw [cA]
        show _ = ai b.2.2.1 47 (72 + k)
        rw [m2 _ (by omega) (by omega)]
        exact s3 k k0 k1
      · rw [cA]
        show LQx (P 0 8) F A _ (ai b.2.2.1 47 (42 + m)) (ai b.2.2.1 47 (48 + m)) ∧ _ = ai b.2.2.1 47 (54 + m) ∧ _ = ai b.2.2.1 47 (60 + m) ∧ _ = ai b.2.2.1 47 (66 + m)
        rw [m2 _ (by omega) (by omega), m2 _ (by omega) (by omega), m2 _ (by omega) (by omega), m2 _ (by omega) (by omega), m2 _ (by omega) (by omega)]
        exact s4 m k0 k1
      · show (a.2.2.1 2 7).toInt = ai b.2.2.1 47 78
        rw [c7, m3, e78]
      · show (a.2.2.1 2 8).toInt = ai b.2.2.1 47 79
        rw [cF 2 8 (by decide) (by decide), m2 79 (by decide) (by decide)]
        exact s6
      · rw [c7]
        by_cases e2 : x2 = 0
        · rw [if_pos e2]
          exact b7_and s7
        · rw [if_neg e2]
          refine b7_or s7 ?_
          have z : 0 ≤ x1.toInt ∧ x1.toInt < 12 := hx c0
          have ex : x1 = Int32.ofNat x1.toInt.toNat := i_nat z.1
          rw [ex]
          exact b7_shl ⟨x1.toInt.toNat, by omega⟩
end H9f9
end Qz155
section Qz156
/-! leave and work, on both sides; undo, hold, restore, tell, forget with all that is shared -/
section H9fa
variable {n : Nat} {h : Nat} {P P' : Nat → Nat → Nat} {F F' : Nat → Nat → Int32} {A A' : Nat → Nat → Nat → Int32} {J : Nat → Nat → Nat → Int64} {Fm Fm' : Nat → Int32} {Am Am' : Nat → Nat → Int32} {Jm : Nat → Nat → Int64} {x1 x2 x3 : Int32}
theorem u_cLeave (h16 : (F (P 0 8) 16).toInt ≤ 6) (h5 : ∀ t, 0 ≤ t → ci A (P 0 8) 5 t ≤ 6) : po (e_SleepWork_leave P F A J x1 x2 x3) (fun r => ∃ v, CH P F A 3 x1.toInt v r ∧ (r.1 = 1 → (x2.toInt = -1 ∧ x3.toInt = -1 ∧ v = -1) ∨ (0 ≤ x2.toInt ∧ x2.toInt < (F (P 0 8) 16).toInt ∧ 0 ≤ x3.toInt ∧ x3.toInt < ci A (P 0 8) 5 x2.toInt ∧ v = x2.toInt * 6 + x3.toInt))) := by
  have lm : ((-1 : Int32)).toInt = -1 := by decide
  have none : ∀ {r : cR Int32}, r.1 = 0 → r.2.1 = P → r.2.2.1 = F → r.2.2.2.1 = A → ∃ v, CH P F A 3 x1.toInt v r ∧ (r.1 = 1 → (x2.toInt = -1 ∧ x3.toInt = -1 ∧ v = -1) ∨ (0 ≤ x2.toInt ∧ x2.toInt < (F (P 0 8) 16).toInt ∧ 0 ≤ x3.toInt ∧ x3.toInt < ci A (P 0 8) 5 x2.toInt ∧ v = x2.toInt * 6 + x3.toInt)) := fun a b c d => ⟨0, ⟨b, .inl ⟨a, c, d⟩⟩, fun e => absurd (a.symm.trans e) (by decide)⟩
  have f69 : ∀ {s2 : Int32}, ((x2.toInt = -1 ∧ x3.toInt = -1 ∧ s2.toInt = -1) ∨ (0 ≤ x2.toInt ∧ x2.toInt < (F (P 0 8) 16).toInt ∧ 0 ≤ x3.toInt ∧ x3.toInt < ci A (P 0 8) 5 x2.toInt ∧ s2.toInt = x2.toInt * 6 + x3.toInt)) → po (e_SleepWork_leave_69 P F A J x1 s2) (fun r => ∃ v, CH P F A 3 x1.toInt v r ∧ (r.1 = 1 → (x2.toInt = -1 ∧ x3.toInt = -1 ∧ v = -1) ∨ (0 ≤ x2.toInt ∧ x2.toInt < (F (P 0 8) 16).toInt ∧ 0 ≤ x3.toInt ∧ x3.toInt < ci A (P 0 8) 5 x2.toInt ∧ v = x2.toInt * 6 + x3.toInt))) := by
    intro s2 hs
    unfold e_SleepWork_leave_69
    refine po_bl (fun A10 h10 => ?_)
    have U := gg_cst h10
    refine po_call w_stale ?_
    rintro ⟨u, P7, F8, A9, J10⟩ ⟨w1, w2, w3⟩
    dsimp only at w1 w2 w3 ⊢
    rw [w1, w3]
    exact po_some ⟨s2.toInt, ⟨rfl, .inr ⟨rfl, ⟨U.1, U.2.1⟩, w2, U.2.2⟩⟩, fun _ => hs⟩
  have two : 0 ≤ x2.toInt ∧ x2.toInt < (F (P 0 8) 16).toInt ∧ 0 ≤ x3.toInt ∧ x3.toInt < ci A (P 0 8) 5 x2.toInt → (x2 * 6 + x3).toInt = x2.toInt * 6 + x3.toInt := fun q => by
    have := h5 x2.toInt q.1
    have m := i_mulR (c := 6) (k := 6) (x := x2) (by decide) (by omega) (by omega)
    rw [i_add (by rw [m]; omega) (by rw [m]; omega), m]
  unfold e_SleepWork_leave
  refine po_bl (fun v1 _ => ?_)
  refine po_cond (fun _ => ?_) (fun _ => po_some (none rfl rfl rfl rfl))
  have f24 : ¬ (x2.toInt = -1 ∧ x3.toInt = -1) → po (e_SleepWork_leave_24 P F A J x1 x2 x3) (fun r => ∃ v, CH P F A 3 x1.toInt v r ∧ (r.1 = 1 → (x2.toInt = -1 ∧ x3.toInt = -1 ∧ v = -1) ∨ (0 ≤ x2.toInt ∧ x2.toInt < (F (P 0 8) 16).toInt ∧ 0 ≤ x3.toInt ∧ x3.toInt < ci A (P 0 8) 5 x2.toInt ∧ v = x2.toInt * 6 + x3.toInt))) := fun hn => by
    unfold e_SleepWork_leave_24 e_SleepWork_leave_25
    refine po_cond (fun c => absurd c (by decide)) (fun _ => ?_)
    refine po_bl (fun _ h => ?_)
    obtain ⟨-, rfl⟩ := gg_chk h
    refine po_call v_cStep ?_
    intro v b
    rcases b with ⟨rfl, p2⟩ | ⟨rfl, p2⟩
    · refine po_cond (fun _ => ?_) (fun c => absurd c (by decide))
      unfold e_SleepWork_leave_46
      exact po_cond (fun _ => f69 (.inr ⟨p2.1, p2.2.1, p2.2.2.1, p2.2.2.2, two p2⟩)) (fun c => absurd c (by decide))
    · exact po_cond (fun c => absurd c (by decide)) (fun _ => po_some (none rfl rfl rfl rfl))
  refine po_cond (fun c => ?_) (fun c => ?_)
  · rw [i_ne, lm] at c
    exact f24 (fun h => c h.1)
  · rw [i_nne, lm] at c
    refine po_cond (fun c2 => ?_) (fun c2 => ?_)
    · rw [i_ne, lm] at c2
      exact f24 (fun h => c2 h.2)
    · rw [i_nne, lm] at c2
      unfold e_SleepWork_leave_25
      refine po_cond (fun _ => ?_) (fun c => absurd c (by decide))
      unfold e_SleepWork_leave_46
      exact po_cond (fun c => absurd c (by decide)) (fun _ => f69 (.inl ⟨c, c2, lm⟩))
theorem u_dLeave (S : SAm Fm Am) : po (d_leave Fm Am Jm x1 x2 x3) (fun r => r.2.1 = Fm ∧ ((r.1 = 0 ∧ r.2.2.1 = Am) ∨ (r.1 = 1 ∧ (∀ q, q ≠ 47 → r.2.2.1 q = Am q) ∧ ai r.2.2.1 47 (42 + x1.toInt) = x2.toInt ∧ ai r.2.2.1 47 (48 + x1.toInt) = x3.toInt ∧ ∀ q, 0 ≤ q → q ≠ 42 + x1.toInt → q ≠ 48 + x1.toInt → ai r.2.2.1 47 q = ai Am 47 q))) := by
  have l42 : (42 : Int32).toInt = 42 := by decide
  have l48 : (48 : Int32).toInt = 48 := by decide
  have c := S.cnt (j := 29) (by omega)
  unfold d_leave
  refine po_call (v_dMan S) ?_
  intro v b
  rcases b with ⟨rfl, p⟩ | ⟨rfl, p⟩
  · refine po_cond (fun c => absurd c (by decide)) (fun _ => ?_)
    refine po_bl (fun v3 _ => ?_)
    refine po_cond (fun _ => ?_) (fun _ => po_some ⟨rfl, .inl ⟨rfl, rfl⟩⟩)
    refine po_bl (fun A5 h5 => po_bl (fun A6 h6 => po_some ⟨rfl, .inr ⟨rfl, ?_⟩⟩))
    have U := (gg_st h5).2.2
    have V := (gg_st h6).2.2
    have e := i_72 (k := 42) (x := x1) (by decide) (by omega)
    have e2 := i_72 (k := 48) (x := x1) (by decide) (by omega)
    rw [l42] at e
    rw [l48] at e2
    rw [e] at U
    rw [e2] at V
    exact ⟨fun q hq => (V.1 q hq).trans (U.1 q hq), (V.2.2 _ (by omega) (by omega)).trans U.2.1, V.2.1, fun q q0 a b => (V.2.2 q q0 b).trans (U.2.2 q q0 a)⟩
  · exact po_cond (fun _ => po_some ⟨rfl, .inl ⟨rfl, rfl⟩⟩) (fun c => absurd c (by decide))
theorem p2_leaveX (X : XR P F A Fm Am) (G : Gc P F A) (S : SAm Fm Am) : P2 (e_SleepWork_leave P F A J x1 x2 x3) (d_leave Fm Am Jm x1 x2 x3) (fun a b => a.1 = b.1 ∧ XR a.2.1 a.2.2.1 a.2.2.2.1 b.2.1 b.2.2.1) := by
  intro a b ha hb
  have e1 : a.1 = b.1 := p2_leave G S X.1.1 a b ha hb
  have n17 := X.1.ct.2.2.2.2.2
  obtain ⟨v, ⟨p1, c⟩, q⟩ := u_cLeave X.1.ct.2.2.2.1.2 (fun t t0 => (X.1.s6 t0).2) a ha
  obtain ⟨d1, d⟩ := u_dLeave S b hb
  refine ⟨e1, ?_⟩
  rcases c with ⟨c0, cF, cA⟩ | ⟨c0, ci', cF, cA⟩
  · rcases d with ⟨d0, dA⟩ | ⟨d0, -⟩
    · rw [p1, cF, cA, d1, dA]
      exact X
    · rw [c0, d0] at e1
      exact absurd e1 (by decide)
  · rcases d with ⟨d0, dA⟩ | ⟨d0, m1, m2, m3, m4⟩
    · rw [c0, d0] at e1
      exact absurd e1 (by decide)
    · have fr := CH.fr cF cA
      rw [p1]
      refine X.now G fr.1 fr.2.1 d1 (fun q hq _ => m1 q hq) ?_
      refine X.2.2.1.1.left fr.2.2.1.1 fr.2.2.1.2 fr.2.2.2 (fun k k0 hk => cA.2.1 k k0 hk) cA.1 m4 m2 m3 ?_ ci'.1 ci'.2 n17
      rcases q c0 with ⟨a1, a2, a3⟩ | ⟨a1, a2, a3, a4, a5⟩
      · exact .inl ⟨a3, a1, a2⟩
      · exact .inr ⟨a1, a2, a3, a4, a5⟩
/-- the two scalars and the relation of what is kept, together -/
theorem p2_undoR (X : XR P F A Fm Am) (G : Gc P F A) (S : SAm Fm Am) : P2 (e_SleepWork_undo P F A J) (d_undo n Fm Am Jm) (fun a b => a.1 = b.1 ∧ XR a.2.1 a.2.2.1 a.2.2.2.1 b.2.1 b.2.2.1) := by
  intro a b ha hb
  have sc : a.1 = b.1 ∧ SCx a.2.2.1 b.2.1 b.2.2.1 := p2_undo G S ⟨X.1.1, X.2.1⟩ a b ha hb
  have yy : YS (SS (P 0 8) F A) a.2.2.1 a.2.2.2.1 b.2.1 b.2.2.1 := p2_undoX (SS.ok X.1.ct.2.2.2.2.2) G.1 (SCx.r74 S) X.2.1.2.1 X.2.2.1 a b ha hb
  obtain ⟨p, h2, h3, h32, h5, -⟩ := v_cUndo3 G.1 a ha
  obtain ⟨d1, d2⟩ := r_undo (SCx.r74 S) b hb
  have dA : ∀ q, q ≠ 47 → b.2.2.1 q = Am q := fun q hq => by
    rcases d2 with ⟨-, -, -, e⟩ | ⟨-, -, -, e⟩
    · rw [e]
    · exact e.1 q hq
  have n2 : P 0 8 ≠ 2 := G.n2
  have n4 : P 0 8 ≠ 4 := fun e => absurd G.k08 (by rw [e]; decide)
  have n32 : P 0 8 ≠ 32 := fun e => absurd G.k08 (by rw [e]; decide)
  have hF8 : ∀ k, a.2.2.1 (P 0 8) k = F (P 0 8) k := fun k => h2 _ k n2 n4 n32
  have hA8 : ∀ o, a.2.2.2.1 (P 0 8) o = A (P 0 8) o := fun o => h5 _ o n2
  refine ⟨sc.1, ?_⟩
  rw [p]
  refine ⟨X.1.fr hF8 (fun o _ => hA8 o) (d1 18 (by decide)) (fun q _ _ => dA q (by omega)), sc.2, yy.map (fun f a g s => s.hs (hF8 17) (hF8 16) (hA8 5)), X.2.2.2.1.cg hF8 (fun o _ => hA8 o) (h2 36 101 (by decide) (by decide) (by decide)) (h5 36 2 (by decide)), ?_⟩
  intro i i0 i1
  rw [h2 25 2 (by decide) (by decide) (by decide)] at i1
  rw [ci_fr (h5 25 1 (by decide)), ci_fr (h5 25 2 (by decide)), ai_fr (dA 58 (by decide)), ai_fr (dA 59 (by decide)), ai_fr (dA 60 (by decide))]
  exact X.2.2.2.2 i i0 i1
theorem p2_holdR (X : XR P F A Fm Am) (G : Gc P F A) (S : SAm Fm Am) : P2 (e_SleepWork_hold P F A J x1) (d_hold n Fm Am Jm x1) (fun a b => a.1 = b.1 ∧ XR a.2.1 a.2.2.1 a.2.2.2.1 b.2.1 b.2.2.1) := by
  intro a b ha hb
  have sc : a.1 = b.1 ∧ SCx a.2.2.1 b.2.1 b.2.2.1 := p2_hold G S ⟨X.1.1, X.2.1⟩ a b ha hb
  have yy : YS (SS (P 0 8) F A) a.2.2.1 a.2.2.2.1 b.2.1 b.2.2.1 := p2_holdX (SS.ok X.1.ct.2.2.2.2.2) X.2.2.1 a b ha hb
  obtain ⟨p, h1⟩ := v_cHold3 a ha
  obtain ⟨d1, d2⟩ := r_hold b hb
  have hh : (∀ q k, q < 29 ∨ 31 < q → ¬ (q = 0 ∧ k = 10) → a.2.2.1 q k = F q k) ∧ ∀ q o, q < 29 ∨ 31 < q → a.2.2.2.1 q o = A q o := by
    rcases h1 with ⟨-, ef, ea⟩ | ⟨z, hf, ha', -⟩
    · exact ⟨fun q k _ _ => by rw [ef], fun q o _ => by rw [ea]⟩
    · exact ⟨fun q k hq hk => hf q k (by omega) hk, fun q o hq => ha' q o (by omega)⟩
  have dA : ∀ q, q ≠ 61 → q ≠ 62 → b.2.2.1 q = Am q := fun q h6 h7 => by
    rcases d2 with ⟨-, e⟩ | ⟨-, A3, k1, -, e⟩
    · rw [e]
    · exact (e.1 q h7).trans (k1 q h6)
  have lv := G.live
  have hF8 : ∀ k, a.2.2.1 (P 0 8) k = F (P 0 8) k := fun k => hh.1 _ k (by omega) (by omega)
  have hA8 : ∀ o, a.2.2.2.1 (P 0 8) o = A (P 0 8) o := fun o => hh.2 _ o (by omega)
  refine ⟨sc.1, ?_⟩
  rw [p]
  refine ⟨X.1.fr hF8 (fun o _ => hA8 o) (by rw [d1]) (fun q _ _ => dA q (by omega) (by omega)), sc.2, yy.map (fun f a g s => s.hs (hF8 17) (hF8 16) (hA8 5)), X.2.2.2.1.cg hF8 (fun o _ => hA8 o) (hh.1 36 101 (by omega) (by omega)) (hh.2 36 2 (by omega)), ?_⟩
  intro i i0 i1
  rw [hh.1 25 2 (by omega) (by omega)] at i1
  rw [ci_fr (hh.2 25 1 (by omega)), ci_fr (hh.2 25 2 (by omega)), ai_fr (dA 58 (by decide) (by decide)), ai_fr (dA 59 (by decide) (by decide)), ai_fr (dA 60 (by decide) (by decide))]
  exact X.2.2.2.2 i i0 i1
theorem p2_restoreR (X : XR P F A Fm Am) (G : Gc P F A) (S : SAm Fm Am) : P2 (e_SleepWork_restore P F A J x1) (d_restore n Fm Am Jm x1) (fun a b => a.1 = b.1 ∧ XR a.2.1 a.2.2.1 a.2.2.2.1 b.2.1 b.2.2.1) := by
  intro a b ha hb
  have sc : a.1 = b.1 ∧ SCx a.2.2.1 b.2.1 b.2.2.1 := p2_restore G S ⟨X.1.1, X.2.1⟩ a b ha hb
  have yy : YS (SS (P 0 8) F A) a.2.2.1 a.2.2.2.1 b.2.1 b.2.2.1 := p2_restoreX (SS.ok X.1.ct.2.2.2.2.2) X.2.1.2.2 X.2.2.1 a b ha hb sc.1
  obtain ⟨p, h1⟩ := v_cRestore3 a ha
  have d2 := r_restore b hb
  have hh : (∀ q k, q ≠ 2 → ¬ (q = 4 ∧ k = 2) → ¬ (q = 32 ∧ k = 6) → a.2.2.1 q k = F q k) ∧ ∀ q o, q ≠ 2 → a.2.2.2.1 q o = A q o := by
    rcases h1 with ⟨-, ef, ea⟩ | ⟨-, -, -, hf, ha', -⟩
    · exact ⟨fun q k _ _ _ => by rw [ef], fun q o _ => by rw [ea]⟩
    · exact ⟨hf, ha'⟩
  have dA : (∀ q, q ≠ 47 → b.2.2.1 q = Am q) ∧ b.2.1 18 = Fm 18 := by
    rcases d2 with ⟨-, ef, e⟩ | ⟨-, -, -, ef, e⟩
    · exact ⟨fun q _ => by rw [e], by rw [ef]⟩
    · exact ⟨fun q h => e.1 q h, ef 18 (by decide)⟩
  have n2 : P 0 8 ≠ 2 := G.n2
  have n4 : P 0 8 ≠ 4 := fun e => absurd G.k08 (by rw [e]; decide)
  have n32 : P 0 8 ≠ 32 := fun e => absurd G.k08 (by rw [e]; decide)
  have hF8 : ∀ k, a.2.2.1 (P 0 8) k = F (P 0 8) k := fun k => hh.1 _ k n2 (fun e => n4 e.1) (fun e => n32 e.1)
  have hA8 : ∀ o, a.2.2.2.1 (P 0 8) o = A (P 0 8) o := fun o => hh.2 _ o n2
  refine ⟨sc.1, ?_⟩
  rw [p]
  refine ⟨X.1.fr hF8 (fun o _ => hA8 o) dA.2 (fun q _ _ => dA.1 q (by omega)), sc.2, yy.map (fun f a g s => s.hs (hF8 17) (hF8 16) (hA8 5)), X.2.2.2.1.cg hF8 (fun o _ => hA8 o) (hh.1 36 101 (by decide) (by decide) (by decide)) (hh.2 36 2 (by decide)), ?_⟩
  intro i i0 i1
  rw [hh.1 25 2 (by decide) (by decide) (by decide)] at i1
  rw [ci_fr (hh.2 25 1 (by decide)), ci_fr (hh.2 25 2 (by decide)), ai_fr (dA.1 58 (by decide)), ai_fr (dA.1 59 (by decide)), ai_fr (dA.1 60 (by decide))]
  exact X.2.2.2.2 i i0 i1
end H9fa
end Qz156
section Qz157
/-! tell, forget and work, on both sides -/
section H9fb
variable {n : Nat} {h : Nat} {P P' : Nat → Nat → Nat} {F F' : Nat → Nat → Int32} {A A' : Nat → Nat → Nat → Int32} {J : Nat → Nat → Nat → Int64} {Fm Fm' : Nat → Int32} {Am Am' : Nat → Nat → Int32} {Jm : Nat → Nat → Int64} {x1 x2 x3 : Int32}
theorem XR.told (X : XR P F A Fm Am) (G : Gc P F A) (hF : ∀ r k, ¬ (r = 25 ∧ k = 2) → ¬ (r = 32 ∧ k = 6) → F' r k = F r k) (hA : ∀ r o, ¬ (r = 25 ∧ (o = 1 ∨ o = 2)) → A' r o = A r o) (e : ∀ q, q ≠ 77 → Fm' q = Fm q) (m : ∀ q, q ≠ 58 → q ≠ 59 → q ≠ 60 → Am' q = Am q) (sc : SCx F' Fm' Am') (T : TLx F' A' Am') : XR P F' A' Fm' Am' := by
  obtain ⟨N, C, Y, W, -⟩ := X
  have n25 : P 0 8 ≠ 25 := fun e => absurd G.k08 (by rw [e]; decide)
  have n32 : P 0 8 ≠ 32 := fun e => absurd G.k08 (by rw [e]; decide)
  have hF8 : ∀ k, F' (P 0 8) k = F (P 0 8) k := fun k => hF _ k (fun e => n25 e.1) (fun e => n32 e.1)
  have hA8 : ∀ o, A' (P 0 8) o = A (P 0 8) o := fun o => hA _ o (fun e => n25 e.1)
  have hS : SOK (SS (P 0 8) F A) := SS.ok N.ct.2.2.2.2.2
  have sr : ∀ r : Nat, r ≠ 25 → r ≠ 32 → SE (F r) (F' r) (A r) (A' r) := fun r h1 h2 => .of (fun k => hF r k (fun e => h1 e.1) (fun e => h2 e.1)) (fun o => hA r o (fun e => h1 e.1))
  have Y' : YS (SS (P 0 8) F A) F' A' Fm' Am' := by
    refine ⟨Y.1.cg hS (sr 2 (by decide) (by decide)) (fun i _ _ => by unfold ai; rw [m 47 (by decide) (by decide) (by decide)]), ?_, Y.2.2.cg hS (fun r r0 r1 => sr r (by omega) (by omega)) (m 61 (by decide) (by decide) (by decide)) (m 62 (by decide) (by decide) (by decide))⟩
    rw [e 74 (by decide)]
    exact Y.2.1.cg hS (by rw [hF 4 1 (by decide) (by decide)]) (fun r r0 r1 => sr r (by omega) (by omega)) (m 57 (by decide) (by decide) (by decide))
  exact ⟨N.fr hF8 (fun o _ => hA8 o) (e 18 (by decide)) (fun q a b => m q (by omega) (by omega) (by omega)), sc, Y'.map (fun f a g s => s.hs (hF8 17) (hF8 16) (hA8 5)), W.cg hF8 (fun o _ => hA8 o) (hF 36 101 (by decide) (by decide)) (hA 36 2 (by decide)), T⟩
theorem u_cForget : po (e_SleepWork_forget P F A J) (fun r => r.2.1 = P ∧ (∀ q k, ¬ (q = 25 ∧ k = 2) → ¬ (q = 32 ∧ k = 6) → r.2.2.1 q k = F q k) ∧ r.2.2.1 25 2 = 0 ∧ r.2.2.2.1 = A) := by
  unfold e_SleepWork_forget
  refine po_bl (fun F1 h1 => ?_)
  have u := gg_cpf h1
  refine po_call w_stale ?_
  rintro ⟨_, P3, F4, A5, J6⟩ ⟨w1, w2, w3⟩
  dsimp only at w1 w2 w3 ⊢
  exact po_some ⟨w1, fun q k a b => (w2.2 q k b).trans (u.2 q k a), (w2.2 25 2 (by decide)).trans u.1, w3⟩
theorem u_dForget : po (d_forget Fm Am Jm) (fun r => (∀ q, q ≠ 77 → r.2.1 q = Fm q) ∧ r.2.2.1 = Am) := by
  unfold d_forget
  exact po_bl (fun F1 h1 => po_some ⟨(gg_pf h1).2, rfl⟩)
theorem p2_forgetR (X : XR P F A Fm Am) (G : Gc P F A) (S : SAm Fm Am) : P2 (e_SleepWork_forget P F A J) (d_forget Fm Am Jm) (fun a b => a.1 = b.1 ∧ XR a.2.1 a.2.2.1 a.2.2.2.1 b.2.1 b.2.2.1) := by
  intro a b ha hb
  have sc : a.1 = b.1 ∧ SCx a.2.2.1 b.2.1 b.2.2.1 := p2_forget G S ⟨X.1.1, X.2.1⟩ a b ha hb
  obtain ⟨p, hF, h25, hA⟩ := u_cForget a ha
  obtain ⟨e, m⟩ := u_dForget b hb
  refine ⟨sc.1, ?_⟩
  rw [p]
  refine X.told G hF (fun r o _ => by rw [hA]) e (fun q _ _ _ => by rw [m]) sc.2 (fun k k0 k1 => ?_)
  rw [h25, i_0] at k1
  exact absurd k1 (by omega)
/-- what is told, put behind the rest -/
theorem u_cTell : po (e_SleepWork_tell P F A J x1 x2 x3) (fun r => r.2.1 = P ∧ ((r.2.2.1 = F ∧ r.2.2.2.1 = A) ∨ ((0 ≤ x1.toInt ∧ x1.toInt < (F (P 0 8) 16).toInt ∧ 0 ≤ x2.toInt ∧ x2.toInt < ci A (P 0 8) 5 x1.toInt) ∧ r.2.2.1 25 2 = F 25 2 + 1 ∧ (∀ q k, ¬ (q = 25 ∧ k = 2) → r.2.2.1 q k = F q k) ∧ (∀ q o, ¬ (q = 25 ∧ (o = 1 ∨ o = 2)) → r.2.2.2.1 q o = A q o) ∧ ci r.2.2.2.1 25 1 (F 25 2).toInt = (x1 * 6 + x2).toInt ∧ ci r.2.2.2.1 25 2 (F 25 2).toInt = x3.toInt ∧ ∀ k : Int, 0 ≤ k → k ≠ (F 25 2).toInt → ci r.2.2.2.1 25 1 k = ci A 25 1 k ∧ ci r.2.2.2.1 25 2 k = ci A 25 2 k))) := by
  unfold e_SleepWork_tell
  refine po_bl (fun _ h => ?_)
  obtain ⟨-, rfl⟩ := gg_chk h
  refine po_call v_cStep ?_
  intro v b
  rcases b with ⟨rfl, p⟩ | ⟨rfl, p⟩
  · refine po_cond (fun c => absurd c (by decide)) (fun _ => ?_)
    refine po_cond (fun c => po_some ⟨rfl, .inl ⟨rfl, rfl⟩⟩) (fun c3 => ?_)
    refine po_cond (fun c => po_some ⟨rfl, .inl ⟨rfl, rfl⟩⟩) (fun c4 => ?_)
    refine po_bl (fun v6 _ => ?_)
    refine po_cond (fun _ => ?_) (fun _ => po_some ⟨rfl, .inl ⟨rfl, rfl⟩⟩)
    unfold e_Told_add
    refine po_call (R := fun (r : cR Int32) => r.2.1 = P ∧ r.2.2.1 25 2 = F 25 2 + 1 ∧ (∀ q k, ¬ (q = 25 ∧ k = 2) → r.2.2.1 q k = F q k) ∧ (∀ q o, ¬ (q = 25 ∧ (o = 1 ∨ o = 2)) → r.2.2.2.1 q o = A q o) ∧ ci r.2.2.2.1 25 1 (F 25 2).toInt = (x1 * 6 + x2).toInt ∧ ci r.2.2.2.1 25 2 (F 25 2).toInt = x3.toInt ∧ ∀ k : Int, 0 ≤ k → k ≠ (F 25 2).toInt → ci r.2.2.2.1 25 1 k = ci A 25 1 k ∧ ci r.2.2.2.1 25 2 k = ci A 25 2 k) ?_ ?_
    · refine po_bl (fun A1 h1 => po_bl (fun A2 h2 => po_bl (fun F3 h3 => po_some ?_)))
      have U1 := (gg_cst h1).2.2
      have U2 := (gg_cst h2).2.2
      have u := gg_cpf h3
      have e1 : A2 25 1 = A1 25 1 := U2.2.2 25 1 (by decide)
      have e2 : A1 25 2 = A 25 2 := U1.2.2 25 2 (by decide)
      refine ⟨rfl, u.1, u.2, fun q o hn => (U2.2.2 q o (fun e => hn ⟨e.1, .inr e.2⟩)).trans (U1.2.2 q o (fun e => hn ⟨e.1, .inl e.2⟩)), ?_, U2.1, fun k k0 hk => ⟨?_, ?_⟩⟩
      · show ci A2 25 1 _ = _
        rw [ci_fr e1]
        exact U1.1
      · show ci A2 25 1 k = _
        rw [ci_fr e1]
        exact U1.2.1 k k0 hk
      · show ci A2 25 2 k = _
        rw [U2.2.1 k k0 hk, ci_fr e2]
    rintro ⟨v8, P9, F10, A11, J12⟩ ⟨a0, a1, a2, a3, a4, a5, a6⟩
    exact po_some ⟨a0, .inr ⟨p, a1, a2, a3, a4, a5, a6⟩⟩
  · exact po_cond (fun _ => po_some ⟨rfl, .inl ⟨rfl, rfl⟩⟩) (fun c => absurd c (by decide))
theorem u_dTell : po (d_tell3 Fm Am Jm x1 x2 x3) (fun r => (r.2.1 = Fm ∧ r.2.2.1 = Am) ∨ (r.2.1 77 = Fm 77 + 1 ∧ (∀ q, q ≠ 77 → r.2.1 q = Fm q) ∧ (∀ q, q ≠ 58 → q ≠ 59 → q ≠ 60 → r.2.2.1 q = Am q) ∧ ai r.2.2.1 58 (Fm 77).toInt = x1.toInt ∧ ai r.2.2.1 59 (Fm 77).toInt = x2.toInt ∧ ai r.2.2.1 60 (Fm 77).toInt = x3.toInt ∧ ∀ k : Int, 0 ≤ k → k ≠ (Fm 77).toInt → ai r.2.2.1 58 k = ai Am 58 k ∧ ai r.2.2.1 59 k = ai Am 59 k ∧ ai r.2.2.1 60 k = ai Am 60 k)) := by
  unfold d_tell3
  refine po_cond (fun _ => po_some (.inl ⟨rfl, rfl⟩)) (fun _ => ?_)
  refine po_bl (fun v2 _ => ?_)
  refine po_cond (fun _ => po_some (.inl ⟨rfl, rfl⟩)) (fun _ => ?_)
  refine po_bl (fun v4 _ => ?_)
  refine po_cond (fun _ => ?_) (fun _ => po_some (.inl ⟨rfl, rfl⟩))
  refine po_bl (fun A6 h6 => po_bl (fun A7 h7 => po_bl (fun A8 h8 => po_bl (fun F9 h9 => po_some (.inr ?_)))))
  have U6 := (gg_st h6).2.2
  have U7 := (gg_st h7).2.2
  have U8 := (gg_st h8).2.2
  have u := gg_pf h9
  have e58 : A8 58 = A6 58 := (U8.1 58 (by decide)).trans (U7.1 58 (by decide))
  have e59 : A8 59 = A7 59 := U8.1 59 (by decide)
  have f59 : A6 59 = Am 59 := U6.1 59 (by decide)
  have f60 : A7 60 = Am 60 := (U7.1 60 (by decide)).trans (U6.1 60 (by decide))
  refine ⟨u.1, u.2, fun q a b c => (U8.1 q c).trans ((U7.1 q b).trans (U6.1 q a)), ?_, ?_, U8.2.1, fun k k0 hk => ⟨?_, ?_, ?_⟩⟩
  · show ai A8 58 _ = _
    rw [ai_fr e58]
    exact U6.2.1
  · show ai A8 59 _ = _
    rw [ai_fr e59]
    exact U7.2.1
  · show ai A8 58 k = _
    rw [ai_fr e58]
    exact U6.2.2 k k0 hk
  · show ai A8 59 k = _
    rw [ai_fr e59, U7.2.2 k k0 hk, ai_fr f59]
  · show ai A8 60 k = _
    rw [U8.2.2 k k0 hk, ai_fr f60]
theorem p2_tellR (X : XR P F A Fm Am) (G : Gc P F A) (S : SAm Fm Am) : P2 (e_SleepWork_tell P F A J x1 x2 x3) (d_tell3 Fm Am Jm x1 x2 x3) (fun a b => a.1 = b.1 ∧ XR a.2.1 a.2.2.1 a.2.2.2.1 b.2.1 b.2.2.1) := by
  intro a b ha hb
  have sc : a.1 = b.1 ∧ SCx a.2.2.1 b.2.1 b.2.2.1 := p2_tell G S ⟨X.1.1, X.2.1⟩ a b ha hb
  obtain ⟨p, c⟩ := u_cTell a ha
  have d := u_dTell b hb
  have r77 : 0 ≤ (Fm 77).toInt ∧ (Fm 77).toInt ≤ 30 := S.1 77
  have e77 : F 25 2 = Fm 77 := X.2.1.1
  have s77 := sc.2.1
  have e1 := i_p1 (x := Fm 77) (by omega)
  refine ⟨sc.1, ?_⟩
  rw [p]
  rcases c with ⟨cF, cA⟩ | ⟨st, c1, c2, c3, c4, c5, c6⟩
  · rcases d with ⟨dF, dA⟩ | ⟨d1, -⟩
    · rw [cF, cA, dF, dA]
      exact X
    · rw [cF, d1, e77] at s77
      exact absurd (congrArg Int32.toInt s77) (by omega)
  · rcases d with ⟨dF, dA⟩ | ⟨d1, d2, d3, d4, d5, d6, d7⟩
    · rw [c1, dF, e77] at s77
      exact absurd (congrArg Int32.toInt s77) (by omega)
    · refine X.told G (fun r k h _ => c2 r k h) c3 d2 d3 sc.2 (fun k k0 k1 => ?_)
      rw [c1, e77, e1] at k1
      rw [e77] at c4 c5 c6
      by_cases hk : k = (Fm 77).toInt
      · rw [hk, c4, c5, d4, d5, d6]
        have s6 := (X.1.s6 st.1).2
        have n16 := X.1.ct.2.2.2.1.2
        have mm := i_mulR (c := 6) (k := 6) (x := x1) (by decide) (by omega) (by omega)
        rw [i_add (by rw [mm]; omega) (by rw [mm]; omega), mm]
        exact ⟨by omega, rfl⟩
      · rw [(c6 k k0 hk).1, (c6 k k0 hk).2, (d7 k k0 hk).1, (d7 k k0 hk).2.1, (d7 k k0 hk).2.2]
        exact X.2.2.2.2 k k0 (by rw [e77]; omega)
end H9fb
end Qz157
section Qz158
/-! work, on both sides -/
section H9fc
variable {n m : Nat} {P P' : Nat → Nat → Nat} {F F' : Nat → Nat → Int32} {A A' : Nat → Nat → Nat → Int32} {J : Nat → Nat → Nat → Int64} {Fm Fm' : Nat → Int32} {Am Am' : Nat → Nat → Int32} {Jm : Nat → Nat → Int64} {x1 x2 x3 : Int32}
theorem r_work_42 : ∀ {n : Nat} {Fm : Nat → Int32} {Am : Nat → Nat → Int32} {Jm : Nat → Nat → Int64} {x2 : Int32}, 0 ≤ x2.toInt → po (d_work_42 n Fm Am Jm x2) (fun r => r.1 = 1 ∧ r.2.1 = Fm ∧ CPm 48 47 0 0 x2.toInt Am r.2.2.1) := by
  intro n
  induction n with
  | zero => intro Fm Am Jm x2 _ r hr; cases hr
  | succ n ih =>
    intro Fm Am Jm x2 h0
    have l100 : (100 : Int32).toInt = 100 := by decide
    unfold d_work_42
    refine po_cond (fun c => po_some ⟨rfl, rfl, CPm.rfl' (by rw [i_ge, l100] at c; exact c)⟩) (fun c => ?_)
    rw [i_nge, l100] at c
    refine po_bl (fun v2 h2 => po_bl (fun A3 h3 => ?_))
    have e := i_p1 (x := x2) (by omega)
    refine po_mono (ih (by omega)) (fun r h => ⟨h.1, h.2.1, CPm.step (by decide) h2 h3 (by omega) (by omega) h0 (by omega) (by omega) (by rw [← e]; exact h.2.2)⟩)
theorem p2_workR (X : XR P F A Fm Am) (G : Gc P F A) (S : SAm Fm Am) : P2 (e_SleepWork_work P F A J x1 x2) (d_work m Fm Am Jm x1 x2) (fun a b => a.1 = b.1 ∧ XR a.2.1 a.2.2.1 a.2.2.2.1 b.2.1 b.2.2.1) := by
  have X0 := X
  obtain ⟨N, -, Y, -, -⟩ := X0
  have n2 : P 0 8 ≠ 2 := G.n2
  have ct := N.ct
  unfold e_SleepWork_work d_work
  refine p2_bl (fun _ hk => ?_)
  obtain ⟨-, rfl⟩ := gg_chk hk
  refine p2_call (R := fun v w => BV v (0 ≤ x1.toInt ∧ x1.toInt < (F (P 0 8) 16).toInt ∧ 0 ≤ x2.toInt ∧ x2.toInt < ci A (P 0 8) 5 x1.toInt) ∧ v = w) (p2_of v_cStep (v_dStep S) (fun a b h h' => ⟨h, h.eq h' (CX.stp N.1)⟩)) ?_
  rintro v w ⟨b, rfl⟩
  rcases b with ⟨rfl, p⟩ | ⟨rfl, p⟩
  · refine p2_cl (fun c => absurd c (by decide)) (fun _ => p2_cr (fun c => absurd c (by decide)) (fun _ => ?_))
    refine p2_bl (fun v4 h4 => p2_br (fun v3 h3 => ?_))
    have g4 := (gl h4).2.2
    have g3 := (gm h3).2.2
    obtain ⟨s1, s2, s3, s4, s5, s6, s7⟩ := Y.1
    have t6 : x1.toInt < 6 := by omega
    have st : v4.toInt = ai Am 47 x1.toInt ∧ 0 ≤ v4.toInt := by
      have := s2 x1.toInt p.1 t6
      rw [g4]
      exact this
    refine p2_cl (fun c => p2_cr (fun _ => ?_) (fun c2 => ?_)) (fun c => p2_cr (fun c2 => ?_) (fun _ => p2_some ⟨rfl, X⟩))
    · rw [i_gt, i_0] at c
      refine p2_bl (fun v6 h6 => p2_bl (fun A7 h7 => p2_bl (fun _ hk8 => ?_)))
      obtain ⟨-, rfl⟩ := gg_chk hk8
      have g6 := (gl h6).2.2
      have U := (gg_cst h7).2.2
      refine p2_r r_takes ?_
      rintro ⟨u, F6, A7m, J8⟩ ⟨rfl, cp⟩
      dsimp only at cp ⊢
      refine p2_br (fun v9 h9 => p2_br (fun A10 h10 => ?_))
      have g9 := (gm h9).2.2
      have V := (gg_st h10).2.2
      have t47 : ∀ i, 0 ≤ i → i < 100 → ai A7m 48 i = ai Am 47 i := fun i i0 i1 => by
        have := cp.2.1 i i0 i1
        rw [Int.zero_add] at this
        exact this
      have e64 : v6.toInt = v4.toInt := by rw [g6, g4]
      have e9 : v9.toInt = v4.toInt := by rw [g9, t47 _ p.1 (by omega), st.1]
      have rg6 := i_rng v6
      have rg9 := i_rng v9
      have m6 := i_sub (x := v6) (y := 1) (by rw [i_1]; omega) (by rw [i_1]; omega)
      have m9 := i_sub (x := v9) (y := 1) (by rw [i_1]; omega) (by rw [i_1]; omega)
      rw [i_1] at m6 m9
      have o48 : ∀ i, 0 ≤ i → i < 100 → i ≠ x1.toInt → ai A10 48 i = ai Am 47 i := fun i i0 i1 hne => by rw [V.2.2 i i0 hne, t47 i i0 i1]
      have rows : ∀ q, q ≠ 48 → A10 q = Am q := fun q hq => (V.1 q hq).trans (cp.1 q hq)
      have a7 : ∀ o, o ≠ 2 → A7 2 o = A 2 o := fun o ho => U.2.2 2 o (fun e => ho e.2)
      have a8 : ∀ r o, r ≠ 2 → A7 r o = A r o := fun r o hr => U.2.2 r o (fun e => hr e.1)
      have N7 : NHx (P 0 8) F A7 F6 A10 := N.fr (fun _ => rfl) (fun o _ => a8 _ o n2) rfl (fun q _ _ => rows q (by omega))
      have B7 : SBx True (P 0 8) 2 F A7 A10 48 0 := by
        refine SBx.mk0 (fun k k0 k1 => ?_) (fun k k0 k1 => ?_) (fun k k0 k1 => ?_) (fun k k0 k1 => ?_)
        · rw [ci_fr (a7 1 (by decide)), o48 (6 + k) (by omega) (by omega) (by omega)]
          exact s1 k k0 k1
        · by_cases e : k = x1.toInt
          · rw [e, U.1, V.2.1, m6, m9]
            omega
          · rw [U.2.1 k k0 e, o48 k k0 (by omega) e]
            exact s2 k k0 k1
        · rw [ci_fr (a7 4 (by decide)), o48 (72 + k) (by omega) (by omega) (by omega)]
          exact s3 k k0 k1
        · rw [ci_fr (a7 3 (by decide)), ci_fr (a7 5 (by decide)), ci_fr (a7 6 (by decide)), ci_fr (a7 7 (by decide)), o48 (42 + k) (by omega) (by omega) (by omega), o48 (48 + k) (by omega) (by omega) (by omega), o48 (54 + k) (by omega) (by omega) (by omega), o48 (60 + k) (by omega) (by omega) (by omega), o48 (66 + k) (by omega) (by omega) (by omega)]
          have w := s4 k k0 k1
          exact ⟨w.1.cg rfl (a8 _ 5 n2), w.2.1, w.2.2.1, fun _ => w.2.2.2⟩
      have u5 : x2.toInt < ci A7 (P 0 8) 5 x1.toInt := by rw [ci_fr (a8 _ 5 n2)]; exact p.2.2.2
      refine p2_call (p2_fin N7 B7 (by decide) p.1 p.2.1 p.2.2.1 u5 rfl rfl rfl rfl) ?_
      rintro ⟨u1, P10, F11, A12, J13⟩ ⟨u2, F12, A13, J14⟩ ⟨f1, f2, f3, f4, f5, f6, f7⟩
      dsimp only at f1 f2 f3 f4 f5 f6 f7 ⊢
      subst f1 f2 f4
      refine p2_l w_stale ?_
      rintro ⟨u3, P15, F16, A17, J18⟩ ⟨w1, w2, w3⟩
      dsimp only at w1 w2 w3 ⊢
      refine p2_of (po_some (R := fun (a : cR Int32) => a.1 = 1 ∧ a.2.1 = P15 ∧ a.2.2.1 = F16 ∧ a.2.2.2.1 = A17) ⟨rfl, rfl, rfl, rfl⟩) (r_work_42 (x2 := 0) (by decide)) ?_
      rintro ⟨v0, P0, F0, A0, J0⟩ ⟨v1, Fz, Az, Jz⟩ ⟨z1, z2, z3, z4⟩ ⟨y1, y2, y3⟩
      dsimp only at z1 z2 z3 z4 y1 y2 y3 ⊢
      subst z2 z3 z4
      rw [i_0] at y3
      have t48 : ∀ i, 0 ≤ i → i < 100 → ai Az 47 i = ai A13 48 i := fun i i0 i1 => by
        have := y3.2.1 i i0 i1
        rw [Int.zero_add] at this
        exact this
      refine ⟨z1.trans y1.symm, ?_⟩
      rw [w1, w3]
      have a12 : ∀ o, o ≠ 1 → A12 2 o = A7 2 o := fun o ho => f3 2 o (fun e => ho e.2)
      have k1 : ∀ i, 0 ≤ i → i < 100 → i < 6 ∨ 42 ≤ i → ai Az 47 i = ai A10 48 i := fun i i0 i1 hi => by rw [t48 i i0 i1, f6 i i0 hi]
      refine X.now G (fun r k _ h2 => w2.2 r k h2) (fun r o hr => (f3 r o (fun e => hr e.1)).trans (a8 r o hr)) y2 (fun q h1 h2 => (y3.1 q h1).trans ((f5 q (by omega)).trans (rows q (by omega)))) ?_
      refine ⟨fun k k0 k1' => ?_, fun k k0 k1' => ?_, fun k k0 k1' => ?_, fun k k0 k1' => ?_, ?_, ?_, ?_⟩
      · show ci A12 2 1 k = ai Az 47 (6 + k)
        rw [t48 _ (by omega) (by omega)]
        exact f7 k k0 k1'
      · show ci A12 2 2 k = ai Az 47 k ∧ 0 ≤ ci A12 2 2 k
        rw [ci_fr (a12 2 (by decide)), k1 k k0 (by omega) (by omega)]
        exact B7.sf k0 k1'
      · show ci A12 2 4 k = ai Az 47 (72 + k)
        rw [ci_fr (a12 4 (by decide)), k1 _ (by omega) (by omega) (by omega)]
        exact B7.tl k0 k1'
      · show LQx (P10 0 8) F11 A (ci A12 2 3 k) (ai Az 47 (42 + k)) (ai Az 47 (48 + k)) ∧ ci A12 2 5 k = ai Az 47 (54 + k) ∧ ci A12 2 6 k = ai Az 47 (60 + k) ∧ ci A12 2 7 k = ai Az 47 (66 + k)
        rw [ci_fr (a12 3 (by decide)), ci_fr (a12 5 (by decide)), ci_fr (a12 6 (by decide)), ci_fr (a12 7 (by decide)), k1 (42 + k) (by omega) (by omega) (by omega), k1 (48 + k) (by omega) (by omega) (by omega), k1 (54 + k) (by omega) (by omega) (by omega), k1 (60 + k) (by omega) (by omega) (by omega), k1 (66 + k) (by omega) (by omega) (by omega)]
        have w := B7.mn k0 k1'
        exact ⟨w.1.cg rfl (a8 _ 5 n2).symm, w.2.1, w.2.2.1, w.2.2.2 trivial⟩
      · show (F0 2 7).toInt = ai Az 47 78
        rw [w2.2 2 7 (by decide), k1 78 (by decide) (by decide) (by decide), o48 78 (by decide) (by decide) (by omega)]
        exact s5
      · show (F0 2 8).toInt = ai Az 47 79
        rw [w2.2 2 8 (by decide), k1 79 (by decide) (by decide) (by decide), o48 79 (by decide) (by decide) (by omega)]
        exact s6
      · show F0 2 7 &&& 4095 = F0 2 7
        rw [w2.2 2 7 (by decide)]
        exact s7
    · rw [i_gt, i_0] at c
      rw [i_nne, i_0] at c2
      rw [g3] at c2
      omega
    · rw [i_ngt, i_0] at c
      rw [i_ne, i_0] at c2
      rw [g3] at c2
      omega
  · exact p2_cl (fun _ => p2_cr (fun _ => p2_some ⟨rfl, X⟩) (fun c => absurd c (by decide))) (fun c => absurd c (by decide))
end H9fc
end Qz158
section Qz159
/-! man and tool: the same answers -/
section H9fd
variable {n m : Nat} {P P' : Nat → Nat → Nat} {F F' : Nat → Nat → Int32} {A A' : Nat → Nat → Nat → Int32} {J : Nat → Nat → Nat → Int64} {Fm Fm' : Nat → Int32} {Am Am' : Nat → Nat → Int32} {Jm : Nat → Nat → Int64} {x1 x2 x3 : Int32}
theorem p2_dd {γ δ : Type} {p : Prop} [Decidable p] {x y : Option γ} {z w : Option δ} {Q : γ → δ → Prop} (h1 : p → P2 x z Q) (h2 : ¬ p → P2 y w Q) : P2 (cond (decide p) x y) (cond (decide p) z w) Q := by
  by_cases h : p
  · rw [decide_eq_true h]
    exact h1 h
  · rw [decide_eq_false h]
    exact h2 h
theorem v_none {x : Int32} : po (d_orNone x) (fun v => v.toInt = if 0 ≤ x.toInt then x.toInt else -2) := by
  unfold d_orNone
  refine po_cond (fun c => po_some ?_) (fun c => po_some ?_)
  · rw [i_ge, i_0] at c
    rw [if_pos c]
  · rw [i_nge, i_0] at c
    rw [if_neg (by omega)]
    decide
theorem p2_tool (X : XR P F A Fm Am) (S : SAm Fm Am) : P2 (e_SleepWork_tool P F A J x1) (d_tool Fm Am Jm x1) (fun a b => a = b) := by
  obtain ⟨N, -, Y, -, -⟩ := X
  have ct := N.ct
  unfold e_SleepWork_tool d_tool
  refine p2_call (R := fun v w => BV v (0 ≤ x1.toInt ∧ x1.toInt < (F (P 0 8) 15).toInt) ∧ v = w) (p2_of v_cTool (v_dTool S) (fun a b h h' => ⟨h, h.eq h' (by rw [CX.tools N.1])⟩)) ?_
  rintro v w ⟨b, rfl⟩
  rcases b with ⟨rfl, p⟩ | ⟨rfl, p⟩
  · refine p2_cl (fun c => absurd c (by decide)) (fun _ => p2_cr (fun c => absurd c (by decide)) (fun _ => ?_))
    refine p2_bl (fun v4 h4 => p2_br (fun v3 h3 => p2_some (i_ext ?_)))
    have e := i_72 (k := 72) (x := x1) (by decide) (by omega)
    rw [show (72 : Int32).toInt = 72 by decide] at e
    rw [(gl h4).2.2, (gm h3).2.2, e]
    exact Y.1.2.2.1 x1.toInt p.1 (by omega)
  · exact p2_cl (fun _ => p2_cr (fun _ => p2_some rfl) (fun c => absurd c (by decide))) (fun c => absurd c (by decide))
theorem p2_man (X : XR P F A Fm Am) (S : SAm Fm Am) : P2 (e_SleepWork_man P F A J x1 x2) (d_man Fm Am Jm x1 x2) (fun a b => a = b) := by
  obtain ⟨N, -, Y, -, -⟩ := X
  have ct := N.ct
  have hs := N.sd
  unfold e_SleepWork_man d_man
  refine p2_call (R := fun v w => BV v (0 ≤ x1.toInt ∧ x1.toInt < (F (P 0 8) 17).toInt) ∧ v = w) (p2_of v_cMan (v_dMan S) (fun a b h h' => ⟨h, h.eq h' (by rw [CX.men N.1])⟩)) ?_
  rintro v w ⟨b, rfl⟩
  rcases b with ⟨rfl, p⟩ | ⟨rfl, p⟩
  · refine p2_cl (fun _ => p2_cr (fun _ => ?_) (fun c => absurd c (by decide))) (fun c => absurd c (by decide))
    refine p2_bl (fun v3 h3 => ?_)
    have g3 := (gl h3).2.2
    obtain ⟨L, s5, s6, s7⟩ := Y.1.2.2.2.1 x1.toInt p.1 p.2
    have ix : ∀ {k : Int32} {c : Int}, k.toInt = c → 0 ≤ c → c ≤ 100 → (k + x1).toInt = c + x1.toInt := fun {k c} e c0 c1 => by
      have := i_72 (k := k) (x := x1) (by omega) (by omega)
      rw [this, e]
    have lq : (v3.toInt = -1 ∧ ai Am 47 (42 + x1.toInt) = -1 ∧ ai Am 47 (48 + x1.toInt) = -1) ∨ (0 ≤ v3.toInt ∧ 0 ≤ ai Am 47 (42 + x1.toInt) ∧ 0 ≤ ai Am 47 (48 + x1.toInt) ∧ v3.toInt / 6 = ai Am 47 (42 + x1.toInt) ∧ v3.toInt % 6 = ai Am 47 (48 + x1.toInt)) := by
      rw [g3]
      rcases L with ⟨a, b, c⟩ | ⟨a, b, c, d, e⟩
      · exact .inl ⟨a, b, c⟩
      · have s6 := (N.s6 a).2
        have e' : ci A 2 3 x1.toInt = ai Am 47 (42 + x1.toInt) * 6 + ai Am 47 (48 + x1.toInt) := e
        have a' : 0 ≤ ai Am 47 (42 + x1.toInt) := a
        have c' : 0 ≤ ai Am 47 (48 + x1.toInt) := c
        have d' : ai Am 47 (48 + x1.toInt) < ci A (P 0 8) 5 (ai Am 47 (42 + x1.toInt)) := d
        have s6' : ci A (P 0 8) 5 (ai Am 47 (42 + x1.toInt)) ≤ 6 := s6
        exact .inr ⟨by omega, a', c', by omega, by omega⟩
    refine p2_dd (fun _ => ?_) (fun _ => ?_)
    · refine p2_bl (fun _ hk => ?_)
      obtain ⟨-, rfl⟩ := gg_chk hk
      refine p2_bl (fun v6 h6 => p2_br (fun w6 k6 => p2_some (i_ext ?_)))
      rw [(gl h6).2.2, (gm k6).2.2, ix6 hs (by omega)]
      exact N.hm p.1 p.2
    refine p2_dd (fun _ => ?_) (fun _ => ?_)
    · refine p2_br (fun w5 k5 => ?_)
      have g5 := (gm k5).2.2
      rw [ix (c := 42) (by decide) (by decide) (by decide)] at g5
      refine p2_r v_none ?_
      intro w6 q6
      rw [g5] at q6
      refine p2_cl (fun c => ?_) (fun c => ?_)
      · rw [i_ge, i_0] at c
        refine p2_bl (fun v8 h8 => p2_some (i_ext ?_))
        rw [gg_div6 h8, i_div6 c, q6, if_pos (by omega)]
        omega
      · rw [i_nge, i_0] at c
        refine p2_some (i_ext ?_)
        rw [q6, if_neg (by omega)]
        decide
    refine p2_dd (fun _ => ?_) (fun _ => ?_)
    · refine p2_br (fun w5 k5 => ?_)
      have g5 := (gm k5).2.2
      rw [ix (c := 48) (by decide) (by decide) (by decide)] at g5
      refine p2_r v_none ?_
      intro w6 q6
      rw [g5] at q6
      refine p2_cl (fun c => ?_) (fun c => ?_)
      · rw [i_ge, i_0] at c
        refine p2_bl (fun v8 h8 => p2_some (i_ext ?_))
        rw [gg_rem6 h8, i_rem6 c, q6, if_pos (by omega)]
        omega
      · rw [i_nge, i_0] at c
        refine p2_some (i_ext ?_)
        rw [q6, if_neg (by omega)]
        decide
    refine p2_dd (fun _ => ?_) (fun _ => ?_)
    · refine p2_bl (fun v8 h8 => p2_br (fun w5 k5 => p2_some (i_ext ?_)))
      rw [(gl h8).2.2, (gm k5).2.2, ix (c := 54) (by decide) (by decide) (by decide)]
      exact s5
    refine p2_dd (fun _ => ?_) (fun _ => ?_)
    · refine p2_bl (fun v8 h8 => p2_br (fun w5 k5 => p2_some (i_ext ?_)))
      rw [(gl h8).2.2, (gm k5).2.2, ix (c := 60) (by decide) (by decide) (by decide)]
      exact s6
    refine p2_dd (fun _ => ?_) (fun _ => p2_some rfl)
    · refine p2_bl (fun v8 h8 => p2_br (fun w5 k5 => p2_some (i_ext ?_)))
      rw [(gl h8).2.2, (gm k5).2.2, ix (c := 66) (by decide) (by decide) (by decide)]
      exact s7
  · exact p2_cl (fun c => absurd c (by decide)) (fun _ => p2_cr (fun c => absurd c (by decide)) (fun _ => p2_some rfl))
end H9fd
end Qz159
section Qz160
/-! task: the same answers -/
section H9fe
variable {n m : Nat} {P P' : Nat → Nat → Nat} {F F' : Nat → Nat → Int32} {A A' : Nat → Nat → Nat → Int32} {J : Nat → Nat → Nat → Int64} {Fm Fm' : Nat → Int32} {Am Am' : Nat → Nat → Int32} {Jm : Nat → Nat → Int64} {x1 x2 x3 : Int32}
/-- now, after the reference has taken it -/
theorem XR.take (X : XR P F A Fm Am) (cp : CPm 47 48 0 0 0 Am Am') : NHx (P 0 8) F A Fm Am' ∧ SBx True (P 0 8) 2 F A Am' 48 0 ∧ (F 2 7).toInt = ai Am' 48 78 ∧ (F 2 8).toInt = ai Am' 48 79 ∧ B7 (F 2 7) := by
  obtain ⟨N, -, Y, -, -⟩ := X
  have ct := N.ct
  have t47 : ∀ i, 0 ≤ i → i < 100 → ai Am' 48 i = ai Am 47 i := fun i i0 i1 => by
    have := cp.2.1 i i0 i1
    rw [Int.zero_add] at this
    exact this
  obtain ⟨s1, s2, s3, s4, s5, s6, s7⟩ := Y.1
  refine ⟨N.fr (fun _ => rfl) (fun _ _ => rfl) rfl (fun q _ _ => cp.1 q (by omega)), SBx.mk0 (fun k k0 k1 => ?_) (fun k k0 k1 => ?_) (fun k k0 k1 => ?_) (fun k k0 k1 => ?_), ?_, ?_, s7⟩
  · rw [t47 (6 + k) (by omega) (by omega)]
    exact s1 k k0 k1
  · rw [t47 k (by omega) (by omega)]
    exact s2 k k0 k1
  · rw [t47 (72 + k) (by omega) (by omega)]
    exact s3 k k0 k1
  · rw [t47 (42 + k) (by omega) (by omega), t47 (48 + k) (by omega) (by omega), t47 (54 + k) (by omega) (by omega), t47 (60 + k) (by omega) (by omega), t47 (66 + k) (by omega) (by omega)]
    have w := s4 k k0 k1
    exact ⟨w.1, w.2.1, w.2.2.1, fun _ => w.2.2.2⟩
  · rw [t47 78 (by decide) (by decide)]
    exact s5
  · rw [t47 79 (by decide) (by decide)]
    exact s6
theorem p2_task (X : XR P F A Fm Am) (S : SAm Fm Am) : P2 (e_SleepWork_task n P F A J x1 x2) (d_task m Fm Am Jm x1 x2) (fun a b => a = b.1) := by
  have ct := X.1.ct
  have hs := X.1.sd
  have ek : F (P 0 8) 16 = Am 19 (Fm 18).toInt.toNat := CX.tasks X.1.1
  unfold e_SleepWork_task d_task
  refine p2_r (v_dTask S) ?_
  intro w b
  rw [← ek] at b
  rcases b with ⟨rfl, p⟩ | ⟨rfl, p⟩
  · refine p2_cr (fun _ => ?_) (fun c => absurd c (by decide))
    refine p2_cl (fun c => ?_) (fun _ => ?_)
    · rw [i_lt, i_0] at c
      omega
    refine p2_bl (fun _ hk => ?_)
    obtain ⟨-, rfl⟩ := gg_chk hk
    refine p2_cl (fun _ => ?_) (fun c => ?_)
    · refine p2_r r_takes ?_
      rintro ⟨u, F4, A5, J6⟩ ⟨rfl, cp⟩
      dsimp only at cp ⊢
      obtain ⟨N, B, -, -, -⟩ := X.take cp
      refine p2_dd (fun _ => ?_) (fun _ => ?_)
      · refine p2_bl (fun _ hk => ?_)
        obtain ⟨-, rfl⟩ := gg_chk hk
        refine p2_bl (fun v6 h6 => p2_br (fun w6 k6 => p2_some (i_ext ?_)))
        show v6.toInt = w6.toInt
        rw [(gl h6).2.2, (gm k6).2.2, ix6 hs (by omega)]
        exact N.rm p.1 p.2
      refine p2_dd (fun _ => ?_) (fun _ => ?_)
      · refine p2_bl (fun _ hk => ?_)
        obtain ⟨-, rfl⟩ := gg_chk hk
        refine p2_bl (fun v6 h6 => p2_r (v_steps hs (by omega)) (fun w6 k6 => p2_some (i_ext ?_)))
        show v6.toInt = w6.toInt
        rw [(gl h6).2.2, k6]
        exact N.stp p.1 p.2
      refine p2_dd (fun _ => ?_) (fun _ => ?_)
      · refine p2_bl (fun v6 h6 => p2_br (fun w6 k6 => p2_some (i_ext ?_)))
        show v6.toInt = w6.toInt
        rw [(gl h6).2.2, (gm k6).2.2]
        exact (B.sf p.1 (by omega)).1
      refine p2_dd (fun _ => ?_) (fun _ => ?_)
      · refine p2_bl (fun _ hk => ?_)
        obtain ⟨-, rfl⟩ := gg_chk hk
        refine p2_call (p2_worth N (fun k k0 k1 => B.dn k0 k1) p.1 p.2 rfl rfl) ?_
        rintro v w e
        exact p2_some e
      refine p2_dd (fun _ => ?_) (fun _ => p2_some rfl)
      · refine p2_bl (fun _ hk => ?_)
        obtain ⟨-, rfl⟩ := gg_chk hk
        refine p2_call (p2_ended N B p.1 p.2 rfl rfl) ?_
        rintro v w ⟨rfl, -⟩
        cases g_cnd .eq v 0 with
        | true => exact p2_some rfl
        | false => exact p2_some rfl
    · rw [i_nlt] at c
      omega
  · refine p2_cr (fun c => absurd c (by decide)) (fun _ => ?_)
    refine p2_cl (fun _ => p2_some rfl) (fun c => ?_)
    rw [i_nlt, i_0] at c
    refine p2_bl (fun _ hk => ?_)
    obtain ⟨-, rfl⟩ := gg_chk hk
    refine p2_cl (fun c2 => ?_) (fun _ => p2_some rfl)
    rw [i_lt] at c2
    exact absurd ⟨c, c2⟩ p
end H9fe
end Qz160
section Qz161
/-! the ways at night: the class's are the reference's row 49 -/
section H9ff
variable {n m h : Nat} {F F' : Nat → Nat → Int32} {A A' : Nat → Nat → Nat → Int32} {Fm : Nat → Int32} {Am Am' : Nat → Nat → Int32} {Jm : Nat → Nat → Int64} {b : mR Unit}
theorem NHx.dr (H : NHx h F A Fm Am) : DRx (F h 13).toInt (F h 14).toInt h F A Fm Am := by
  have hy := H.hy.1
  have w := H.2.1.1
  have e : F h 14 = Am 12 (Fm 18).toInt.toNat := H.1.2.1
  refine ⟨rfl, by rw [← e], H.sd.1, H.sd.2, fun k k0 k1 => ?_⟩
  obtain ⟨a, b, c1, c2⟩ := hy k k0 k1
  have d := w k k0 k1
  exact ⟨a, b, ⟨by omega, by omega⟩, d.1, d.2.1, d.2.2⟩
theorem DRx.cgF {r nd : Int} (D : DRx r nd h F A Fm Am) (hF : ∀ k, F' h k = F h k) (hA : ∀ o, o ≠ 17 → A' h o = A h o) : DRx r nd h F' A' Fm Am := by
  unfold DRx
  rw [hF, ci_fr (hA 1 (by decide)), ci_fr (hA 2 (by decide)), ci_fr (hA 3 (by decide))]
  exact D
theorem WD_of (H : NHx h F A Fm Am) (hb : d_fillsWays m Fm Am Jm = some b) : WDx h F A (Am 48 78) (mx b.2.2.1) := by
  intro n n' P F1 A1 J f a r hr
  have ct := H.ct
  have n36 : h ≠ 36 := fun e => absurd H.kd (by rw [e]; decide)
  have D := H.dr.cgF f a
  have w := p2_ways (r := (F h 13).toInt) (by omega) (by omega) (by omega) n36 (by rw [f 13]) D rfl r b hr hb
  exact fun x y x0 x1 y0 y1 => w.2 x y x0 x1 y0 y1
end H9ff
end Qz161
section Qz162
/-! the reference's ways: what they leave as it was (printed by wip/frames.py with wip/nt/rules.f) -/
section H9fg
variable {Fr : Nat → Int32} {Ar : Nat → Nat → Int32}
def FW (Fr : Nat → Int32) (Ar : Nat → Nat → Int32) (F : Nat → Int32) (A : Nat → Nat → Int32) : Prop := F = Fr ∧ ∀ q, q ≠ 49 → A q = Ar q
theorem FW.rfl' {F : Nat → Int32} {A : Nat → Nat → Int32} : FW F A F A := ⟨rfl, fun _ _ => rfl⟩
theorem fw_st {γ : Type} {j n : Nat} {i x : Int32} {F : Nat → Int32} {A : Nat → Nat → Int32} {g : (Nat → Nat → Int32) → Option γ} {Q : γ → Prop} (h : FW Fr Ar F A) (hj : j = 49) (kk : ∀ A', FW Fr Ar F A' → po (g A') Q) : po ((m_st A j n i x).bind g) Q :=
  po_bl (fun A' e => kk A' ⟨h.1, fun q hq => ((gg_st e).2.2.1 q (by omega)).trans (h.2 q hq)⟩)
theorem fw_d_fillsWays_263 {K170 : (Nat → Int32) → (Nat → Nat → Int32) → (Nat → Nat → Int64) → Int32 → Option (Unit × (Nat → Int32) × (Nat → Nat → Int32) × (Nat → Nat → Int64))} {K178 : (Nat → Int32) → (Nat → Nat → Int32) → (Nat → Nat → Int64) → Int32 → Int32 → Option (Unit × (Nat → Int32) × (Nat → Nat → Int32) × (Nat → Nat → Int64))} {K186 : (Nat → Int32) → (Nat → Nat → Int32) → (Nat → Nat → Int64) → Int32 → Int32 → Int32 → Option (Unit × (Nat → Int32) × (Nat → Nat → Int32) × (Nat → Nat → Int64))} {n : Nat} {F : Nat → Int32} {A : Nat → Nat → Int32} {J : Nat → Nat → Int64} {x1 : Int32} {x2 : Int32} {x3 : Int32} (hK170 : ∀ (a0 : Nat → Int32) (a1 : Nat → Nat → Int32) (a2 : Nat → Nat → Int64) (a3 : Int32), FW Fr Ar a0 a1 → po (K170 a0 a1 a2 a3) (fun r => FW Fr Ar r.2.1 r.2.2.1)) (hK178 : ∀ (a0 : Nat → Int32) (a1 : Nat → Nat → Int32) (a2 : Nat → Nat → Int64) (a3 : Int32) (a4 : Int32), FW Fr Ar a0 a1 → po (K178 a0 a1 a2 a3 a4) (fun r => FW Fr Ar r.2.1 r.2.2.1)) (hK186 : ∀ (a0 : Nat → Int32) (a1 : Nat → Nat → Int32) (a2 : Nat → Nat → Int64) (a3 : Int32) (a4 : Int32) (a5 : Int32), FW Fr Ar a0 a1 → po (K186 a0 a1 a2 a3 a4 a5) (fun r => FW Fr Ar r.2.1 r.2.2.1)) (h : FW Fr Ar F A) : po (d_fillsWays_263 K170 K178 K186 n F A J x1 x2 x3) (fun r => FW Fr Ar r.2.1 r.2.2.1) := by
  unfold d_fillsWays_263
  repeat' (first
    | with_reducible exact po_some (by assumption)
    | (with_reducible refine fw_st (by assumption) (by decide) ?_; intro _ _)
    | with_reducible exact hK170 _ _ _ _ (by assumption)
    | (intros; with_reducible exact hK170 _ _ _ _ (by assumption))
    | with_reducible exact hK178 _ _ _ _ _ (by assumption)
    | (intros; with_reducible exact hK178 _ _ _ _ _ (by assumption))
    | with_reducible exact hK186 _ _ _ _ _ _ (by assumption)
    | (intros; with_reducible exact hK186 _ _ _ _ _ _ (by assumption))
    | with_reducible refine po_cond (fun _ => ?_) (fun _ => ?_)
    | with_reducible refine po_bind_cond (fun _ => ?_) (fun _ => ?_)
    | with_reducible refine po_bl (fun _ _ => ?_))
theorem fw_d_fillsWays_186 {K170 : (Nat → Int32) → (Nat → Nat → Int32) → (Nat → Nat → Int64) → Int32 → Option (Unit × (Nat → Int32) × (Nat → Nat → Int32) × (Nat → Nat → Int64))} {K178 : (Nat → Int32) → (Nat → Nat → Int32) → (Nat → Nat → Int64) → Int32 → Int32 → Option (Unit × (Nat → Int32) × (Nat → Nat → Int32) × (Nat → Nat → Int64))} (hK170 : ∀ (a0 : Nat → Int32) (a1 : Nat → Nat → Int32) (a2 : Nat → Nat → Int64) (a3 : Int32), FW Fr Ar a0 a1 → po (K170 a0 a1 a2 a3) (fun r => FW Fr Ar r.2.1 r.2.2.1)) (hK178 : ∀ (a0 : Nat → Int32) (a1 : Nat → Nat → Int32) (a2 : Nat → Nat → Int64) (a3 : Int32) (a4 : Int32), FW Fr Ar a0 a1 → po (K178 a0 a1 a2 a3 a4) (fun r => FW Fr Ar r.2.1 r.2.2.1)) : ∀ {n : Nat} {F : Nat → Int32} {A : Nat → Nat → Int32} {J : Nat → Nat → Int64} {x1 : Int32} {x2 : Int32} {x3 : Int32}, FW Fr Ar F A → po (d_fillsWays_186 K170 K178 n F A J x1 x2 x3) (fun r => FW Fr Ar r.2.1 r.2.2.1) := by
  intro n
  induction n with
  | zero => intro F A J x1 x2 x3 _ r hr; cases hr
  | succ n ih =>
    intro F A J x1 x2 x3 h
    unfold d_fillsWays_186
    repeat' (first
      | with_reducible exact po_some (by assumption)
      | (with_reducible refine fw_st (by assumption) (by decide) ?_; intro _ _)
      | with_reducible refine fw_d_fillsWays_263 ?_ ?_ ?_ (by assumption)
      | (with_reducible refine po_call (fw_d_fillsWays_263 ?_ ?_ ?_ (by assumption)) ?_)
      | with_reducible exact hK170 _ _ _ _ (by assumption)
      | (intros; with_reducible exact hK170 _ _ _ _ (by assumption))
      | with_reducible exact hK178 _ _ _ _ _ (by assumption)
      | (intros; with_reducible exact hK178 _ _ _ _ _ (by assumption))
      | with_reducible exact ih (by assumption)
      | (with_reducible refine po_call (ih (by assumption)) ?_; rintro ⟨_, _, _, _⟩ _; try dsimp only)
      | (intros; with_reducible exact ih (by assumption))
      | with_reducible refine po_cond (fun _ => ?_) (fun _ => ?_)
      | with_reducible refine po_bind_cond (fun _ => ?_) (fun _ => ?_)
      | with_reducible refine po_bl (fun _ _ => ?_))
theorem fw_d_fillsWays_178 {K170 : (Nat → Int32) → (Nat → Nat → Int32) → (Nat → Nat → Int64) → Int32 → Option (Unit × (Nat → Int32) × (Nat → Nat → Int32) × (Nat → Nat → Int64))} (hK170 : ∀ (a0 : Nat → Int32) (a1 : Nat → Nat → Int32) (a2 : Nat → Nat → Int64) (a3 : Int32), FW Fr Ar a0 a1 → po (K170 a0 a1 a2 a3) (fun r => FW Fr Ar r.2.1 r.2.2.1)) : ∀ {n : Nat} {F : Nat → Int32} {A : Nat → Nat → Int32} {J : Nat → Nat → Int64} {x1 : Int32} {x2 : Int32}, FW Fr Ar F A → po (d_fillsWays_178 K170 n F A J x1 x2) (fun r => FW Fr Ar r.2.1 r.2.2.1) := by
  intro n
  induction n with
  | zero => intro F A J x1 x2 _ r hr; cases hr
  | succ n ih =>
    intro F A J x1 x2 h
    unfold d_fillsWays_178
    repeat' (first
      | with_reducible exact po_some (by assumption)
      | (with_reducible refine fw_st (by assumption) (by decide) ?_; intro _ _)
      | with_reducible refine fw_d_fillsWays_186 ?_ ?_ (by assumption)
      | (with_reducible refine po_call (fw_d_fillsWays_186 ?_ ?_ (by assumption)) ?_)
      | with_reducible exact hK170 _ _ _ _ (by assumption)
      | (intros; with_reducible exact hK170 _ _ _ _ (by assumption))
      | with_reducible exact ih (by assumption)
      | (with_reducible refine po_call (ih (by assumption)) ?_; rintro ⟨_, _, _, _⟩ _; try dsimp only)
      | (intros; with_reducible exact ih (by assumption))
      | with_reducible refine po_cond (fun _ => ?_) (fun _ => ?_)
      | with_reducible refine po_bind_cond (fun _ => ?_) (fun _ => ?_)
      | with_reducible refine po_bl (fun _ _ => ?_))
theorem fw_d_fillsWays_170   : ∀ {n : Nat} {F : Nat → Int32} {A : Nat → Nat → Int32} {J : Nat → Nat → Int64} {x1 : Int32}, FW Fr Ar F A → po (d_fillsWays_170  n F A J x1) (fun r => FW Fr Ar r.2.1 r.2.2.1) := by
  intro n
  induction n with
  | zero => intro F A J x1 _ r hr; cases hr
  | succ n ih =>
    intro F A J x1 h
    unfold d_fillsWays_170
    repeat' (first
      | with_reducible exact po_some (by assumption)
      | (with_reducible refine fw_st (by assumption) (by decide) ?_; intro _ _)
      | with_reducible refine fw_d_fillsWays_178 ?_ (by assumption)
      | (with_reducible refine po_call (fw_d_fillsWays_178 ?_ (by assumption)) ?_)
      | with_reducible exact ih (by assumption)
      | (with_reducible refine po_call (ih (by assumption)) ?_; rintro ⟨_, _, _, _⟩ _; try dsimp only)
      | (intros; with_reducible exact ih (by assumption))
      | with_reducible refine po_cond (fun _ => ?_) (fun _ => ?_)
      | with_reducible refine po_bind_cond (fun _ => ?_) (fun _ => ?_)
      | with_reducible refine po_bl (fun _ _ => ?_))
theorem fw_d_fillsWays_162 {K40 : (Nat → Int32) → (Nat → Nat → Int32) → (Nat → Nat → Int64) → Int32 → Option (Unit × (Nat → Int32) × (Nat → Nat → Int32) × (Nat → Nat → Int64))} {n : Nat} {F : Nat → Int32} {A : Nat → Nat → Int32} {J : Nat → Nat → Int64} {x1 : Int32} (hK40 : ∀ (a0 : Nat → Int32) (a1 : Nat → Nat → Int32) (a2 : Nat → Nat → Int64) (a3 : Int32), FW Fr Ar a0 a1 → po (K40 a0 a1 a2 a3) (fun r => FW Fr Ar r.2.1 r.2.2.1)) (h : FW Fr Ar F A) : po (d_fillsWays_162 K40 n F A J x1) (fun r => FW Fr Ar r.2.1 r.2.2.1) := by
  unfold d_fillsWays_162
  repeat' (first
    | with_reducible exact po_some (by assumption)
    | (with_reducible refine fw_st (by assumption) (by decide) ?_; intro _ _)
    | with_reducible exact hK40 _ _ _ _ (by assumption)
    | (intros; with_reducible exact hK40 _ _ _ _ (by assumption))
    | with_reducible refine po_cond (fun _ => ?_) (fun _ => ?_)
    | with_reducible refine po_bind_cond (fun _ => ?_) (fun _ => ?_)
    | with_reducible refine po_bl (fun _ _ => ?_))
theorem fw_d_fillsWays_40   : ∀ {n : Nat} {F : Nat → Int32} {A : Nat → Nat → Int32} {J : Nat → Nat → Int64} {x1 : Int32}, FW Fr Ar F A → po (d_fillsWays_40  n F A J x1) (fun r => FW Fr Ar r.2.1 r.2.2.1) := by
  intro n
  induction n with
  | zero => intro F A J x1 _ r hr; cases hr
  | succ n ih =>
    intro F A J x1 h
    unfold d_fillsWays_40
    repeat' (first
      | with_reducible exact po_some (by assumption)
      | (with_reducible refine fw_st (by assumption) (by decide) ?_; intro _ _)
      | with_reducible exact fw_d_fillsWays_170 (by assumption)
      | (with_reducible refine po_call (fw_d_fillsWays_170 (by assumption)) ?_; rintro ⟨_, _, _, _⟩ _; try dsimp only)
      | with_reducible refine fw_d_fillsWays_162 ?_ (by assumption)
      | (with_reducible refine po_call (fw_d_fillsWays_162 ?_ (by assumption)) ?_)
      | with_reducible exact ih (by assumption)
      | (with_reducible refine po_call (ih (by assumption)) ?_; rintro ⟨_, _, _, _⟩ _; try dsimp only)
      | (intros; with_reducible exact ih (by assumption))
      | with_reducible refine po_cond (fun _ => ?_) (fun _ => ?_)
      | with_reducible refine po_bind_cond (fun _ => ?_) (fun _ => ?_)
      | with_reducible refine po_bl (fun _ _ => ?_))
theorem fw_d_fillsWays_31 {K2 : (Nat → Int32) → (Nat → Nat → Int32) → (Nat → Nat → Int64) → Int32 → Option (Unit × (Nat → Int32) × (Nat → Nat → Int32) × (Nat → Nat → Int64))} {n : Nat} {F : Nat → Int32} {A : Nat → Nat → Int32} {J : Nat → Nat → Int64} {x1 : Int32} {s1 : Int32} {s2 : Int32} (hK2 : ∀ (a0 : Nat → Int32) (a1 : Nat → Nat → Int32) (a2 : Nat → Nat → Int64) (a3 : Int32), FW Fr Ar a0 a1 → po (K2 a0 a1 a2 a3) (fun r => FW Fr Ar r.2.1 r.2.2.1)) (h : FW Fr Ar F A) : po (d_fillsWays_31 K2 n F A J x1 s1 s2) (fun r => FW Fr Ar r.2.1 r.2.2.1) := by
  unfold d_fillsWays_31
  repeat' (first
    | with_reducible exact po_some (by assumption)
    | (with_reducible refine fw_st (by assumption) (by decide) ?_; intro _ _)
    | with_reducible exact hK2 _ _ _ _ (by assumption)
    | (intros; with_reducible exact hK2 _ _ _ _ (by assumption))
    | with_reducible refine po_cond (fun _ => ?_) (fun _ => ?_)
    | with_reducible refine po_bind_cond (fun _ => ?_) (fun _ => ?_)
    | with_reducible refine po_bl (fun _ _ => ?_))
theorem fw_d_fillsWays_2   : ∀ {n : Nat} {F : Nat → Int32} {A : Nat → Nat → Int32} {J : Nat → Nat → Int64} {x1 : Int32}, FW Fr Ar F A → po (d_fillsWays_2  n F A J x1) (fun r => FW Fr Ar r.2.1 r.2.2.1) := by
  intro n
  induction n with
  | zero => intro F A J x1 _ r hr; cases hr
  | succ n ih =>
    intro F A J x1 h
    unfold d_fillsWays_2
    repeat' (first
      | with_reducible exact po_some (by assumption)
      | (with_reducible refine fw_st (by assumption) (by decide) ?_; intro _ _)
      | with_reducible exact fw_d_fillsWays_40 (by assumption)
      | (with_reducible refine po_call (fw_d_fillsWays_40 (by assumption)) ?_; rintro ⟨_, _, _, _⟩ _; try dsimp only)
      | with_reducible refine fw_d_fillsWays_31 ?_ (by assumption)
      | (with_reducible refine po_call (fw_d_fillsWays_31 ?_ (by assumption)) ?_)
      | with_reducible exact ih (by assumption)
      | (with_reducible refine po_call (ih (by assumption)) ?_; rintro ⟨_, _, _, _⟩ _; try dsimp only)
      | (intros; with_reducible exact ih (by assumption))
      | with_reducible refine po_cond (fun _ => ?_) (fun _ => ?_)
      | with_reducible refine po_bind_cond (fun _ => ?_) (fun _ => ?_)
      | with_reducible refine po_bl (fun _ _ => ?_))
theorem fw_d_fillsWays {n : Nat} {F : Nat → Int32} {A : Nat → Nat → Int32} {J : Nat → Nat → Int64}  (h : FW Fr Ar F A) : po (d_fillsWays n F A J) (fun r => FW Fr Ar r.2.1 r.2.2.1) := by
  unfold d_fillsWays
  repeat' (first
    | with_reducible exact po_some (by assumption)
    | (with_reducible refine fw_st (by assumption) (by decide) ?_; intro _ _)
    | with_reducible exact fw_d_fillsWays_2 (by assumption)
    | (with_reducible refine po_call (fw_d_fillsWays_2 (by assumption)) ?_; rintro ⟨_, _, _, _⟩ _; try dsimp only)
    | with_reducible refine po_cond (fun _ => ?_) (fun _ => ?_)
    | with_reducible refine po_bind_cond (fun _ => ?_) (fun _ => ?_)
    | with_reducible refine po_bl (fun _ _ => ?_))
end H9fg
end Qz162
section Qz163
/-! a whole night on both sides, and the call night -/
section H9fh
variable {n m : Nat} {h q : Nat} {N : Int} {ex : Prop} {P P' : Nat → Nat → Nat} {F F' : Nat → Nat → Int32} {A A' : Nat → Nat → Nat → Int32} {J : Nat → Nat → Nat → Int64} {Fm Fm' : Nat → Int32} {Am Am' : Nat → Nat → Int32} {Jm : Nat → Nat → Int64} {x1 : Int32}
theorem w_run {sh : Int32} (hk : c_kind h = 6) (R : Rc F A) (H : HVc F A h) : ok (wrun 80 80 P F A J h sh) (fun _ => True) := by
  have l0 : (0 : Int32).toInt = 0 := by decide
  have rd : 0 ≤ (F h 13).toInt ∧ (F h 13).toInt ≤ 8 := by have := R.1 h 13; rw [hk] at this; exact this
  unfold wrun
  refine ok_call (s_takeDoors hk R H (by decide)) ?_
  rintro ⟨u, P2, F2, A2, J2⟩ ⟨e1, e2, w⟩
  dsimp only at e1 e2 w ⊢
  subst e1
  subst e2
  unfold e_Ways_joinWays
  exact ok_mono (s_join_2 (A0 := A2) rd.2 (fun _ _ _ => rfl) (by decide) (by omega)) (fun _ _ => trivial)
/-- the reference's ways are in their ranges -/
theorem WIx_of (H : NHx h F A Fm Am) (R : Rc F A) (V : HVc F A h) : po (d_fillsWays m Fm Am Jm) (fun b => WIx (F h 13).toInt b.2.2.1) := by
  intro b hb
  have ct := H.ct
  have n36 : h ≠ 36 := k6ne H.kd
  obtain ⟨r, hr, -⟩ := w_run (P := fun _ _ => 0) (J := fun _ _ _ => 0) (sh := Am 48 78) H.kd R V
  exact (p2_ways (r := (F h 13).toInt) (by omega) (by omega) (by omega) n36 rfl H.dr rfl r b hr hb).1
theorem AR_of (H : NHx h F A Fm Am) (S : SBx ex h q F A Am 48 0) (I : WIx (F h 13).toInt Am) : ARx True h N F A Am (mx Am) := by
  intro m m0 m1 t0
  have ct := H.ct
  have y12 := H.hy.2.2.2.1 m m0 m1
  have L := (S.mn m0 m1).1
  have tk : ai Am 48 (42 + m) < (F h 16).toInt := by
    rcases L with ⟨-, b, -⟩ | ⟨-, b, -⟩
    · omega
    · exact b
  have y4 := H.hy.2.1 _ t0 tk
  have i := (I (ci A h 12 m) (ci A h 4 (ai Am 48 (42 + m))) y12.1 (by omega) y4.1 (by omega)).1
  exact ⟨i, i, .inl rfl⟩
/-- the ways are the same on both sides, if the same doors are shut -/
theorem AR_exact {b : mR Unit} (H : NHx h F A Fm Am) (R : Rc F A) (V : HVc F A h) (S : SBx ex h q F A Am 48 0) (e7 : (F q 7).toInt = ai Am 48 78) (hb : d_fillsWays m Fm Am Jm = some b) : ∃ D, WDx h F A (F q 7) D ∧ ARx True h N F A b.2.2.1 D := by
  obtain ⟨f, a⟩ := fw_d_fillsWays FW.rfl' b hb
  refine ⟨mx b.2.2.1, ?_, ?_⟩
  · have e : F q 7 = Am 48 78 := i_ext e7
    rw [e]
    exact WD_of H hb
  · exact AR_of (Fm := Fm) (H.fr (fun _ => rfl) (fun _ _ => rfl) rfl (fun j _ _ => a j (by omega))) (S.cg rfl rfl rfl (fun _ _ _ => rfl) (a 48 (by decide))) (WIx_of H R V b hb)
/-- what both have behind a whole night -/
def NTx (ex : Prop) (h q : Nat) (Fm : Nat → Int32) (Am : Nat → Nat → Int32) (a : cR Unit) (b : mR Int32) : Prop := (∃ (m0 m1 : Nat) (J0 J1 : Nat → Nat → Int64) (v0 v1 : Int32), d_worthNow m0 Fm Am J0 = some v0 ∧ d_worthNow m1 b.2.1 b.2.2.1 J1 = some v1 ∧ b.1 = v1 - v0) ∧ NHx h a.2.2.1 a.2.2.2.1 b.2.1 b.2.2.1 ∧ SBx ex h q a.2.2.1 a.2.2.2.1 b.2.2.1 48 0 ∧ WCx h a.2.2.1 a.2.2.2.1 ∧ (ex → (a.2.2.1 q 7).toInt = ai b.2.2.1 48 78 ∧ (a.2.2.1 q 8 + 1).toInt = ai b.2.2.1 48 79)
theorem p2_wn (H : NHx h F A Fm Am) (hq : c_kind q = 2) (S : SBx ex h q F A Am 48 0) (W : WCx h F A) (SH : SHx ex q F Am) (hsh : F q 7 ≠ -1) (AR : ∀ (m : Nat) (b : mR Unit), d_fillsWays m Fm Am Jm = some b → ∃ D, WDx h F A (F q 7) D ∧ ARx ex h (F h 18).toInt F A b.2.2.1 D) (ex1 : x1.toInt = (F h 18).toInt) : P2 (e_Sleep_goTill n P F A J x1 h q) (d_wholeNight m Fm Am Jm) (NTx ex h q Fm Am) := by
  intro a b ha hb
  have y18 := H.hy.2.2.2.2
  have nn := H.nn
  unfold d_wholeNight at hb
  obtain ⟨v1, h1, hb⟩ := Option.bind_eq_some_iff.mp hb
  obtain ⟨v2, h2, hb⟩ := Option.bind_eq_some_iff.mp hb
  obtain ⟨b', hb', hb⟩ := Option.bind_eq_some_iff.mp hb
  unfold d_goesTill at hb'
  obtain ⟨⟨u, F3, A3, J3⟩, hf, h6⟩ := Option.bind_eq_some_iff.mp hb'
  obtain ⟨f3, a3⟩ := fw_d_fillsWays FW.rfl' _ hf
  obtain ⟨D, WD, ar⟩ := AR _ _ hf
  have g2 := (gm h2).2.2
  dsimp only at f3 a3 ar h6
  obtain rfl : Fm = F3 := f3.symm
  have H3 : NHx h F A Fm A3 := H.fr (fun _ => rfl) (fun _ _ => rfl) rfl (fun j _ _ => a3 j (by omega))
  have S3 : SBx ex h q F A A3 48 0 := S.cg rfl rfl rfl (fun _ _ _ => rfl) (a3 48 (by decide))
  have SH3 : SHx ex q F A3 := SH.cg rfl rfl (by rw [ai_fr (a3 48 (by decide))]) (by rw [ai_fr (a3 48 (by decide))])
  obtain ⟨P', F', hF', Q⟩ := p2_goTill (E := (F h 18).toInt) (N := (F h 18).toInt) H3 hq S3 W SH3 WD hsh ar (Int.le_refl _) y18.2 rfl ex1 (g2.trans nn.symm) a b' ha h6
  obtain ⟨⟨q1, q2⟩, q5, q6⟩ := Q
  obtain ⟨HN, WC, WE⟩ := q6 rfl
  obtain ⟨ub, Fb, Ab, Jb⟩ := b'
  obtain ⟨ua, Pa, Fa, Aa, Ja⟩ := a
  dsimp only at q1 q2 q5 HN WC WE hb
  obtain rfl : Fa = F' := q2
  obtain ⟨w1, w2, w3, w4, w5⟩ := WE
  refine p2_wn20 (ex := ex) (h := h) (q := q) (z := some (ua, Pa, Fa, Aa, Ja)) (Q := NTx ex h q Fm Am) (Am := Ab) (s78 := ai Ab 48 78) (s79 := ai Ab 48 79) (fun {m2 Am2} N2 S2 o2 e78 e79 => ?_) HN ⟨w2, w3, w4, fun k k0 k1 => ⟨fun k2 => absurd k2 (by rw [i_0]; omega), fun _ => ?_⟩⟩ (fun _ _ => rfl) rfl rfl (by decide) _ _ rfl hb
  · refine p2_br (fun v11 h11 => p2_some ⟨⟨_, _, _, _, _, _, h1, h11, rfl⟩, N2, S2, WC, fun hx => ?_⟩)
    obtain ⟨z, z1, z2⟩ := e79
    have w := w1 hx
    have ez : z = Fa q 8 := i_ext (z1.trans w.2.symm)
    refine ⟨w.1.trans e78.symm, ?_⟩
    show (Fa q 8 + 1).toInt = ai Am2 48 79
    rw [z2, ez]
  · obtain ⟨a1, a2, a4⟩ := w5 k k0 k1
    exact ⟨q5 k k0 k1, a1, a2, a4⟩
/-- the evening of now has gone on; what is kept stays -/
theorem XR.gone (X : XR P F A Fm Am) (G : Gc P F A) (e8 : P' 0 8 = P 0 8) (hF : ∀ r k, r ≠ 2 → ¬ (r = 36 ∧ k = 101) → ¬ (r = 32 ∧ k = 6) → F' r k = F r k) (hA : ∀ r o, r ≠ 2 → r ≠ 36 → (r = P 0 8 → o ≠ 17) → A' r o = A r o) (W' : WCx (P 0 8) F' A') (e : ∀ k, k ≠ 63 → k ≠ 76 → Fm' k = Fm k) (hm : ∀ q, q < 45 ∨ 57 ≤ q → Am' q = Am q) (S : SS (P 0 8) F A (F' 2) (A' 2) (fun i => ai Am' 47 i)) : XR P' F' A' Fm' Am' := by
  obtain ⟨N, C, Y, W, T⟩ := X
  have n2 : P 0 8 ≠ 2 := G.n2
  have n32 : P 0 8 ≠ 32 := fun e => absurd G.k08 (by rw [e]; decide)
  have n36 : P 0 8 ≠ 36 := k6ne G.k08
  have n25 : P 0 8 ≠ 25 := fun e => absurd G.k08 (by rw [e]; decide)
  have lv := G.live
  have hF8 : ∀ k, F' (P 0 8) k = F (P 0 8) k := fun k => hF _ k n2 (fun e => n36 e.1) (fun e => n32 e.1)
  have hA8 : ∀ o, o ≠ 17 → A' (P 0 8) o = A (P 0 8) o := fun o ho => hA _ o n2 n36 (fun _ => ho)
  have hS : SOK (SS (P 0 8) F A) := SS.ok N.ct.2.2.2.2.2
  have sr : ∀ r : Nat, r ≠ 2 → r ≠ 32 → r ≠ 36 → r ≠ P 0 8 → SE (F r) (F' r) (A r) (A' r) := fun r h1 h2 h3 h4 => .of (fun k => hF r k h1 (fun e => h3 e.1) (fun e => h2 e.1)) (fun o => hA r o h1 h3 (fun e => absurd e h4))
  have Y' : YS (SS (P 0 8) F A) F' A' Fm' Am' := by
    refine ⟨S, ?_, Y.2.2.cg hS (fun r r0 r1 => sr r (by omega) (by omega) (by omega) (by omega)) (hm 61 (by decide)) (hm 62 (by decide))⟩
    rw [e 74 (by decide) (by decide)]
    exact Y.2.1.cg hS (by rw [hF 4 1 (by decide) (by decide) (by decide)]) (fun r r0 r1 => sr r (by omega) (by omega) (by omega) (by omega)) (hm 57 (by decide))
  have T' : TLx F' A' Am' := by
    intro i i0 i1
    rw [hF 25 2 (by decide) (by decide) (by decide)] at i1
    rw [ci_fr (hA 25 1 (by decide) (by decide) (fun e => absurd e.symm n25)), ci_fr (hA 25 2 (by decide) (by decide) (fun e => absurd e.symm n25)), ai_fr (hm 58 (by decide)), ai_fr (hm 59 (by decide)), ai_fr (hm 60 (by decide))]
    exact T i i0 i1
  have C' : SCx F' Fm' Am' := ⟨by rw [hF 25 2 (by decide) (by decide) (by decide), e 77 (by decide) (by decide)]; exact C.1, by rw [hF 4 2 (by decide) (by decide) (by decide), e 74 (by decide) (by decide)]; exact C.2.1, fun s hs => by rw [hF 0 10 (by decide) (by decide) (by decide), hm 61 (by decide)]; exact C.2.2 s hs⟩
  unfold XR
  rw [e8]
  exact ⟨N.fr hF8 hA8 (e 18 (by decide) (by decide)) (fun q a b => hm q (by omega)), C', Y'.map (fun f a g s => s.hs (hF8 17) (hF8 16) (hA8 5 (by decide))), W', T'⟩
/-- the evening of now is kept, too -/
theorem XR.push {d : Int} {z : cR Unit} (X : XR P F A Fm Am) (G : Gc P F A) (hd : d = 0 ∨ d = 1) (pu : PUv d P F A z) (e7 : (Fm' 74).toInt = (Fm 74).toInt + 1 - d) (f7 : ∀ q, q ≠ 74 → Fm' q = Fm q) (hs : HSm d (Fm 74).toInt Am Am') : XR z.2.1 z.2.2.1 z.2.2.2.1 Fm' Am' := by
  obtain ⟨N, C, Y, W, T⟩ := X
  have hS : SOK (SS (P 0 8) F A) := SS.ok N.ct.2.2.2.2.2
  have yp := YS.push hS Y C.2.1 hd pu hs
  obtain ⟨p1, p2, p3, p4, -, -⟩ := pu
  have lv := G.live
  have hm : ∀ q, q ≠ 57 → Am' q = Am q := hs.1
  have hF8 : ∀ k, z.2.2.1 (P 0 8) k = F (P 0 8) k := fun k => p2 _ k (by omega) (by omega)
  have hA8 : ∀ o, z.2.2.2.1 (P 0 8) o = A (P 0 8) o := fun o => p3 _ o (by omega)
  have Y' : YS (SS (P 0 8) F A) z.2.2.1 z.2.2.2.1 Fm' Am' := ⟨yp.1, by rw [e7]; exact yp.2.1, yp.2.2⟩
  have C' : SCx z.2.2.1 Fm' Am' := ⟨by rw [p2 25 2 (by decide) (by decide), f7 77 (by decide)]; exact C.1, i_ext (by rw [p4, e7, C.2.1]), fun s hs' => by rw [p2 0 10 (by decide) (by decide), hm 61 (by decide)]; exact C.2.2 s hs'⟩
  have T' : TLx z.2.2.1 z.2.2.2.1 Am' := by
    intro i i0 i1
    rw [p2 25 2 (by decide) (by decide)] at i1
    rw [ci_fr (p3 25 1 (by decide)), ci_fr (p3 25 2 (by decide)), ai_fr (hm 58 (by decide)), ai_fr (hm 59 (by decide)), ai_fr (hm 60 (by decide))]
    exact T i i0 i1
  unfold XR
  rw [p1]
  exact ⟨N.fr hF8 (fun o _ => hA8 o) (f7 18 (by decide)) (fun q a b => hm q (by omega)), C', Y'.map (fun f a g s => s.hs (hF8 17) (hF8 16) (hA8 5)), W.cg hF8 (fun o _ => hA8 o) (p2 36 101 (by decide) (by decide)) (p3 36 2 (by decide)), T'⟩
theorem v_goBy : po (e_Evening_goBy n P F A J) (fun r => ∃ g : cR Unit, e_Sleep_goTill n P F A J (F (P 32 4) 18) (P 32 4) 2 = some g ∧ r.2.1 = g.2.1 ∧ (∀ q k, ¬ (q = 2 ∧ k = 8) → ¬ (q = 32 ∧ k = 6) → r.2.2.1 q k = g.2.2.1 q k) ∧ r.2.2.1 2 8 = g.2.2.1 2 8 + 1 ∧ r.2.2.2.1 = g.2.2.2.1) := by
  unfold e_Evening_goBy
  refine po_bl (fun _ c1 => ?_)
  obtain rfl := (gg_chk c1).2.symm
  refine po_bl (fun _ c2 => ?_)
  obtain rfl := (gg_chk c2).2.symm
  refine po_bl (fun g hg => ?_)
  obtain ⟨u, P4, F5, A6, J7⟩ := g
  dsimp only
  refine po_bl (fun F8 h8 => ?_)
  have U8 := gg_cpf h8
  refine po_call w_stale ?_
  rintro ⟨u9, P9, F9, A9, J9⟩ ⟨w1, w2, w3⟩
  dsimp only at w1 w2 w3 ⊢
  exact po_some ⟨_, hg, w1, fun q k a b => (w2.2 q k b).trans (U8.2 q k a), (w2.2 2 8 (by decide)).trans U8.1, w3⟩
/-- a night, the evening ahead of it being kept -/
theorem p2_nrest (X : XR P F A Fm Am) (G : Gc P F A) (hn : 1500 ≤ n) : P2 ((c_chk 6 (P 0 8)).bind fun q6 => (e_House_worthOfAll n P F A J q6 2).bind fun v7 => (e_Evening_goBy n P F A J).bind fun (_, P9, F10, A11, J12) => (c_chk 6 (P9 0 8)).bind fun q13 => (e_House_worthOfAll n P9 F10 A11 J12 q13 2).bind fun v14 => some (v14 - v7, P9, F10, A11, J12)) (nrest2 m Fm Am Jm) (fun a b => a.1 = b.1 ∧ XR a.2.1 a.2.2.1 a.2.2.2.1 b.2.1 b.2.2.1) := by
  refine p2_bl (fun _ c6 => ?_)
  obtain rfl := (gg_chk c6).2.symm
  refine p2_bl (fun v7 h7 => ?_)
  intro a b ha hb
  obtain ⟨r, hr, ha⟩ := Option.bind_eq_some_iff.mp ha
  obtain ⟨g, hg, p1, p2, p3, p4⟩ := v_goBy r hr
  unfold nrest2 at hb
  obtain ⟨⟨u, F9, A10, J11⟩, ht, hb⟩ := Option.bind_eq_some_iff.mp hb
  obtain ⟨t1, cp⟩ := r_takes _ ht
  dsimp only at t1 cp hb
  obtain rfl : Fm = F9 := t1.symm
  obtain ⟨⟨v12, F13, A14, J15⟩, hw, hb⟩ := Option.bind_eq_some_iff.mp hb
  dsimp only at hb
  obtain ⟨N, B, s7, s8, s0⟩ := X.take cp
  rw [G.2.2.1] at hg
  obtain ⟨o1, -, m2, m3, m4, m5⟩ := (s_goTill G.k08 (by decide) G.1 G.2.2.2.1 G.2.2.2.2.1 G.2.2.2.1.2.2.2.2.2.2 (by omega)).po g hg
  have hsh : F 2 7 ≠ -1 := fun e => by rw [e] at s0; exact b7_m1 s0
  obtain ⟨⟨m0, m1, J0, J1, v0, v1, hv0, hv1, eb⟩, N2, B2, W2, D2⟩ := p2_wn (ex := True) N (by decide : c_kind 2 = 2) B X.2.2.2.1 (fun _ => ⟨s7, s8⟩) hsh (fun m' b' hb' => AR_exact N G.1 G.2.2.2.1 B s7 hb') rfl g _ hg hw
  dsimp only at hv1 eb N2 B2 D2
  have kt := kt_d_wholeNight KT.rfl' _ hw
  obtain ⟨k1, k2⟩ := kt
  dsimp only at k1 k2
  have e0 : v7 = v0 := p2_worthAll N (fun k k0 k1 => B.dn k0 k1) v7 v0 h7 hv0
  obtain ⟨u9, P9, F10, A11, J12⟩ := r
  dsimp only at p1 p2 p3 p4 ha
  have e98 : P9 0 8 = P 0 8 := by rw [p1]; exact o1 0 8 (by decide)
  have n2 : P 0 8 ≠ 2 := G.n2
  have n32 : P 0 8 ≠ 32 := fun e => absurd G.k08 (by rw [e]; decide)
  have f8 : ∀ k, F10 (P 0 8) k = g.2.2.1 (P 0 8) k := fun k => p2 _ k (fun e => n2 e.1) (fun e => n32 e.1)
  have N3 : NHx (P 0 8) F10 A11 F13 A14 := N2.fr f8 (fun o _ => by rw [p4]) rfl (fun _ _ _ => rfl)
  have B3 : SBx True (P 0 8) 2 F10 A11 A14 48 0 := B2.cg (f8 17) (f8 16) (by rw [p4]) (fun o _ _ => by rw [p4]) rfl
  obtain ⟨q13, c13, ha⟩ := Option.bind_eq_some_iff.mp ha
  obtain rfl := (gg_chk c13).2.symm
  obtain ⟨v14, h14, ha⟩ := Option.bind_eq_some_iff.mp ha
  rw [e98] at h14
  have e14 : v14 = v1 := p2_worthAll N3 (fun k k0 k1 => B3.dn k0 k1) v14 v1 h14 hv1
  obtain ⟨b1, b2, bc⟩ := r_night_104 (x2 := 0) (by decide) b hb
  obtain rfl := Option.some.inj ha
  have t47 : ∀ i, 0 ≤ i → i < 100 → ai b.2.2.1 47 i = ai A14 48 i := fun i i0 i1 => by
    have w := bc.2.1 i (by rw [i_0]; exact i0) i1
    rw [Int.zero_add] at w
    exact w
  refine ⟨?_, ?_⟩
  · show v14 - v7 = b.1
    rw [b1, eb, e0, e14]
  · refine X.gone (P' := P9) (F' := F10) (A' := A11) G e98 (fun r k h1 h2 h3 => (p2 r k (fun e => h1 e.1) h3).trans (m4 r k h2)) (fun r o h1 h2 h3 => by rw [p4]; exact m3 r o h2 h1 h3) (W2.cg f8 (fun o _ => by rw [p4]) (p2 36 101 (by decide) (by decide)) (by rw [p4])) (fun k a b' => by rw [b2]; exact k1 k a b') (fun q hq => (bc.1 q (by omega)).trans ((k2 q (by omega)).trans (cp.1 q (by omega)))) ?_
    refine ⟨fun k k0 k1 => ?_, fun k k0 k1 => ?_, fun k k0 k1 => ?_, fun k k0 k1 => ?_, ?_, ?_, ?_⟩
    · show ci A11 2 1 k = ai b.2.2.1 47 (6 + k)
      rw [t47 _ (by omega) (by omega)]
      exact B3.dn k0 k1
    · show ci A11 2 2 k = ai b.2.2.1 47 k ∧ 0 ≤ ci A11 2 2 k
      rw [t47 _ (by omega) (by omega)]
      exact B3.sf k0 k1
    · show ci A11 2 4 k = ai b.2.2.1 47 (72 + k)
      rw [t47 _ (by omega) (by omega)]
      exact B3.tl k0 k1
    · have c6 := N.ct.2.2.2.2.2
      show LQx (P 0 8) F A (ci A11 2 3 k) (ai b.2.2.1 47 (42 + k)) (ai b.2.2.1 47 (48 + k)) ∧ ci A11 2 5 k = ai b.2.2.1 47 (54 + k) ∧ ci A11 2 6 k = ai b.2.2.1 47 (60 + k) ∧ ci A11 2 7 k = ai b.2.2.1 47 (66 + k)
      rw [t47 _ (by omega) (by omega), t47 _ (by omega) (by omega), t47 _ (by omega) (by omega), t47 _ (by omega) (by omega), t47 _ (by omega) (by omega)]
      have f17 : ∀ k, F (P 0 8) k = F10 (P 0 8) k := fun k => ((f8 k).trans (m4 _ k (fun e => (k6ne G.k08) e.1))).symm
      have w := B3.mn k0 (by rw [← f17]; exact k1)
      exact ⟨w.1.cg (f17 16) (by rw [p4]; exact (m3 _ 5 (k6ne G.k08) n2 (fun _ => by decide)).symm), w.2.1, w.2.2.1, w.2.2.2 trivial⟩
    · show (F10 2 7).toInt = ai b.2.2.1 47 78
      rw [t47 _ (by decide) (by decide), p2 2 7 (by decide) (by decide)]
      exact (D2 trivial).1
    · show (F10 2 8).toInt = ai b.2.2.1 47 79
      rw [t47 _ (by decide) (by decide), p3]
      exact (D2 trivial).2
    · show B7 (F10 2 7)
      rw [p2 2 7 (by decide) (by decide), m4 2 7 (by decide)]
      exact s0
theorem p2_nightX (X : XR P F A Fm Am) (G : Gc P F A) (S : SAm Fm Am) (hn : 1500 ≤ n) : P2 (e_SleepWork_night n P F A J) (d_night m Fm Am Jm) (fun a b => a.1 = b.1 ∧ XR a.2.1 a.2.2.1 a.2.2.2.1 b.2.1 b.2.2.1) := by
  intro a b ha hb
  unfold e_SleepWork_night at ha
  obtain ⟨z, hz, ha⟩ := Option.bind_eq_some_iff.mp ha
  refine r_night (Q := fun b => a.1 = b.1 ∧ XR a.2.1 a.2.2.1 a.2.2.2.1 b.2.1 b.2.2.1) (SCx.r74 S) (fun n' F7 A' d hd e7 f7 hs => ?_) b hb
  obtain ⟨d', hd', pu⟩ := v_push G.1 z hz
  obtain ⟨-, G2, -⟩ := (s_push G).po z hz
  have e4 : F 4 2 = Fm 74 := X.2.1.2.1
  rw [e4] at hd'
  obtain rfl : d' = d := by omega
  have X2 := X.push G (by omega) pu e7 f7 hs
  obtain ⟨u, P2, F2, A2, J2⟩ := z
  intro b hb
  exact p2_nrest (J := J2) X2 G2 hn a b ha hb
end H9fh
end Qz163
section Qz164
/-! read, on both sides, with all that is shared -/
section H9fi
variable {n m : Nat} {h d : Nat} {l p q b e C B last : Int} {P P' : Nat → Nat → Nat} {F F' : Nat → Nat → Int32} {A A' : Nat → Nat → Nat → Int32} {J : Nat → Nat → Nat → Int64} {Fm Fm' : Nat → Int32} {Am Am' : Nat → Nat → Int32} {Jm : Nat → Nat → Int64}
/-- a live side that stays: its laws -/
theorem LSm.b5 (L : LSm l Am Am') (b0 : 50 * l ≤ b) (b1 : b < 50 * l + 50) : ai Am' 36 b = ai Am 36 b ∧ ai Am' 37 b = ai Am 37 b ∧ ai Am' 38 b = ai Am 38 b ∧ ai Am' 39 b = ai Am 39 b ∧ ai Am' 40 b = ai Am 40 b := ⟨L 36 b b0 b1, L 37 b b0 b1, L 38 b b0 b1, L 39 b b0 b1, L 40 b b0 b1⟩
theorem LSm.c2 (L : LSm l Am Am') : ∀ i, 420 * l ≤ i → i < 420 * l + 420 → ai Am' 42 i = ai Am 42 i ∧ ai Am' 43 i = ai Am 43 i := fun i a b => ⟨L 42 i a b, L 43 i a b⟩
theorem BRx.ls (h : BRx C d A Am p b q) (L : LSm l Am Am') (b0 : 50 * l ≤ b) (b1 : b < 50 * l + 50) (c0 : 420 * l ≤ ai Am 37 b) (c1 : ai Am 40 b ≤ 420 * l + 420) : BRx C d A Am' p b q := by
  obtain ⟨l1, l2, l3, t, z, s1, e1, s2, e2, k1, k2, s3, e3, hC, k3, e⟩ := h
  obtain ⟨r36, r37, r38, r39, r40⟩ := L.b5 b0 b1
  have fm := L.c2
  have g1 := s1.1.1
  have g2 := s2.1.1
  have g3 := s3.1.1
  unfold BRx
  rw [r36, r37, r38, r39, r40]
  exact ⟨l1, l2, l3, t, z, s1.fr (fun _ _ _ => ⟨rfl, rfl⟩) (fun i a b => fm i (by omega) (by omega)), e1, s2.fr (fun _ _ _ => ⟨rfl, rfl⟩) (fun i a b => fm i (by omega) (by omega)), e2, k1, k2, s3.fr (fun _ _ _ => ⟨rfl, rfl⟩) (fun i a b => fm i (by omega) (by omega)), e3, hC, k3, e⟩
theorem FNx.ls (h : FNx C d A Am p b e) (L : LSm l Am Am') (b0 : 50 * l ≤ b) (b1 : b < 50 * l + 50) (c0 : 420 * l ≤ ai Am 39 b) (c1 : ai Am 40 b ≤ 420 * l + 420) : FNx C d A Am' p b e := by
  obtain ⟨l1, t, z, s1, e1, hC, k3, e⟩ := h
  obtain ⟨r36, -, -, r39, r40⟩ := L.b5 b0 b1
  have fm := L.c2
  have g1 := s1.1.1
  unfold FNx
  rw [r36, r39, r40]
  exact ⟨l1, t, z, s1.fr (fun _ _ _ => ⟨rfl, rfl⟩) (fun i a b => fm i (by omega) (by omega)), e1, hC, k3, e⟩
theorem LPx.ls (L : LSm l Am Am') : ∀ {n : Nat} {p b q : Int}, LPx C d A Am n p b q → (∀ b', b ≤ b' → b' < b + n → 50 * l ≤ b' ∧ b' < 50 * l + 50 ∧ ai Am 40 b' ≤ 420 * l + 420 ∧ (ai Am 36 b' = 1 → 420 * l ≤ ai Am 37 b')) → LPx C d A Am' n p b q
  | 0, p, b, q, h, _ => h
  | n + 1, p, b, q, h, g => by
    obtain ⟨p1, h1, h2⟩ := h
    obtain ⟨g1, g2, g3, g4⟩ := g b (Int.le_refl _) (by omega)
    have z : ai Am 36 b = 1 := by
      obtain ⟨-, -, -, t, -⟩ := h1
      exact t
    exact ⟨p1, h1.ls L g1 g2 (g4 z) g3, LPx.ls L h2 (fun b' a c => g b' (by omega) (by omega))⟩
theorem LWx.ls (h : LWx C B d A Am p b last e) (L : LSm l Am Am') (g : ∀ b', b ≤ b' → b' < last → 50 * l ≤ b' ∧ b' < 50 * l + 50 ∧ 420 * l ≤ ai Am 39 b' ∧ ai Am 40 b' ≤ 420 * l + 420 ∧ (ai Am 36 b' = 1 → 420 * l ≤ ai Am 37 b')) : LWx C B d A Am' p b last e := by
  obtain ⟨p0, b0, hb, n, q, h1, h2, e1⟩ := h
  obtain ⟨g1, g2, g3, g4, -⟩ := g (b + n) (by omega) (by omega)
  exact ⟨p0, b0, hb, n, q, h1.ls L (fun b' a c => by
    obtain ⟨w1, w2, -, w4, w5⟩ := g b' a (by omega)
    exact ⟨w1, w2, w4, w5⟩), h2.ls L g1 g2 g3 g4, e1⟩
/-- the house in use, when the reference's other side alone has changed -/
theorem NHx.ls (H : NHx h F A Fm Am) (S : SAm Fm Am) (e18 : Fm' 18 = Fm 18) (L : LSm (Fm 18).toInt Am Am') (h40 : ∀ b, 0 ≤ b → ai Am' 40 b ≤ 840) : NHx h F A Fm' Am' := by
  obtain ⟨h1, h2, h3, h4, h5, h6, h7, h8, h10, h9⟩ := H
  have hm : (F h 17).toInt = ai Am 29 (Fm 18).toInt := by
    have e : F h 17 = Am 29 (Fm 18).toInt.toNat := h1.1 3 (by decide)
    rw [e]
    rfl
  have one : ∀ {j : Nat}, sgm j = 1 → ai Am' j (Fm 18).toInt = ai Am j (Fm 18).toInt := fun {j} hj => L j (Fm 18).toInt (by rw [hj]; omega) (by rw [hj]; omega)
  have six : ∀ {j : Nat} {k : Int}, sgm j = 6 → 0 ≤ k → k < 6 → ai Am' j (6 * (Fm 18).toInt + k) = ai Am j (6 * (Fm 18).toInt + k) := fun {j k} hj k0 k1 => L j _ (by rw [hj]; omega) (by rw [hj]; omega)
  have twl : ∀ {j : Nat} {k : Int}, sgm j = 12 → 0 ≤ k → k < 12 → ai Am' j (12 * (Fm 18).toInt + k) = ai Am j (12 * (Fm 18).toInt + k) := fun {j k} hj k0 k1 => L j _ (by rw [hj]; omega) (by rw [hj]; omega)
  have stp : ∀ {j : Nat} {t u : Int}, sgm j = 36 → 0 ≤ t → t < 6 → 0 ≤ u → u < 6 → ai Am' j (6 * (6 * (Fm 18).toInt + t) + u) = ai Am j (6 * (6 * (Fm 18).toInt + t) + u) := fun {j t u} hj t0 t1 u0 u1 => L j _ (by rw [hj]; omega) (by rw [hj]; omega)
  refine ⟨h1.ls S e18 L h7.2.2.2.1.2, ?_, ?_, h4, by rw [e18]; exact h5, h6, h7, h8, h40, h9⟩
  · obtain ⟨d1, t1, r1, m1, n1⟩ := h2
    unfold HWx RWs RWn
    rw [e18]
    refine ⟨fun k k0 k1 => ?_, fun k k0 k1 => ?_, fun t u t0 t1' u0 u1 => ?_, fun k k0 k1 => ?_, ?_⟩
    · rw [twl (j := 13) rfl k0 (by omega), twl (j := 14) rfl k0 (by omega), twl (j := 15) rfl k0 (by omega)]
      exact d1 k k0 k1
    · rw [six (j := 20) rfl k0 (by omega)]
      exact t1 k k0 k1
    · have u6 := (h6 t t0).2.1
      rw [stp (j := 23) rfl t0 (by omega) u0 (by omega), stp (j := 24) rfl t0 (by omega) u0 (by omega), stp (j := 25) rfl t0 (by omega) u0 (by omega), stp (j := 26) rfl t0 (by omega) u0 (by omega), stp (j := 27) rfl t0 (by omega) u0 (by omega), stp (j := 28) rfl t0 (by omega) u0 (by omega)]
      exact r1 t u t0 t1' u0 u1
    · rw [six (j := 30) rfl k0 (by omega)]
      exact m1 k k0 k1
    · unfold RWn at n1
      rw [n1]
      exact i_ext (one (j := 41) rfl).symm
  · intro k k0 k1
    rw [e18, six (j := 34) rfl k0 (by omega), six (j := 35) rfl k0 (by omega)]
    rcases h3 k k0 k1 with w | ⟨C, B, e, w, le⟩
    · exact .inl w
    · exact .inr ⟨C, B, e, w.ls L (fun b' a c => S.2.2.2.1 k k0 (by rw [← hm]; exact k1) b' a c), le⟩
theorem v_enter {r1 : Nat} : po (e_Evening_enter P F A J r1) (fun z => z.2.1 0 8 = P 0 8 ∧ (∀ r k, ¬ (r = 36 ∧ k = 101) → ¬ (r = 32 ∧ k = 6) → z.2.2.1 r k = F r k) ∧ z.2.2.1 36 101 = -1 ∧ z.2.2.2.1 = A) := by
  unfold e_Evening_enter
  refine po_bl (fun P1 h1 => ?_)
  have u1 := gg_cpp h1
  have dr : po (e_Ways_drop P1 F A J) (fun z => z.2.1 = P1 ∧ FUm F z.2.2.1 36 101 (-1) ∧ z.2.2.2.1 = A) := by
    unfold e_Ways_drop
    exact po_bl (fun F1 h1 => po_some ⟨rfl, gg_cpf h1, rfl⟩)
  refine po_call dr ?_
  rintro ⟨_, P3, F4, A5, J6⟩ ⟨d1, d2, d3⟩
  dsimp only at d1 d2 d3 ⊢
  refine po_call w_stale ?_
  rintro ⟨_, P8, F9, A10, J11⟩ ⟨w1, w2, w3⟩
  dsimp only at w1 w2 w3 ⊢
  exact po_some ⟨by show P8 0 8 = P 0 8; rw [w1, d1]; exact u1.2 0 8 (by decide), fun r k a b => (w2.2 r k b).trans (d2.2 r k a), (w2.2 36 101 (by decide)).trans d2.1, w3.trans d3⟩
/-- the house that was read comes into use -/
theorem v_move : po (e_SleepWork_moveIn P F A J) (fun z => z.2.1 0 8 = P 0 9 ∧ (∀ r k, r ≠ 2 → ¬ (r = 4 ∧ k = 2) → ¬ (r = 25 ∧ k = 2) → ¬ (r = 0 ∧ k = 10) → ¬ (r = 36 ∧ k = 101) → ¬ (r = 32 ∧ k = 6) → z.2.2.1 r k = F r k) ∧ (∀ r o, r ≠ 2 → z.2.2.2.1 r o = A r o) ∧ (z.2.2.1 25 2 = 0 ∧ z.2.2.1 36 101 = -1) ∧ SE (F 3) (z.2.2.1 2) (A 3) (z.2.2.2.1 2)) := by
  unfold e_SleepWork_moveIn
  refine po_bl (fun q1 c1 => ?_)
  obtain rfl := (gg_chk c1).2.symm
  refine po_bl (fun q2 c2 => ?_)
  obtain rfl := (gg_chk c2).2.symm
  refine po_bl (fun P3 h3 => po_bl (fun P4 h4 => ?_))
  have u3 := gg_cpp h3
  have u4 := gg_cpp h4
  refine po_call (v_copy (r0 := 2) (r1 := 3) (by decide)) ?_
  rintro ⟨_, P6, F7, A8, J9⟩ ⟨g1, g2, g3, g4⟩
  dsimp only at g1 g2 g3 g4 ⊢
  refine po_bl (fun Fa ha => po_bl (fun Fb hb => po_bl (fun Fc hc => po_bl (fun q13 c13 => ?_))))
  have ua := gg_cpf ha
  have ub := gg_cpf hb
  have uc := gg_cpf hc
  refine po_call v_enter ?_
  rintro ⟨_, P15, F16, A17, J18⟩ ⟨e1, e2, e3, e4⟩
  dsimp only at e1 e2 e3 e4 ⊢
  have f2 : ∀ k, F16 2 k = F7 2 k := fun k => (e2 2 k (by simp) (by simp)).trans ((uc.2 2 k (by simp)).trans ((ub.2 2 k (by simp)).trans (ua.2 2 k (by simp))))
  refine po_some ⟨?_, fun r k h2 h4 h25 h0 h36 h32 => (e2 r k h36 h32).trans ((uc.2 r k h0).trans ((ub.2 r k h25).trans ((ua.2 r k h4).trans (g2 r k h2)))), fun r o h2 => by rw [e4]; exact g3 r o h2, ⟨(e2 25 2 (by decide) (by decide)).trans ((uc.2 25 2 (by decide)).trans ub.1), e3⟩, g4.tr (.of f2 (fun o => by rw [e4]))⟩
  show P15 0 8 = P 0 9
  rw [e1, g1, u4.2 0 8 (by decide)]
  exact u3.1
theorem t_readText (hk : c_kind d = 6) (R : Rc F A) (hn : 6000 ≤ n) : ok (e_Reader_readText n P F A J d 3) (fun r => (∀ r' k, r' ≠ 37 → r.2.1 r' k = P r' k) ∧ RTc r.2.1 d F A r) := by
  unfold e_Reader_readText
  refine ok_call (s_open hk R (by omega)) ?_
  rintro ⟨u, P2, F2, A2, J2⟩ ⟨oP, x5, x6, V⟩
  dsimp only at oP x5 x6 V ⊢
  refine ok_mono (s_readText_10 x5 x6 hk V (by decide) (by rw [i_0]; omega)) (fun r hr => ?_)
  have e := hr.1
  rw [e]
  exact ⟨oP, hr⟩
theorem p2_readX {JW JK : Nat → Int64} (hW : WKx JW JK) (X : XR P F A Fm Am) (G : Gc P F A) (S : SAm Fm Am) (tp : TPx F A Fm Am) (jw : J 37 6 = JW) (jk : Jm 7 = JK) (hn : 6000 ≤ n) (hm : 12100 ≤ m) : P2 (e_SleepWork_read n P F A J) (d_read m Fm Am Jm) (fun a b => XR a.2.1 a.2.2.1 a.2.2.2.1 b.2.1 b.2.2.1) := by
  intro a b ha hb
  have cy := (p2_cread6 hW G S tp ⟨X.1.1, X.2.1⟩ jw jk hn hm a b ha hb).2
  have Ga := ((s_cRead G hn).po a ha).1.1
  have xb := (x_read S hm).po b hb
  have Sb : SAm b.2.1 b.2.2.1 := xb.1.1
  have xl := xb.2
  have hk := G.k09
  have q9 : ∀ {r : Nat}, c_kind r ≠ 6 → r ≠ P 0 9 := fun h e => h (by rw [e]; exact hk)
  have hne : P 0 8 ≠ P 0 9 := by rcases G.2.1 with h | h <;> (rw [h.1, h.2]; decide)
  have lv := G.live
  have dr : P 0 9 = 27 ∨ P 0 9 = 28 := by rcases G.2.1 with h | h <;> omega
  unfold e_SleepWork_read at ha
  obtain ⟨q1, c1, ha⟩ := Option.bind_eq_some_iff.mp ha
  obtain rfl := (gg_chk c1).2.symm
  obtain ⟨z, hz, ha⟩ := Option.bind_eq_some_iff.mp ha
  obtain ⟨r1, -, -, r4, r5⟩ := p2_read hW hk G.1 S tp jw jk hn hm z b hz hb
  obtain ⟨oP, -, t2, t3, t4, t5⟩ := (t_readText hk G.1 hn).po z hz
  have yy := y_readText G.1 hk hn z hz
  obtain ⟨v2, P3, F4, A5, J6⟩ := z
  dsimp only at r1 r4 r5 oP t2 t3 t4 t5 yy ha
  obtain ⟨v7, h7, ha⟩ := Option.bind_eq_some_iff.mp ha
  obtain ⟨F8, h8, ha⟩ := Option.bind_eq_some_iff.mp ha
  obtain ⟨F9, h9, ha⟩ := Option.bind_eq_some_iff.mp ha
  have u8 := gg_cpf h8
  have u9 := gg_cpf h9
  have f9 : ∀ r k, ¬ (r = 0 ∧ k = 11) → ¬ (r = 1 ∧ k = 1) → F9 r k = F4 r k := fun r k a b => (u9.2 r k b).trans (u8.2 r k a)
  cases hc : g_cnd .ne v2 0 with
  | true =>
    rw [hc] at ha
    obtain rfl := Option.some.inj ha
    rw [i_ne, i_0] at hc
    obtain ⟨e18, e74, e77, L, q45⟩ := r5 hc
    have e8 : P3 0 8 = P 0 8 := oP 0 8 (by decide)
    have fF : ∀ r k, r ≠ 37 → r ≠ P 0 9 → r ≠ 3 → r ≠ 0 → r ≠ 1 → F9 r k = F r k := fun r k a b c d e => (f9 r k (fun h => d h.1) (fun h => e h.1)).trans (t3 r k a b c)
    have hF8 : ∀ k, F9 (P 0 8) k = F (P 0 8) k := fun k => fF _ k (by omega) hne (by omega) (by omega) (by omega)
    have hA8 : ∀ o, A5 (P 0 8) o = A (P 0 8) o := fun o => t4 _ o (by omega) hne (by omega)
    have hS : SOK (SS (P 0 8) F A) := SS.ok X.1.ct.2.2.2.2.2
    have sr : ∀ r : Nat, r ≠ 37 → r ≠ P 0 9 → r ≠ 3 → r ≠ 0 → r ≠ 1 → SE (F r) (F9 r) (A r) (A5 r) := fun r a b c d e => .of (fun k => fF r k a b c d e) (fun o => t4 r o a b c)
    have h40 : ∀ b', 0 ≤ b' → ai b.2.2.1 40 b' ≤ 840 := fun b' b0 => by
      have w : 0 ≤ ai b.2.2.1 40 b' ∧ ai b.2.2.1 40 b' ≤ 840 := Sb.2.1 40 b' b0
      exact w.2
    have Y := X.2.2.1
    have Y' : YS (SS (P 0 8) F A) F9 A5 b.2.1 b.2.2.1 := by
      refine ⟨Y.1.cg hS (sr 2 (by decide) (by omega) (by decide) (by decide) (by decide)) (fun i _ _ => by unfold ai; rw [q45 47 (by decide)]), ?_, Y.2.2.cg hS (fun r r0 r1 => sr r (by omega) (by omega) (by omega) (by omega) (by omega)) (q45 61 (by decide)) (q45 62 (by decide))⟩
      rw [e74]
      exact Y.2.1.cg hS (by rw [fF 4 1 (by decide) (by omega) (by decide) (by decide) (by decide)]) (fun r r0 r1 => sr r (by omega) (by omega) (by omega) (by omega) (by omega)) (q45 57 (by decide))
    show XR P3 F9 A5 b.2.1 b.2.2.1
    unfold XR
    rw [e8]
    refine ⟨(X.1.ls S e18 L h40).fr hF8 (fun o _ => hA8 o) rfl (fun _ _ _ => rfl), cy.2, Y'.map (fun f a g s => s.hs (hF8 17) (hF8 16) (hA8 5)), X.2.2.2.1.cg hF8 (fun o _ => hA8 o) (fF 36 101 (by decide) (by omega) (by decide) (by decide) (by decide)) (t4 36 2 (by decide) (by omega) (by decide)), fun i i0 i1 => ?_⟩
    rw [fF 25 2 (by decide) (by omega) (by decide) (by decide) (by decide)] at i1
    rw [ci_fr (t4 25 1 (by decide) (by omega) (by decide)), ci_fr (t4 25 2 (by decide) (by omega) (by decide)), ai_fr (q45 58 (by decide)), ai_fr (q45 59 (by decide)), ai_fr (q45 60 (by decide))]
    exact X.2.2.2.2 i i0 i1
  | false =>
    rw [hc] at ha
    rw [i_nne, i_0] at hc
    obtain ⟨w, hw, ha⟩ := Option.bind_eq_some_iff.mp ha
    obtain ⟨m1, m2, m3, ⟨m4, m5⟩, m6⟩ := v_move w hw
    obtain ⟨uw, P12, F13, A14, J15⟩ := w
    dsimp only at m1 m2 m3 m4 m5 m6
    obtain rfl := Option.some.inj ha
    obtain ⟨h1, ⟨h2, h3, sv⟩, e74, e77, e61⟩ := r4 hc
    have EY := yy.resolve_left (fun h => h hc)
    have xl7 := xl.resolve_left (fun h => h (by rw [← r1]; exact hc))
    have hP : P12 0 8 = P 0 9 := m1.trans (oP 0 9 (by decide))
    dsimp only at cy Ga ⊢
    have hF13 : ∀ k, F13 (P 0 9) k = F4 (P 0 9) k := fun k => (m2 _ k (by omega) (by omega) (by omega) (by omega) (by omega) (by omega)).trans (f9 _ k (by omega) (by omega))
    have hA14 : ∀ o, A14 (P 0 9) o = A5 (P 0 9) o := fun o => m3 _ o (by omega)
    have R : Rc F13 A14 := Ga.1
    have HV : HVc F13 A14 (P 0 9) := by have := Ga.2.2.2.1; rw [hP] at this; exact this
    have LV : LVc A14 (P 0 9) 2 := by have := Ga.2.2.2.2.1; rw [hP] at this; exact this
    have k13 : 0 ≤ (F13 (P 0 9) 13).toInt ∧ (F13 (P 0 9) 13).toInt ≤ 8 := by have := R.1 (P 0 9) 13; rw [hk] at this; exact this
    have k14 : 0 ≤ (F13 (P 0 9) 14).toInt ∧ (F13 (P 0 9) 14).toInt ≤ 12 := by have := R.1 (P 0 9) 14; rw [hk] at this; exact this
    have k15 : 0 ≤ (F13 (P 0 9) 15).toInt ∧ (F13 (P 0 9) 15).toInt ≤ 6 := by have := R.1 (P 0 9) 15; rw [hk] at this; exact this
    have k16 : 0 ≤ (F13 (P 0 9) 16).toInt ∧ (F13 (P 0 9) 16).toInt ≤ 6 := by have := R.1 (P 0 9) 16; rw [hk] at this; exact this
    have k17 : 0 ≤ (F13 (P 0 9) 17).toInt ∧ (F13 (P 0 9) 17).toInt ≤ 6 := by have := R.1 (P 0 9) 17; rw [hk] at this; exact this
    have k1304 : 0 ≤ (F13 (P 0 9) 1304).toInt ∧ (F13 (P 0 9) 1304).toInt ≤ 400 := by have := R.1 (P 0 9) 1304; rw [hk] at this; exact this
    have s5 : ∀ t, 0 ≤ t → 0 ≤ ci A14 (P 0 9) 5 t ∧ ci A14 (P 0 9) 5 t ≤ 6 ∧ ((F13 (P 0 9) 16).toInt ≤ t → t < 6 → ci A14 (P 0 9) 5 t = 0) := fun t t0 => by
      have w := R.2 (P 0 9) 5 t t0
      rw [hk] at w
      have w : 0 ≤ ci A14 (P 0 9) 5 t ∧ ci A14 (P 0 9) 5 t ≤ 6 := w
      refine ⟨w.1, w.2, fun a b => ?_⟩
      rw [ci_fr (hA14 5)]
      rw [hF13 16] at a
      exact (t5.resolve_left (fun h => h hc)).2 t a b
    have HY : HYc F4 A5 (P 0 9) := ⟨EY.1, fun t t0 t1 => (EY.2.1 t t0 t1).1, fun t u t0 t1 u0 u1 => EY.2.2.1 t u t0 (by rw [← hF13 16] at t1; omega) u0 u1, EY.2.2.2.1, by rw [← hF13]; exact HV.2.2.2.2.2⟩
    have h40 : ∀ b', 0 ≤ b' → ai b.2.2.1 40 b' ≤ 840 := fun b' b0 => by
      have w : 0 ≤ ai b.2.2.1 40 b' ∧ ai b.2.2.1 40 b' ≤ 840 := Sb.2.1 40 b' b0
      exact w.2
    have N : NHx (P 0 9) F13 A14 b.2.1 b.2.2.1 := ⟨h1.fr hF13 (hA14 5) rfl (fun _ _ _ => rfl), h2.fr hF13 (fun o _ => hA14 o) rfl (fun _ _ _ => rfl), h3.fr hF13 (fun o _ => hA14 o) rfl (fun _ _ _ => rfl), HY.cg hF13 (fun o _ => hA14 o), Sb.1 18, s5, ⟨k13, k14, k15, k16, k17⟩, k1304.2, h40, hk⟩
    have f3 : ∀ k, F9 3 k = F4 3 k := fun k => f9 3 k (by simp) (by simp)
    have s3 : SS (P 0 9) F13 A14 (F9 3) (A5 3) (fun i => ai b.2.2.1 47 i) := by
      obtain ⟨w1, w2, w3, w4, w5, w6⟩ := sv
      simp only [Int.zero_add] at w1 w2 w3 w4 w5 w6
      refine ⟨w1, fun k k0 k1 => ⟨w2 k k0 k1, EY.2.2.2.2.1 k k0 k1⟩, w3, fun m m0 m1 => ?_, by rw [f3]; exact w5, by rw [f3]; exact w6, by rw [f3]; exact EY.2.2.2.2.2⟩
      obtain ⟨lf, w5', w6', w7'⟩ := w4 m m0 (by rw [← hF13]; exact m1)
      refine ⟨?_, w5', w6', w7'⟩
      show LQx (P 0 9) F13 A14 (A5 3 3 m.toNat).toInt (ai b.2.2.1 47 (42 + m)) (ai b.2.2.1 47 (48 + m))
      have hm17 := N.men
      have ht16 := N.tks
      have xm := xl7 m m0 (by omega)
      rcases lf with ⟨a1, a2, a3⟩ | a1
      · exact .inl ⟨by rw [a1]; decide, by unfold ai; rw [a2]; decide, by unfold ai; rw [a3]; decide⟩
      · have l2 := LV m m0 (by omega)
        have e3 : ci A14 2 3 m = (A5 3 3 m.toNat).toInt := by
          unfold ci
          rw [m6.2.2.2 3 m.toNat (by decide) (by decide) (by omega)]
        rw [e3] at l2
        rcases xm with x0 | ⟨x0, x1⟩
        · obtain ⟨v1, v2, v3, v4⟩ := Sb.2.2.2.2.1 m m0 (by omega) x0
          have t1 : ai b.2.2.1 47 (42 + m) < (F13 (P 0 9) 16).toInt := by omega
          have es := N.stp x0 t1
          have s6 := N.s6 x0
          have hx : -1 ≤ ai b.2.2.1 47 (42 + m) ∧ ai b.2.2.1 47 (42 + m) ≤ 1000 := by omega
          have hy : -1 ≤ ai b.2.2.1 47 (48 + m) ∧ ai b.2.2.1 47 (48 + m) ≤ 1000 := by omega
          refine .inr ⟨x0, t1, v3, by omega, ?_⟩
          rw [a1]
          exact cx6 hx hy
        · have hx : -1 ≤ ai b.2.2.1 47 (42 + m) ∧ ai b.2.2.1 47 (42 + m) ≤ 1000 := by omega
          have hy : -1 ≤ ai b.2.2.1 47 (48 + m) ∧ ai b.2.2.1 47 (48 + m) ≤ 1000 := by omega
          have aT : (A5 3 3 m.toNat).toInt = ai b.2.2.1 47 (42 + m) * 6 + ai b.2.2.1 47 (48 + m) := by
            rw [a1]
            exact cx6 hx hy
          rcases l2 with l2 | ⟨l2, -, -⟩
          · omega
          · omega
    have Y : YS (SS (P 0 9) F13 A14) F13 A14 b.2.1 b.2.2.1 := by
      refine ⟨SS.ok k17.2 _ _ _ _ _ _ m6 (fun _ _ _ => rfl) s3, fun u u0 u1 => absurd u1 (by omega), fun s hs hb' => ?_⟩
      have w := e61 (s : Int) (by omega) (by omega)
      unfold ai at w
      rw [Int.toNat_natCast] at w
      exact absurd (i_ext (w.trans i_0.symm)) hb'
    show XR P12 F13 A14 b.2.1 b.2.2.1
    unfold XR
    rw [hP]
    exact ⟨N, cy.2, Y, .inl m5, fun i i0 i1 => absurd i1 (by rw [m4, i_0]; omega)⟩
end H9fi
end Qz164
section Qz165
/-! what the tape's calls and bars leave of all that is shared (frames printed by wip/frames.py with wip/nt/rules.g) -/
section H9fj
variable {P0 P P' : Nat → Nat → Nat} {F0 F F' : Nat → Nat → Int32} {A0 A A' : Nat → Nat → Nat → Int32} {Fm Fm' : Nat → Int32} {Am Am' : Nat → Nat → Int32}
/-- the tape alone has changed -/
def TGx (P0 : Nat → Nat → Nat) (F0 : Nat → Nat → Int32) (A0 : Nat → Nat → Nat → Int32) (P : Nat → Nat → Nat) (F : Nat → Nat → Int32) (A : Nat → Nat → Nat → Int32) : Prop := P = P0 ∧ (∀ r k, r ≠ 1 → F r k = F0 r k) ∧ ∀ r o, r ≠ 1 → A r o = A0 r o
theorem TGx.rfl' : TGx P F A P F A := ⟨rfl, fun _ _ _ => rfl, fun _ _ _ => rfl⟩
theorem tg_pf {γ : Type} {k : Nat} {x : Int32} {g : (Nat → Nat → Int32) → Option γ} {Q : γ → Prop} (h : TGx P0 F0 A0 P F A) (kk : ∀ F', TGx P0 F0 A0 P F' A → po (g F') Q) : po ((c_pf F 1 k x).bind g) Q :=
  po_bl (fun F' e => kk F' ⟨h.1, fun r k hr => ((gg_cpf e).2 r k (fun e => hr e.1)).trans (h.2.1 r k hr), h.2.2⟩)
theorem tg_st {γ : Type} {o n : Nat} {i x : Int32} {g : (Nat → Nat → Nat → Int32) → Option γ} {Q : γ → Prop} (h : TGx P0 F0 A0 P F A) (kk : ∀ A', TGx P0 F0 A0 P F A' → po (g A') Q) : po ((c_st A 1 o n i x).bind g) Q :=
  po_bl (fun A' e => kk A' ⟨h.1, h.2.1, fun r o hr => ((gg_cst e).2.2.2.2 r o (fun e => hr e.1)).trans (h.2.2 r o hr)⟩)
theorem tg_e_Tape_addWord_3   : ∀ {n : Nat} {P : Nat → Nat → Nat} {F : Nat → Nat → Int32} {A : Nat → Nat → Nat → Int32} {J : Nat → Nat → Nat → Int64} {x1 : Int32} {x2 : Int32}, TGx P0 F0 A0 P F A → po (e_Tape_addWord_3  n P F A J x1 x2) (fun r => TGx P0 F0 A0 r.2.1 r.2.2.1 r.2.2.2.1) := by
  intro n
  induction n with
  | zero => intro P F A J x1 x2 _ r hr; cases hr
  | succ n ih =>
    intro P F A J x1 x2 h
    unfold e_Tape_addWord_3
    repeat' (first
      | with_reducible exact po_some (by assumption)
      | (with_reducible refine tg_pf (by assumption) ?_; intro _ _)
      | (with_reducible refine tg_st (by assumption) ?_; intro _ _)
      | with_reducible exact ih (by assumption)
      | (with_reducible refine po_call (ih (by assumption)) ?_; rintro ⟨_, _, _, _, _⟩ _; try dsimp only)
      | (intros; with_reducible exact ih (by assumption))
      | with_reducible refine po_cond (fun _ => ?_) (fun _ => ?_)
      | with_reducible refine po_bind_cond (fun _ => ?_) (fun _ => ?_)
      | with_reducible refine po_bl (fun _ _ => ?_))
theorem tg_e_Tape_addWord {n : Nat} {P : Nat → Nat → Nat} {F : Nat → Nat → Int32} {A : Nat → Nat → Nat → Int32} {J : Nat → Nat → Nat → Int64} {x1 : Int32}  (h : TGx P0 F0 A0 P F A) : po (e_Tape_addWord n P F A J x1) (fun r => TGx P0 F0 A0 r.2.1 r.2.2.1 r.2.2.2.1) := by
  unfold e_Tape_addWord
  repeat' (first
    | with_reducible exact po_some (by assumption)
    | (with_reducible refine tg_pf (by assumption) ?_; intro _ _)
    | (with_reducible refine tg_st (by assumption) ?_; intro _ _)
    | with_reducible exact tg_e_Tape_addWord_3 (by assumption)
    | (with_reducible refine po_call (tg_e_Tape_addWord_3 (by assumption)) ?_; rintro ⟨_, _, _, _, _⟩ _; try dsimp only)
    | with_reducible refine po_cond (fun _ => ?_) (fun _ => ?_)
    | with_reducible refine po_bind_cond (fun _ => ?_) (fun _ => ?_)
    | with_reducible refine po_bl (fun _ _ => ?_))
theorem tg_e_SleepWork_feed {n : Nat} {P : Nat → Nat → Nat} {F : Nat → Nat → Int32} {A : Nat → Nat → Nat → Int32} {J : Nat → Nat → Nat → Int64} {x1 : Int32} {x2 : Int32} {x3 : Int32} {x4 : Int32} {x5 : Int32}  (h : TGx P0 F0 A0 P F A) : po (e_SleepWork_feed n P F A J x1 x2 x3 x4 x5) (fun r => TGx P0 F0 A0 r.2.1 r.2.2.1 r.2.2.2.1) := by
  unfold e_SleepWork_feed
  repeat' (first
    | with_reducible exact po_some (by assumption)
    | (with_reducible refine tg_pf (by assumption) ?_; intro _ _)
    | (with_reducible refine tg_st (by assumption) ?_; intro _ _)
    | with_reducible exact tg_e_Tape_addWord (by assumption)
    | (with_reducible refine po_call (tg_e_Tape_addWord (by assumption)) ?_; rintro ⟨_, _, _, _, _⟩ _; try dsimp only)
    | with_reducible refine po_cond (fun _ => ?_) (fun _ => ?_)
    | with_reducible refine po_bind_cond (fun _ => ?_) (fun _ => ?_)
    | with_reducible refine po_bl (fun _ _ => ?_))
theorem tg_e_SleepWork_back {P : Nat → Nat → Nat} {F : Nat → Nat → Int32} {A : Nat → Nat → Nat → Int32} {J : Nat → Nat → Nat → Int64} {x1 : Int32}  (h : TGx P0 F0 A0 P F A) : po (e_SleepWork_back P F A J x1) (fun r => TGx P0 F0 A0 r.2.1 r.2.2.1 r.2.2.2.1) := by
  unfold e_SleepWork_back
  repeat' (first
    | with_reducible exact po_some (by assumption)
    | (with_reducible refine tg_pf (by assumption) ?_; intro _ _)
    | (with_reducible refine tg_st (by assumption) ?_; intro _ _)
    | with_reducible refine po_cond (fun _ => ?_) (fun _ => ?_)
    | with_reducible refine po_bind_cond (fun _ => ?_) (fun _ => ?_)
    | with_reducible refine po_bl (fun _ _ => ?_))
/-- all that is shared stays, whatever comes onto the tapes -/
theorem XR.tape (X : XR P F A Fm Am) (G : Gc P F A) (g : TGx P F A P' F' A') (e : ∀ q, q ≠ 2 → Fm' q = Fm q) (m : ∀ q, q ≠ 1 → Am' q = Am q) : XR P' F' A' Fm' Am' := by
  obtain ⟨N, C, Y, W, T⟩ := X
  obtain ⟨rfl, hF, hA⟩ := g
  have n1 : P' 0 8 ≠ 1 := fun e => absurd G.k08 (by rw [e]; decide)
  have hF8 : ∀ k, F' (P' 0 8) k = F (P' 0 8) k := fun k => hF _ k n1
  have hA8 : ∀ o, A' (P' 0 8) o = A (P' 0 8) o := fun o => hA _ o n1
  have hS : SOK (SS (P' 0 8) F A) := SS.ok N.ct.2.2.2.2.2
  have sr : ∀ r : Nat, r ≠ 1 → SE (F r) (F' r) (A r) (A' r) := fun r h1 => .of (fun k => hF r k h1) (fun o => hA r o h1)
  have Y' : YS (SS (P' 0 8) F A) F' A' Fm' Am' := by
    refine ⟨Y.1.cg hS (sr 2 (by decide)) (fun i _ _ => by unfold ai; rw [m 47 (by decide)]), ?_, Y.2.2.cg hS (fun r r0 r1 => sr r (by omega)) (m 61 (by decide)) (m 62 (by decide))⟩
    rw [e 74 (by decide)]
    exact Y.2.1.cg hS (by rw [hF 4 1 (by decide)]) (fun r r0 r1 => sr r (by omega)) (m 57 (by decide))
  refine ⟨N.fr hF8 (fun o _ => hA8 o) (e 18 (by decide)) (fun q a b => m q (by omega)), ⟨by rw [hF 25 2 (by decide), e 77 (by decide)]; exact C.1, by rw [hF 4 2 (by decide), e 74 (by decide)]; exact C.2.1, fun s hs => by rw [hF 0 10 (by decide), m 61 (by decide)]; exact C.2.2 s hs⟩, Y'.map (fun f a g s => s.hs (hF8 17) (hF8 16) (hA8 5)), W.cg hF8 (fun o _ => hA8 o) (hF 36 101 (by decide)) (hA 36 2 (by decide)), fun i i0 i1 => ?_⟩
  rw [hF 25 2 (by decide)] at i1
  rw [ci_fr (hA 25 1 (by decide)), ci_fr (hA 25 2 (by decide)), ai_fr (m 58 (by decide)), ai_fr (m 59 (by decide)), ai_fr (m 60 (by decide))]
  exact T i i0 i1
/-- what a try of the reference leaves, from the lists of what it writes -/
theorem KT.of {Lf La : List Nat} (fF : ∀ q, q ∉ Lf → Fm' q = Fm q) (fA : ∀ q, q ∉ La → Am' q = Am q) (cF : Lf.all (fun q => decide (q = 63 ∨ q = 76)) = true) (cA : La.all (fun q => decide (45 ≤ q ∧ q ≠ 47 ∧ q < 57)) = true) : KT Fm Am Fm' Am' := by
  refine ⟨fun q h1 h2 => fF q (fun h => ?_), fun q hq => fA q (fun h => ?_)⟩
  · have := of_decide_eq_true (List.all_eq_true.mp cF q h)
    omega
  · have := of_decide_eq_true (List.all_eq_true.mp cA q h)
    omega
/-- what bars leaves of the class, but for its row of seen arrivals -/
def BW (P0 : Nat → Nat → Nat) (F0 : Nat → Nat → Int32) (A0 : Nat → Nat → Nat → Int32) (F : Nat → Nat → Int32) (A : Nat → Nat → Nat → Int32) : Prop := SFr F0 F A0 A ∧ (∀ k, F 4 k = F0 4 k) ∧ F 0 10 = F0 0 10 ∧ (c_kind (P0 0 8) = 6 → WCx (P0 0 8) F0 A0 → WCx (P0 0 8) F A)
theorem BW.rfl' : BW P F A F A := ⟨SFr.rfl', fun _ => rfl, rfl, fun _ w => w⟩
theorem BW.q (b : BW P0 F0 A0 F A) (e8 : P 0 8 = P0 0 8) (q : QFc P P' F F' A A') : BW P0 F0 A0 F' A' := ⟨b.1.tr q.2.1, fun k => (q.1.2.2.2.2.1 k).trans (b.2.1 k), q.1.2.2.2.2.2.1.trans b.2.2.1, fun hk w => by
  have z := q.2.2
  rw [e8] at z
  exact z hk (b.2.2.2 hk w)⟩
theorem XR.bars (X : XR P F A Fm Am) (G : Gc P F A) (hk : HK P F A P' F' A') (b : BW P F A F' A') : XR P' F' A' Fm Am := by
  obtain ⟨N, C, Y, W, T⟩ := X
  have e8 : P' 0 8 = P 0 8 := hk.1
  have hF := (hk.2 _ G.live).1
  have hA := (hk.2 _ G.live).2
  have hS : SOK (SS (P 0 8) F A) := SS.ok N.ct.2.2.2.2.2
  have st := b.1.1
  have sr : ∀ r : Nat, r < 32 → (r = 2 ∨ (5 ≤ r ∧ r ≤ 24) ∨ 29 ≤ r) → SE (F r) (F' r) (A r) (A' r) := fun r h1 h2 => .of (st r (kd_st r h1 h2) (by omega) (by omega)).2 (st r (kd_st r h1 h2) (by omega) (by omega)).1
  have Y' : YS (SS (P 0 8) F A) F' A' Fm Am := ⟨Y.1.cg hS (sr 2 (by decide) (by decide)) (fun _ _ _ => rfl), Y.2.1.cg hS (by rw [b.2.1 1]) (fun r r0 r1 => sr r (by omega) (by omega)) rfl, Y.2.2.cg hS (fun r r0 r1 => sr r (by omega) (by omega)) rfl rfl⟩
  unfold XR
  rw [e8]
  refine ⟨N.fr hF hA rfl (fun _ _ _ => rfl), ⟨by rw [b.1.2.2 2]; exact C.1, by rw [b.2.1 2]; exact C.2.1, fun s hs => by rw [b.2.2.1]; exact C.2.2 s hs⟩, Y'.map (fun f a g s => s.hs (hF 17) (hF 16) (hA 5 (by decide))), b.2.2.2 N.kd W, fun i i0 i1 => ?_⟩
  rw [b.1.2.2 2] at i1
  rw [ci_fr (b.1.2.1 1), ci_fr (b.1.2.1 2)]
  exact T i i0 i1
end H9fj
end Qz165
