/-! evenings that are kept: the past and the slots, by values, each side alone -/
section H9f2
variable {n : Nat} {P P' : Nat → Nat → Nat} {F F' : Nat → Nat → Int32} {A A' : Nat → Nat → Nat → Int32} {J : Nat → Nat → Nat → Int64} {Fm Fm' : Nat → Int32} {Am Am' : Nat → Nat → Int32} {Jm : Nat → Nat → Int64} {x1 x2 : Int32} {r0 r1 : Nat}
/-- two evenings of the class read alike -/
def SE (f f' : Nat → Int32) (a a' : Nat → Nat → Int32) : Prop := f' 7 = f 7 ∧ f' 8 = f 8 ∧ (∀ k : Nat, k < 36 → a' 1 k = a 1 k) ∧ ∀ o k : Nat, 2 ≤ o → o ≤ 7 → k < 6 → a' o k = a o k
theorem SE.rfl' {f : Nat → Int32} {a : Nat → Nat → Int32} : SE f f a a := ⟨rfl, rfl, fun _ _ => rfl, fun _ _ _ _ _ => rfl⟩
theorem SE.tr {f f' f'' : Nat → Int32} {a a' a'' : Nat → Nat → Int32} (h : SE f f' a a') (k : SE f' f'' a' a'') : SE f f'' a a'' := ⟨k.1.trans h.1, k.2.1.trans h.2.1, fun i hi => (k.2.2.1 i hi).trans (h.2.2.1 i hi), fun o i a b c => (k.2.2.2 o i a b c).trans (h.2.2.2 o i a b c)⟩
theorem SE.of {f f' : Nat → Int32} {a a' : Nat → Nat → Int32} (h : ∀ k, f' k = f k) (g : ∀ o, a' o = a o) : SE f f' a a' := ⟨h 7, h 8, fun _ _ => by rw [g], fun _ _ _ _ _ => by rw [g]⟩
theorem gg_ccp {r o q k m : Nat} (h : c_cp A r o q k m = some A') : (∀ j, j < m → A' q k j = A r o j) ∧ (∀ r' o', ¬ (r' = q ∧ o' = k) → A' r' o' = A r' o') := by
  cases h
  refine ⟨fun j hj => ?_, fun r' o' hn => ?_⟩
  · rw [c_up_same, c_up_same]
    unfold va_cpy
    rw [if_pos (by omega)]
    rw [show 0 + (j - 0) = j by omega]
  · by_cases e : r' = q
    · subst e
      rw [c_up_same, c_up_ne (fun e => hn ⟨rfl, e⟩)]
    · rw [c_up_ne e]
/-- one evening written over another -/
def CVv (P : Nat → Nat → Nat) (F : Nat → Nat → Int32) (A : Nat → Nat → Nat → Int32) (r0 r1 : Nat) (z : Unit × (Nat → Nat → Nat) × (Nat → Nat → Int32) × (Nat → Nat → Nat → Int32) × (Nat → Nat → Nat → Int64)) : Prop := z.2.1 = P ∧ (∀ r k, r ≠ r0 → z.2.2.1 r k = F r k) ∧ (∀ r o, r ≠ r0 → z.2.2.2.1 r o = A r o) ∧ SE (F r1) (z.2.2.1 r0) (A r1) (z.2.2.2.1 r0)
theorem v_copy (hne : r1 ≠ r0) : po (e_State_copy P F A J r0 r1) (CVv P F A r0 r1) := by
  unfold e_State_copy
  refine po_bl (fun A1 h1 => po_bl (fun A2 h2 => po_bl (fun A3 h3 => po_bl (fun A4 h4 => po_bl (fun A5 h5 => po_bl (fun A6 h6 => po_bl (fun A7 h7 => po_bl (fun F8 h8 => po_bl (fun F9 h9 => po_some ?_)))))))))
  have c1 := gg_ccp h1
  have c2 := gg_ccp h2
  have c3 := gg_ccp h3
  have c4 := gg_ccp h4
  have c5 := gg_ccp h5
  have c6 := gg_ccp h6
  have c7 := gg_ccp h7
  have U8 := gg_cpf h8
  have U9 := gg_cpf h9
  have d1 : ∀ o, A1 r1 o = A r1 o := fun o => c1.2 r1 o (fun e => hne e.1)
  have d2 : ∀ o, A2 r1 o = A r1 o := fun o => (c2.2 r1 o (fun e => hne e.1)).trans (d1 o)
  have d3 : ∀ o, A3 r1 o = A r1 o := fun o => (c3.2 r1 o (fun e => hne e.1)).trans (d2 o)
  have d4 : ∀ o, A4 r1 o = A r1 o := fun o => (c4.2 r1 o (fun e => hne e.1)).trans (d3 o)
  have d5 : ∀ o, A5 r1 o = A r1 o := fun o => (c5.2 r1 o (fun e => hne e.1)).trans (d4 o)
  have d6 : ∀ o, A6 r1 o = A r1 o := fun o => (c6.2 r1 o (fun e => hne e.1)).trans (d5 o)
  refine ⟨rfl, fun r k h => (U9.2 r k (fun e => h e.1)).trans (U8.2 r k (fun e => h e.1)), fun r o h => (c7.2 r o (fun e => h e.1)).trans ((c6.2 r o (fun e => h e.1)).trans ((c5.2 r o (fun e => h e.1)).trans ((c4.2 r o (fun e => h e.1)).trans ((c3.2 r o (fun e => h e.1)).trans ((c2.2 r o (fun e => h e.1)).trans (c1.2 r o (fun e => h e.1))))))), ?_, ?_, ?_, ?_⟩
  · show F9 r0 7 = F r1 7
    rw [U9.2 r0 7 (by simp)]
    exact U8.1
  · show F9 r0 8 = F r1 8
    rw [U9.1]
    exact U8.2 r1 8 (fun e => hne e.1)
  · intro k hk
    show A7 r0 1 k = A r1 1 k
    rw [c7.2 r0 1 (by simp), c6.2 r0 1 (by simp), c5.2 r0 1 (by simp), c4.2 r0 1 (by simp), c3.2 r0 1 (by simp), c2.2 r0 1 (by simp)]
    exact c1.1 k hk
  · intro o k o2 o7 hk
    show A7 r0 o k = A r1 o k
    have ho : o = 2 ∨ o = 3 ∨ o = 4 ∨ o = 5 ∨ o = 6 ∨ o = 7 := by omega
    rcases ho with rfl | rfl | rfl | rfl | rfl | rfl
    · rw [c7.2 r0 2 (by simp), c6.2 r0 2 (by simp), c5.2 r0 2 (by simp), c4.2 r0 2 (by simp), c3.2 r0 2 (by simp), c2.1 k hk, d1]
    · rw [c7.2 r0 3 (by simp), c6.2 r0 3 (by simp), c5.2 r0 3 (by simp), c4.2 r0 3 (by simp), c3.1 k hk, d2]
    · rw [c7.2 r0 4 (by simp), c6.2 r0 4 (by simp), c5.2 r0 4 (by simp), c4.1 k hk, d3]
    · rw [c7.2 r0 5 (by simp), c6.2 r0 5 (by simp), c5.1 k hk, d4]
    · rw [c7.2 r0 6 (by simp), c6.1 k hk, d5]
    · rw [c7.1 k hk, d6]
theorem gg_car {b K m q : Nat} {i : Int32} (h : c_ar m b K i = some q) : 0 ≤ i.toInt ∧ i.toInt < (m : Int) ∧ q = b + i.toInt.toNat := by
  unfold c_ar at h
  split at h
  · cases h
  · next c =>
    have o := i_out c
    refine ⟨o.1, o.2, ?_⟩
    rw [(gg_chk h).2, Int32.toNatClampNeg]
/-- the region of the u-th evening that is kept -/
def sl (F : Nat → Nat → Int32) (u : Int) : Nat := 5 + (((F 4 1).toInt + u) % 20).toNat
theorem sl_rng (u : Int) : 5 ≤ sl F u ∧ sl F u ≤ 24 := by unfold sl; omega
theorem gg_rem20 {v w : Int32} (h : m_rem w 20 = some v) (h0 : 0 ≤ w.toInt) : v.toInt = w.toInt % 20 := by
  unfold m_rem at h
  rw [if_neg (by decide)] at h
  cases h
  exact i_rem20 h0
/-- the past after a push: of d evenings the oldest is gone -/
def PUv (d : Int) (P : Nat → Nat → Nat) (F : Nat → Nat → Int32) (A : Nat → Nat → Nat → Int32) (z : Unit × (Nat → Nat → Nat) × (Nat → Nat → Int32) × (Nat → Nat → Nat → Int32) × (Nat → Nat → Nat → Int64)) : Prop := z.2.1 = P ∧ (∀ r k, r ≠ 4 → r < 5 ∨ 24 < r → z.2.2.1 r k = F r k) ∧ (∀ r o, r < 5 ∨ 24 < r → z.2.2.2.1 r o = A r o) ∧ (z.2.2.1 4 2).toInt = (F 4 2).toInt + 1 - d ∧ (∀ u, 0 ≤ u → u < (F 4 2).toInt - d → SE (F (sl F (u + d))) (z.2.2.1 (sl z.2.2.1 u)) (A (sl F (u + d))) (z.2.2.2.1 (sl z.2.2.1 u))) ∧ SE (F 2) (z.2.2.1 (sl z.2.2.1 ((F 4 2).toInt - d))) (A 2) (z.2.2.2.1 (sl z.2.2.1 ((F 4 2).toInt - d)))
theorem v_push (R : Rc F A) : po (e_Past_push P F A J 2) (fun z => ∃ d : Int, ((d = 1 ∧ (F 4 2).toInt = 20) ∨ (d = 0 ∧ (F 4 2).toInt < 20)) ∧ PUv d P F A z) := by
  have l20 : (20 : Int32).toInt = 20 := by decide
  have a1 : 0 ≤ (F 4 1).toInt ∧ (F 4 1).toInt ≤ 19 := R.1 4 1
  have a2 : 0 ≤ (F 4 2).toInt ∧ (F 4 2).toInt ≤ 20 := R.1 4 2
  unfold e_Past_push
  refine po_cond (fun c => ?_) (fun c => ?_)
  · rw [i_ne, l20] at c
    refine po_bl (fun F2 h2 => po_bl (fun v3 h3 => po_bl (fun q4 h4 => ?_)))
    have U2 := gg_cpf h2
    have k1 : F2 4 1 = F 4 1 := U2.2 4 1 (by simp)
    have k2 : (F2 4 2).toInt = (F 4 2).toInt + 1 := by rw [U2.1, i_p1 (by omega)]
    rw [k1] at h3
    have e3 := i_add (x := F 4 1) (y := F2 4 2) (by omega) (by omega)
    have e4 := i_sub (x := F 4 1 + F2 4 2) (y := 1) (by rw [i_1]; omega) (by rw [i_1]; omega)
    rw [i_1] at e4
    have d3 := gg_rem20 h3 (by omega)
    have d3' : v3.toInt = ((F 4 1).toInt + (F 4 2).toInt) % 20 := by omega
    have q := gg_car h4
    have qe : q4 = 5 + (((F 4 1).toInt + (F 4 2).toInt) % 20).toNat := by rw [q.2.2, d3']
    refine po_call (v_copy (by omega)) ?_
    rintro ⟨u, P6, F7, A8, J9⟩ ⟨g1, g2, g3, g4⟩
    dsimp only at g1 g2 g3 g4 ⊢
    have t1 : F7 4 1 = F 4 1 := (g2 4 1 (by omega)).trans k1
    have t2 : (F7 4 2).toInt = (F 4 2).toInt + 1 := by rw [g2 4 2 (by omega)]; exact k2
    have ts : ∀ u, sl F7 u = sl F u := fun u => by unfold sl; rw [t1]
    refine po_some ⟨0, .inr ⟨rfl, by omega⟩, g1, fun r k hr hr2 => (g2 r k (by omega)).trans (U2.2 r k (fun e => hr e.1)), fun r o hr => g3 r o (by omega), by rw [t2]; omega, fun u u0 u1 => ?_, ?_⟩
    · have ne : sl F u ≠ q4 := by
        rw [qe]
        unfold sl
        omega
      have s4 := (sl_rng (F := F) u).1
      show SE (F (sl F (u + 0))) (F7 (sl F7 u)) (A (sl F (u + 0))) (A8 (sl F7 u))
      rw [ts, Int.add_zero]
      exact .of (fun k => (g2 _ k ne).trans (U2.2 _ k (fun e => by omega))) (fun o => g3 _ o ne)
    · show SE (F 2) (F7 (sl F7 ((F 4 2).toInt - 0))) (A 2) (A8 (sl F7 ((F 4 2).toInt - 0)))
      rw [ts, Int.sub_zero, show sl F (F 4 2).toInt = q4 from qe.symm]
      refine SE.tr ?_ g4
      exact .of (fun k => U2.2 2 k (by simp)) (fun o => rfl)
  · rw [i_nne, l20] at c
    refine po_bl (fun v10 h10 => po_bl (fun F11 h11 => ?_))
    have U := gg_cpf h11
    have e1 := i_p1 (x := F 4 1) (by omega)
    have d10 := gg_rem20 h10 (by omega)
    rw [e1] at d10
    have k1 : (F11 4 1).toInt = ((F 4 1).toInt + 1) % 20 := by rw [U.1]; exact d10
    have k2 : F11 4 2 = F 4 2 := U.2 4 2 (by simp)
    unfold e_Past_push_35
    refine po_bl (fun v3 h3 => po_bl (fun q4 h4 => ?_))
    have k2' : (F11 4 2).toInt = 20 := by rw [k2]; exact c
    have e3 := i_add (x := F11 4 1) (y := F11 4 2) (by omega) (by omega)
    have e4 := i_sub (x := F11 4 1 + F11 4 2) (y := 1) (by rw [i_1]; omega) (by rw [i_1]; omega)
    rw [i_1] at e4
    have d3 := gg_rem20 h3 (by omega)
    have d3' : v3.toInt = (((F 4 1).toInt + 1) % 20 + 20 - 1) % 20 := by omega
    have q := gg_car h4
    have qe : q4 = 5 + ((((F 4 1).toInt + 1) % 20 + 20 - 1) % 20).toNat := by rw [q.2.2, d3']
    refine po_call (v_copy (by omega)) ?_
    rintro ⟨u, P6, F7, A8, J9⟩ ⟨g1, g2, g3, g4⟩
    dsimp only at g1 g2 g3 g4 ⊢
    have t1 : (F7 4 1).toInt = ((F 4 1).toInt + 1) % 20 := by rw [g2 4 1 (by omega)]; exact k1
    have t2 : F7 4 2 = F 4 2 := (g2 4 2 (by omega)).trans k2
    have ts : ∀ u, 0 ≤ u → sl F7 u = sl F (u + 1) := fun u u0 => by unfold sl; rw [t1]; omega
    refine po_some ⟨1, .inl ⟨rfl, c⟩, g1, fun r k hr hr2 => (g2 r k (by omega)).trans (U.2 r k (fun e => hr e.1)), fun r o hr => g3 r o (by omega), (show (F7 4 2).toInt = (F 4 2).toInt + 1 - 1 by rw [t2]; omega), fun u u0 u1 => ?_, ?_⟩
    · have ne : sl F (u + 1) ≠ q4 := by
        rw [qe]
        unfold sl
        omega
      have s4 := (sl_rng (F := F) (u + 1)).1
      show SE (F (sl F (u + 1))) (F7 (sl F7 u)) (A (sl F (u + 1))) (A8 (sl F7 u))
      rw [ts u u0]
      exact .of (fun k => (g2 _ k ne).trans (U.2 _ k (fun e => by omega))) (fun o => g3 _ o ne)
    · show SE (F 2) (F7 (sl F7 ((F 4 2).toInt - 1))) (A 2) (A8 (sl F7 ((F 4 2).toInt - 1)))
      rw [ts _ (by omega), show sl F ((F 4 2).toInt - 1 + 1) = q4 by rw [qe]; unfold sl; omega]
      refine SE.tr ?_ g4
      exact .of (fun k => U.2 2 k (by simp)) (fun o => rfl)
/-- undo -/
theorem v_cUndo3 (R : Rc F A) : po (e_SleepWork_undo P F A J) (fun r => r.2.1 = P ∧ (∀ q k, q ≠ 2 → q ≠ 4 → q ≠ 32 → r.2.2.1 q k = F q k) ∧ r.2.2.1 4 1 = F 4 1 ∧ (∀ k, k ≠ 6 → r.2.2.1 32 k = F 32 k) ∧ (∀ q o, q ≠ 2 → r.2.2.2.1 q o = A q o) ∧ ((r.1 = 0 ∧ (F 4 2).toInt = 0 ∧ r.2.2.1 = F ∧ r.2.2.2.1 = A) ∨ (r.1 = 1 ∧ (F 4 2).toInt ≠ 0 ∧ r.2.2.1 32 6 = -1 ∧ (r.2.2.1 4 2).toInt = (F 4 2).toInt - 1 ∧ SE (F (sl F ((F 4 2).toInt - 1))) (r.2.2.1 2) (A (sl F ((F 4 2).toInt - 1))) (r.2.2.2.1 2)))) := by
  have a1 : 0 ≤ (F 4 1).toInt ∧ (F 4 1).toInt ≤ 19 := R.1 4 1
  have a2 : 0 ≤ (F 4 2).toInt ∧ (F 4 2).toInt ≤ 20 := R.1 4 2
  unfold e_SleepWork_undo e_Past_pull
  refine po_call (R := fun (r : Int32 × (Nat → Nat → Nat) × (Nat → Nat → Int32) × (Nat → Nat → Nat → Int32) × (Nat → Nat → Nat → Int64)) => r.2.1 = P ∧ (∀ q k, q ≠ 2 → q ≠ 4 → r.2.2.1 q k = F q k) ∧ r.2.2.1 4 1 = F 4 1 ∧ (∀ q o, q ≠ 2 → r.2.2.2.1 q o = A q o) ∧ ((r.1 = 0 ∧ (F 4 2).toInt = 0 ∧ r.2.2.1 = F ∧ r.2.2.2.1 = A) ∨ (r.1 = 1 ∧ (F 4 2).toInt ≠ 0 ∧ (r.2.2.1 4 2).toInt = (F 4 2).toInt - 1 ∧ SE (F (sl F ((F 4 2).toInt - 1))) (r.2.2.1 2) (A (sl F ((F 4 2).toInt - 1))) (r.2.2.2.1 2)))) ?_ ?_
  · refine po_cond (fun c => ?_) (fun c => ?_)
    · rw [i_ne, i_0] at c
      refine po_bl (fun F2 h2 => po_bl (fun v3 h3 => po_bl (fun q4 h4 => ?_)))
      have U2 := gg_cpf h2
      have k1 : F2 4 1 = F 4 1 := U2.2 4 1 (by simp)
      have e0 := i_sub (x := F 4 2) (y := 1) (by rw [i_1]; omega) (by rw [i_1]; omega)
      rw [i_1] at e0
      have k2 : (F2 4 2).toInt = (F 4 2).toInt - 1 := by rw [U2.1]; exact e0
      have e3 := i_add (x := F2 4 1) (y := F2 4 2) (by rw [k1]; omega) (by rw [k1]; omega)
      rw [k1, k2] at e3
      rw [k1] at h3
      have d3 := gg_rem20 h3 (by omega)
      have q := gg_car h4
      have qe : q4 = sl F ((F 4 2).toInt - 1) := by
        rw [q.2.2, d3, e3]
        rfl
      have rg := sl_rng (F := F) ((F 4 2).toInt - 1)
      refine po_call (v_copy (by omega)) ?_
      rintro ⟨u, P6, F7, A8, J9⟩ ⟨g1, g2, g3, g4⟩
      dsimp only at g1 g2 g3 g4 ⊢
      refine po_some ⟨g1, fun q k hq hq4 => (g2 q k hq).trans (U2.2 q k (fun e => hq4 e.1)), (g2 4 1 (by decide)).trans k1, fun q o hq => g3 q o hq, .inr ⟨rfl, c, (show (F7 4 2).toInt = (F 4 2).toInt - 1 by rw [g2 4 2 (by decide)]; exact k2), ?_⟩⟩
      rw [← qe]
      exact SE.tr (.of (fun k => U2.2 q4 k (fun e => by omega)) (fun o => rfl)) g4
    · rw [i_nne, i_0] at c
      exact po_some ⟨rfl, fun _ _ _ _ => rfl, rfl, fun _ _ _ => rfl, .inl ⟨rfl, c, rfl, rfl⟩⟩
  rintro ⟨v1, P2, F3, A4, J5⟩ ⟨g1, g2, g3, g4, g5⟩
  dsimp only at g1 g2 g3 g4 g5 ⊢
  rcases g5 with ⟨e1, e2, e3, e4⟩ | ⟨e1, e2, e3, e4⟩
  · subst e1
    refine po_cond (fun c => absurd c (by decide)) (fun _ => po_some ⟨g1, fun q k a b _ => g2 q k a b, g3, fun k _ => by rw [e3], g4, .inl ⟨rfl, e2, e3, e4⟩⟩)
  · subst e1
    refine po_cond (fun _ => ?_) (fun c => absurd c (by decide))
    unfold e_Evening_setStale
    refine po_call (R := fun (z : Unit × (Nat → Nat → Nat) × (Nat → Nat → Int32) × (Nat → Nat → Nat → Int32) × (Nat → Nat → Nat → Int64)) => z.2.1 = P2 ∧ FUm F3 z.2.2.1 32 6 (-1) ∧ z.2.2.2.1 = A4) (po_bl (fun F1 h1 => po_some ⟨rfl, gg_cpf h1, rfl⟩)) ?_
    rintro ⟨u, P8, F9, A10, J11⟩ ⟨w1, w2, w3⟩
    dsimp only at w1 w2 w3 ⊢
    subst w1 w3
    refine po_some ⟨g1, fun q k a b c => (w2.2 q k (fun e => c e.1)).trans (g2 q k a b), (w2.2 4 1 (by simp)).trans g3, fun k hk => (w2.2 32 k (fun e => hk e.2)).trans (g2 32 k (by decide) (by decide)), g4, .inr ⟨rfl, e2, w2.1, (show (F9 4 2).toInt = (F 4 2).toInt - 1 by rw [w2.2 4 2 (by simp)]; exact e3), SE.tr e4 (.of (fun k => w2.2 2 k (by simp)) (fun o => rfl))⟩⟩
/-- hold -/
theorem v_cHold3 : po (e_SleepWork_hold P F A J x1) (fun r => r.2.1 = P ∧ ((¬ (0 ≤ x1.toInt ∧ x1.toInt < 3) ∧ r.2.2.1 = F ∧ r.2.2.2.1 = A) ∨ ((0 ≤ x1.toInt ∧ x1.toInt < 3) ∧ (∀ q k, q ≠ 29 + x1.toInt.toNat → ¬ (q = 0 ∧ k = 10) → r.2.2.1 q k = F q k) ∧ (∀ q o, q ≠ 29 + x1.toInt.toNat → r.2.2.2.1 q o = A q o) ∧ SE (F 2) (r.2.2.1 (29 + x1.toInt.toNat)) (A 2) (r.2.2.2.1 (29 + x1.toInt.toNat))))) := by
  have l3 : (3 : Int32).toInt = 3 := by decide
  unfold e_SleepWork_hold
  refine po_cond (fun c => po_some ⟨rfl, .inl ⟨?_, rfl, rfl⟩⟩) (fun c => ?_)
  · rw [i_lt, i_0] at c
    omega
  rw [i_nlt, i_0] at c
  refine po_cond (fun c2 => ?_) (fun c2 => po_some ⟨rfl, .inl ⟨?_, rfl, rfl⟩⟩)
  · rw [i_lt, l3] at c2
    refine po_bl (fun q h => ?_)
    obtain rfl := (gg_car h).2.2
    refine po_call (v_copy (by omega)) ?_
    rintro ⟨u, P6, F7, A8, J9⟩ ⟨g1, g2, g3, g4⟩
    dsimp only at g1 g2 g3 g4 ⊢
    refine po_bl (fun F9 h9 => ?_)
    have u := gg_cpf h9
    exact po_some ⟨g1, .inr ⟨⟨c, c2⟩, fun q k hq hk => (u.2 q k hk).trans (g2 q k hq), fun q o hq => g3 q o hq, SE.tr g4 (.of (fun k => u.2 _ k (fun e => by omega)) (fun o => rfl))⟩⟩
  · rw [i_nlt, l3] at c2
    omega
/-- restore -/
theorem v_cRestore3 : po (e_SleepWork_restore P F A J x1) (fun r => r.2.1 = P ∧ ((r.1 = 0 ∧ r.2.2.1 = F ∧ r.2.2.2.1 = A) ∨ (r.1 = 1 ∧ (0 ≤ x1.toInt ∧ x1.toInt < 3) ∧ HB (F 0 10) x1.toInt.toNat ∧ (∀ q k, q ≠ 2 → ¬ (q = 4 ∧ k = 2) → ¬ (q = 32 ∧ k = 6) → r.2.2.1 q k = F q k) ∧ (∀ q o, q ≠ 2 → r.2.2.2.1 q o = A q o) ∧ r.2.2.1 4 2 = 0 ∧ r.2.2.1 32 6 = -1 ∧ SE (F (29 + x1.toInt.toNat)) (r.2.2.1 2) (A (29 + x1.toInt.toNat)) (r.2.2.2.1 2)))) := by
  have l3 : (3 : Int32).toInt = 3 := by decide
  unfold e_SleepWork_restore
  refine po_cond (fun c => po_some ⟨rfl, .inl ⟨rfl, rfl, rfl⟩⟩) (fun c => ?_)
  rw [i_nlt, i_0] at c
  refine po_cond (fun c2 => po_some ⟨rfl, .inl ⟨rfl, rfl, rfl⟩⟩) (fun c2 => ?_)
  rw [i_nge, l3] at c2
  have ex : x1 = Int32.ofNat x1.toInt.toNat := i_nat c
  refine po_cond (fun c3 => ?_) (fun c3 => po_some ⟨rfl, .inl ⟨rfl, rfl, rfl⟩⟩)
  rw [i_ne, i_0] at c3
  have hb : HB (F 0 10) x1.toInt.toNat := by
    unfold HB
    rw [← ex]
    exact fun e => c3 (by rw [e] <;> exact i_0)
  refine po_bl (fun q h => ?_)
  obtain rfl := (gg_car h).2.2
  refine po_call (v_copy (by omega)) ?_
  rintro ⟨u, P6, F7, A8, J9⟩ ⟨g1, g2, g3, g4⟩
  dsimp only at g1 g2 g3 g4 ⊢
  refine po_bl (fun F10 h10 => ?_)
  have w := gg_cpf h10
  unfold e_Evening_setStale
  refine po_call (R := fun (z : Unit × (Nat → Nat → Nat) × (Nat → Nat → Int32) × (Nat → Nat → Nat → Int32) × (Nat → Nat → Nat → Int64)) => z.2.1 = P6 ∧ FUm F10 z.2.2.1 32 6 (-1) ∧ z.2.2.2.1 = A8) (po_bl (fun F1 h1 => po_some ⟨rfl, gg_cpf h1, rfl⟩)) ?_
  rintro ⟨u, P8, F9, A10, J11⟩ ⟨w1, w2, w3⟩
  dsimp only at w1 w2 w3 ⊢
  subst w1 w3
  exact po_some ⟨g1, .inr ⟨rfl, ⟨c, c2⟩, hb, fun q k a b d => (w2.2 q k d).trans ((w.2 q k b).trans (g2 q k a)), fun q o hq => g3 q o hq, (w2.2 4 2 (by simp)).trans w.1, w2.1, SE.tr g4 (.of (fun k => (w2.2 2 k (by simp)).trans (w.2 2 k (by simp))) (fun o => rfl))⟩⟩
/-! the reference -/
/-- cells x .. 99 of a row written into another -/
def CPm (src dst : Nat) (so d_ x : Int) (Am Am' : Nat → Nat → Int32) : Prop := (∀ q, q ≠ dst → Am' q = Am q) ∧ (∀ i, x ≤ i → i < 100 → ai Am' dst (d_ + i) = ai Am src (so + i)) ∧ (∀ i, 0 ≤ i → i < d_ + x ∨ d_ + 100 ≤ i → ai Am' dst i = ai Am dst i)
theorem CPm.rfl' {src dst : Nat} {so d_ x : Int} (h : 100 ≤ x) : CPm src dst so d_ x Am Am := ⟨fun _ _ => rfl, fun _ _ _ => absurd h (by omega), fun _ _ _ => rfl⟩
theorem CPm.step {src dst ns nd : Nat} {so d_ x : Int} {i1 i2 v : Int32} {A1 A2 : Nat → Nat → Int32} (hne : src ≠ dst) (h1 : m_ld (Am src) ns i1 = some v) (h2 : m_st Am dst nd i2 v = some A1) (e1 : i1.toInt = so + x) (e2 : i2.toInt = d_ + x) (x0 : 0 ≤ x) (x1 : x < 100) (d0 : 0 ≤ d_) (h : CPm src dst so d_ (x + 1) A1 A2) : CPm src dst so d_ x Am A2 := by
  have g := gg_ld h1
  have s := (gg_st h2).2.2
  rw [e2] at s
  refine ⟨fun q hq => (h.1 q hq).trans (s.1 q hq), fun i i0 i1' => ?_, fun i i0 hi => ?_⟩
  · by_cases e : i = x
    · rw [h.2.2 (d_ + i) (by omega) (by omega), e, s.2.1, g.2.2, e1]
      rfl
    · rw [h.2.1 i (by omega) i1']
      unfold ai
      rw [s.1 src hne]
  · rw [h.2.2 i i0 (by omega)]
    exact s.2.2 i i0 (by omega)
theorem r_takes_2 : ∀ {n : Nat} {Fm : Nat → Int32} {Am : Nat → Nat → Int32} {Jm : Nat → Nat → Int64} {x1 : Int32}, 0 ≤ x1.toInt → po (d_takes_2 n Fm Am Jm x1) (fun r => r.2.1 = Fm ∧ CPm 47 48 0 0 x1.toInt Am r.2.2.1) := by
  intro n
  induction n with
  | zero => intro Fm Am Jm x1 _ r hr; cases hr
  | succ n ih =>
    intro Fm Am Jm x1 h0
    have l100 : (100 : Int32).toInt = 100 := by decide
    unfold d_takes_2
    refine po_cond (fun c => po_some ⟨rfl, CPm.rfl' (by rw [i_ge, l100] at c; exact c)⟩) (fun c => ?_)
    rw [i_nge, l100] at c
    refine po_bl (fun v2 h2 => po_bl (fun A3 h3 => ?_))
    have e := i_p1 (x := x1) (by omega)
    refine po_mono (ih (by omega)) (fun r h => ⟨h.1, CPm.step (by decide) h2 h3 (by omega) (by omega) h0 (by omega) (by omega) (by rw [← e]; exact h.2)⟩)
theorem r_takes : po (d_takes n Fm Am Jm) (fun r => r.2.1 = Fm ∧ CPm 47 48 0 0 0 Am r.2.2.1) := by
  unfold d_takes
  exact po_mono (r_takes_2 (x1 := 0) (by decide)) (fun r h => ⟨h.1, by rw [i_0] at h; exact h.2⟩)
theorem r_night_104 : ∀ {n : Nat} {Fm : Nat → Int32} {Am : Nat → Nat → Int32} {Jm : Nat → Nat → Int64} {x2 : Int32}, 0 ≤ x2.toInt → po (d_night_104 n Fm Am Jm x1 x2) (fun r => r.1 = x1 ∧ r.2.1 = Fm ∧ CPm 48 47 0 0 x2.toInt Am r.2.2.1) := by
  intro n
  induction n with
  | zero => intro Fm Am Jm x2 _ r hr; cases hr
  | succ n ih =>
    intro Fm Am Jm x2 h0
    have l100 : (100 : Int32).toInt = 100 := by decide
    unfold d_night_104
    refine po_cond (fun c => po_some ⟨rfl, rfl, CPm.rfl' (by rw [i_ge, l100] at c; exact c)⟩) (fun c => ?_)
    rw [i_nge, l100] at c
    refine po_bl (fun v2 h2 => po_bl (fun A3 h3 => ?_))
    have e := i_p1 (x := x2) (by omega)
    refine po_mono (ih (by omega)) (fun r h => ⟨h.1, h.2.1, CPm.step (by decide) h2 h3 (by omega) (by omega) h0 (by omega) (by omega) (by rw [← e]; exact h.2.2)⟩)
theorem i_100 {c x : Int32} (c0 : 0 ≤ c.toInt) (c1 : c.toInt ≤ 20) (x0 : 0 ≤ x.toInt) (x1 : x.toInt ≤ 100) : (100 * c + x).toInt = 100 * c.toInt + x.toInt := by
  have m := i_mulL (c := 100) (k := 100) (x := c) (by decide) (by omega) (by omega)
  rw [i_add (by rw [m]; omega) (by rw [m]; omega), m]
/-- the night behind the copying -/
def nrest (n : Nat) (F : Nat → Int32) (A : Nat → Nat → Int32) (J : Nat → Nat → Int64) : Option (Int32 × (Nat → Int32) × (Nat → Nat → Int32) × (Nat → Nat → Int64)) := (m_pf F 74 ((F 74) + 1)).bind fun F7 => (d_takes n F7 A J).bind fun (_, F9, A10, J11) => (d_wholeNight n F9 A10 J11).bind fun (v12, F13, A14, J15) => d_night_104 n F13 A14 J15 v12 0
theorem r_night_51 {Q : Int32 × (Nat → Int32) × (Nat → Nat → Int32) × (Nat → Nat → Int64) → Prop} (c0 : 0 ≤ (Fm 74).toInt) (c1 : (Fm 74).toInt ≤ 20) : ∀ {n : Nat} {Am : Nat → Nat → Int32} {x1 : Int32}, 0 ≤ x1.toInt → (∀ n' A', CPm 47 57 0 (100 * (Fm 74).toInt) x1.toInt Am A' → po (nrest n' Fm A' Jm) Q) → po (d_night_51 n Fm Am Jm x1) Q := by
  intro n
  induction n with
  | zero => intro Am x1 _ _ r hr; cases hr
  | succ n ih =>
    intro Am x1 h0 K
    have l100 : (100 : Int32).toInt = 100 := by decide
    unfold d_night_51
    refine po_cond (fun c => K n Am (CPm.rfl' (by rw [i_ge, l100] at c; exact c))) (fun c => ?_)
    rw [i_nge, l100] at c
    refine po_bl (fun v2 h2 => po_bl (fun A3 h3 => ?_))
    have e := i_p1 (x := x1) (by omega)
    refine ih (by omega) (fun n' A' h => K n' A' ?_)
    rw [e] at h
    exact CPm.step (by decide) h2 h3 (by omega) (i_100 c0 c1 h0 (by omega)) h0 (by omega) (by omega) h
/-- the kept evenings go down by one -/
def SHd (x : Int) (Am Am' : Nat → Nat → Int32) : Prop := (∀ q, q ≠ 57 → Am' q = Am q) ∧ (∀ i, x ≤ i → i < 1900 → ai Am' 57 i = ai Am 57 (i + 100)) ∧ (∀ i, 0 ≤ i → i < x → ai Am' 57 i = ai Am 57 i)
theorem r_night_11 {Q : Int32 × (Nat → Int32) × (Nat → Nat → Int32) × (Nat → Nat → Int64) → Prop} (c1 : (Fm 74).toInt = 20) : ∀ {n : Nat} {Am : Nat → Nat → Int32} {x1 : Int32}, 0 ≤ x1.toInt → x1.toInt ≤ 1900 → (∀ n' F3 A' A'', (F3 74).toInt = 19 → (∀ q, q ≠ 74 → F3 q = Fm q) → SHd x1.toInt Am A' → CPm 47 57 0 1900 0 A' A'' → po (nrest n' F3 A'' Jm) Q) → po (d_night_11 n Fm Am Jm x1) Q := by
  intro n
  induction n with
  | zero => intro Am x1 _ _ _ r hr; cases hr
  | succ n ih =>
    intro Am x1 h0 h1 K
    have l1900 : (1900 : Int32).toInt = 1900 := by decide
    have l100 : (100 : Int32).toInt = 100 := by decide
    unfold d_night_11
    refine po_cond (fun c => ?_) (fun c => ?_)
    · rw [i_ge, l1900] at c
      refine po_bl (fun F3 h3 => ?_)
      have u := gg_pf h3
      have e3 : (F3 74).toInt = 19 := by
        rw [u.1, i_sub (by rw [i_1]; omega) (by rw [i_1]; omega), i_1, c1]
        rfl
      refine r_night_51 (by omega) (by omega) (x1 := 0) (by decide) (fun n' A' h => ?_)
      rw [e3, i_0] at h
      exact K n' F3 Am A' e3 u.2 ⟨fun _ _ => rfl, fun i a b => absurd a (by omega), fun _ _ _ => rfl⟩ h
    · rw [i_nge, l1900] at c
      refine po_bl (fun v4 h4 => po_bl (fun A5 h5 => ?_))
      have e := i_p1 (x := x1) (by omega)
      have e1 := i_add (x := x1) (y := 100) (by rw [l100]; omega) (by rw [l100]; omega)
      rw [l100] at e1
      have g := gg_ld h4
      have s := (gg_st h5).2.2
      refine ih (by omega) (by omega) (fun n' F3 A' A'' f3 fq sh cp => K n' F3 A' A'' f3 fq ?_ cp)
      rw [e] at sh
      refine ⟨fun q hq => (sh.1 q hq).trans (s.1 q hq), fun i i0 i1 => ?_, fun i i0 i1 => ?_⟩
      · by_cases hi : i = x1.toInt
        · rw [sh.2.2 i (by omega) (by omega), hi, s.2.1, g.2.2, e1]
          rfl
        · rw [sh.2.1 i (by omega) i1]
          exact s.2.2 (i + 100) (by omega) (by omega)
      · rw [sh.2.2 i i0 (by omega)]
        exact s.2.2 i i0 (by omega)
/-- the past of the reference after a night's beginning -/
def HSm (d c : Int) (Am Am' : Nat → Nat → Int32) : Prop := (∀ q, q ≠ 57 → Am' q = Am q) ∧ (∀ u i, 0 ≤ u → u < c - d → 0 ≤ i → i < 100 → ai Am' 57 (100 * u + i) = ai Am 57 (100 * (u + d) + i)) ∧ (∀ i, 0 ≤ i → i < 100 → ai Am' 57 (100 * (c - d) + i) = ai Am 47 i)
def nrest2 (n : Nat) (F7 : Nat → Int32) (A : Nat → Nat → Int32) (J : Nat → Nat → Int64) : Option (Int32 × (Nat → Int32) × (Nat → Nat → Int32) × (Nat → Nat → Int64)) := (d_takes n F7 A J).bind fun (_, F9, A10, J11) => (d_wholeNight n F9 A10 J11).bind fun (v12, F13, A14, J15) => d_night_104 n F13 A14 J15 v12 0
theorem r_night {Q : Int32 × (Nat → Int32) × (Nat → Nat → Int32) × (Nat → Nat → Int64) → Prop} (c0 : 0 ≤ (Fm 74).toInt ∧ (Fm 74).toInt ≤ 20) (K : ∀ n' F7 A' d, ((d = 1 ∧ (Fm 74).toInt = 20) ∨ (d = 0 ∧ (Fm 74).toInt < 20)) → (F7 74).toInt = (Fm 74).toInt + 1 - d → (∀ q, q ≠ 74 → F7 q = Fm q) → HSm d (Fm 74).toInt Am A' → po (nrest2 n' F7 A' Jm) Q) : po (d_night n Fm Am Jm) Q := by
  have l20 : (20 : Int32).toInt = 20 := by decide
  unfold d_night
  refine po_cond (fun c => ?_) (fun c => ?_)
  · rw [i_ne, l20] at c
    unfold d_night_49
    refine r_night_51 c0.1 c0.2 (x1 := 0) (by decide) (fun n' A' h => ?_)
    rw [i_0] at h
    unfold nrest
    refine po_bl (fun F7 h7 => ?_)
    have u := gg_pf h7
    refine K n' F7 A' 0 (.inr ⟨rfl, by omega⟩) (by rw [u.1, i_p1 (by omega)]; omega) u.2 ⟨h.1, fun v i v0 v1 i0 i1 => ?_, fun i i0 i1 => ?_⟩
    · rw [h.2.2 (100 * v + i) (by omega) (.inl (by omega)), Int.add_zero]
    · rw [Int.sub_zero, h.2.1 i i0 i1, Int.zero_add]
  · rw [i_nne, l20] at c
    refine r_night_11 c (x1 := 0) (by decide) (by decide) (fun n' F3 A' A'' f3 fq sh cp => ?_)
    rw [i_0] at sh
    unfold nrest
    refine po_bl (fun F7 h7 => ?_)
    have u := gg_pf h7
    refine K n' F7 A'' 1 (.inl ⟨rfl, c⟩) (by rw [u.1, i_p1 (by omega)]; omega) (fun q hq => (u.2 q hq).trans (fq q hq)) ⟨fun q hq => (cp.1 q hq).trans (sh.1 q hq), fun v i v0 v1 i0 i1 => ?_, fun i i0 i1 => ?_⟩
    · rw [cp.2.2 (100 * v + i) (by omega) (.inl (by omega)), sh.2.1 (100 * v + i) (by omega) (by omega)]
      congr 1
      omega
    · rw [c, show (100 * ((20 : Int) - 1) + i) = 1900 + i by omega, cp.2.1 i i0 i1, Int.zero_add]
      unfold ai
      rw [sh.1 47 (by decide)]
theorem r_undo_21 (c0 : 0 ≤ (Fm 74).toInt) (c1 : (Fm 74).toInt ≤ 20) : ∀ {n : Nat} {Am : Nat → Nat → Int32} {Jm : Nat → Nat → Int64} {x1 : Int32}, 0 ≤ x1.toInt → po (d_undo_21 n Fm Am Jm x1) (fun r => r.1 = 1 ∧ r.2.1 = Fm ∧ CPm 57 47 (100 * (Fm 74).toInt) 0 x1.toInt Am r.2.2.1) := by
  intro n
  induction n with
  | zero => intro Am Jm x1 _ r hr; cases hr
  | succ n ih =>
    intro Am Jm x1 h0
    have l100 : (100 : Int32).toInt = 100 := by decide
    unfold d_undo_21
    refine po_cond (fun c => po_some ⟨rfl, rfl, CPm.rfl' (by rw [i_ge, l100] at c; exact c)⟩) (fun c => ?_)
    rw [i_nge, l100] at c
    refine po_bl (fun v2 h2 => po_bl (fun A3 h3 => ?_))
    have e := i_p1 (x := x1) (by omega)
    refine po_mono (ih (by omega)) (fun r h => ⟨h.1, h.2.1, CPm.step (by decide) h2 h3 (i_100 c0 c1 h0 (by omega)) (by omega) h0 (by omega) (by omega) (by rw [← e]; exact h.2.2)⟩)
theorem r_undo (c0 : 0 ≤ (Fm 74).toInt ∧ (Fm 74).toInt ≤ 20) : po (d_undo n Fm Am Jm) (fun r => (∀ q, q ≠ 74 → r.2.1 q = Fm q) ∧ ((r.1 = 0 ∧ (Fm 74).toInt = 0 ∧ r.2.1 = Fm ∧ r.2.2.1 = Am) ∨ (r.1 = 1 ∧ (Fm 74).toInt ≠ 0 ∧ (r.2.1 74).toInt = (Fm 74).toInt - 1 ∧ CPm 57 47 (100 * ((Fm 74).toInt - 1)) 0 0 Am r.2.2.1))) := by
  unfold d_undo
  refine po_cond (fun c => ?_) (fun c => ?_)
  · rw [i_ne, i_0] at c
    refine po_bl (fun F2 h2 => ?_)
    have u := gg_pf h2
    have e : (F2 74).toInt = (Fm 74).toInt - 1 := by rw [u.1, i_sub (by rw [i_1]; omega) (by rw [i_1]; omega), i_1]
    refine po_mono (r_undo_21 (x1 := 0) (by omega) (by omega) (by decide)) (fun r h => ?_)
    obtain ⟨h1, h2, h3⟩ := h
    rw [e, i_0] at h3
    exact ⟨fun q hq => by rw [h2]; exact u.2 q hq, .inr ⟨h1, c, by rw [h2]; exact e, h3⟩⟩
  · rw [i_nne, i_0] at c
    exact po_some ⟨fun _ _ => rfl, .inl ⟨rfl, c, rfl, rfl⟩⟩
theorem r_hold_20 (c0 : 0 ≤ x1.toInt) (c1 : x1.toInt ≤ 20) : ∀ {n : Nat} {Fm : Nat → Int32} {Am : Nat → Nat → Int32} {Jm : Nat → Nat → Int64} {x2 : Int32}, 0 ≤ x2.toInt → po (d_hold_20 n Fm Am Jm x1 x2) (fun r => r.2.1 = Fm ∧ CPm 47 62 0 (100 * x1.toInt) x2.toInt Am r.2.2.1) := by
  intro n
  induction n with
  | zero => intro Fm Am Jm x2 _ r hr; cases hr
  | succ n ih =>
    intro Fm Am Jm x2 h0
    have l100 : (100 : Int32).toInt = 100 := by decide
    unfold d_hold_20
    refine po_cond (fun c => po_some ⟨rfl, CPm.rfl' (by rw [i_ge, l100] at c; exact c)⟩) (fun c => ?_)
    rw [i_nge, l100] at c
    refine po_bl (fun v2 h2 => po_bl (fun A3 h3 => ?_))
    have e := i_p1 (x := x2) (by omega)
    refine po_mono (ih (by omega)) (fun r h => ⟨h.1, CPm.step (by decide) h2 h3 (by omega) (i_100 c0 c1 h0 (by omega)) h0 (by omega) (by omega) (by rw [← e]; exact h.2)⟩)
theorem r_hold : po (d_hold n Fm Am Jm x1) (fun r => r.2.1 = Fm ∧ ((¬ (0 ≤ x1.toInt ∧ x1.toInt < 3) ∧ r.2.2.1 = Am) ∨ ((0 ≤ x1.toInt ∧ x1.toInt < 3) ∧ ∃ A3, (∀ q, q ≠ 61 → A3 q = Am q) ∧ (∀ s : Nat, s < 3 → s ≠ x1.toInt.toNat → A3 61 s = Am 61 s) ∧ CPm 47 62 0 (100 * x1.toInt) 0 A3 r.2.2.1))) := by
  have l2 : (2 : Int32).toInt = 2 := by decide
  unfold d_hold
  refine po_call v_din ?_
  intro v1 b1
  rw [i_0, l2] at b1
  rcases b1 with ⟨rfl, p⟩ | ⟨rfl, p⟩
  · refine po_cond (fun _ => ?_) (fun c => absurd c (by decide))
    refine po_bl (fun A3 h3 => ?_)
    have u := (gg_st h3).2.2
    refine po_mono (r_hold_20 (x2 := 0) p.1 (by omega) (by decide)) (fun r h => ⟨h.1, .inr ⟨by omega, A3, u.1, fun s hs hne => i_ext ?_, by rw [i_0] at h; exact h.2⟩⟩)
    have w := u.2.2 (s : Int) (by omega) (by omega)
    unfold ai at w
    rw [Int.toNat_natCast] at w
    exact w
  · exact po_cond (fun c => absurd c (by decide)) (fun _ => po_some ⟨rfl, .inl ⟨fun h => p ⟨h.1, by omega⟩, rfl⟩⟩)
theorem r_restore_22 (c0 : 0 ≤ x1.toInt) (c1 : x1.toInt ≤ 20) : ∀ {n : Nat} {Fm : Nat → Int32} {Am : Nat → Nat → Int32} {Jm : Nat → Nat → Int64} {x2 : Int32}, 0 ≤ x2.toInt → po (d_restore_22 n Fm Am Jm x1 x2) (fun r => r.1 = 1 ∧ r.2.1 74 = 0 ∧ (∀ q, q ≠ 74 → r.2.1 q = Fm q) ∧ CPm 62 47 (100 * x1.toInt) 0 x2.toInt Am r.2.2.1) := by
  intro n
  induction n with
  | zero => intro Fm Am Jm x2 _ r hr; cases hr
  | succ n ih =>
    intro Fm Am Jm x2 h0
    have l100 : (100 : Int32).toInt = 100 := by decide
    unfold d_restore_22
    refine po_cond (fun c => ?_) (fun c => ?_)
    · rw [i_ge, l100] at c
      refine po_bl (fun F6 h6 => ?_)
      have u := gg_pf h6
      exact po_some ⟨rfl, u.1, u.2, CPm.rfl' c⟩
    · rw [i_nge, l100] at c
      refine po_bl (fun v2 h2 => po_bl (fun A3 h3 => ?_))
      have e := i_p1 (x := x2) (by omega)
      refine po_mono (ih (by omega)) (fun r h => ⟨h.1, h.2.1, h.2.2.1, CPm.step (by decide) h2 h3 (i_100 c0 c1 h0 (by omega)) (by omega) h0 (by omega) (by omega) (by rw [← e]; exact h.2.2.2)⟩)
theorem r_restore : po (d_restore n Fm Am Jm x1) (fun r => (r.1 = 0 ∧ r.2.1 = Fm ∧ r.2.2.1 = Am) ∨ (r.1 = 1 ∧ (0 ≤ x1.toInt ∧ x1.toInt < 3) ∧ r.2.1 74 = 0 ∧ (∀ q, q ≠ 74 → r.2.1 q = Fm q) ∧ CPm 62 47 (100 * x1.toInt) 0 0 Am r.2.2.1)) := by
  have l2 : (2 : Int32).toInt = 2 := by decide
  unfold d_restore
  refine po_call v_din ?_
  intro v1 b1
  rw [i_0, l2] at b1
  rcases b1 with ⟨rfl, p⟩ | ⟨rfl, p⟩
  · refine po_cond (fun c => absurd c (by decide)) (fun _ => ?_)
    refine po_bl (fun v3 _ => ?_)
    refine po_cond (fun _ => ?_) (fun _ => po_some (.inl ⟨rfl, rfl, rfl⟩))
    refine po_mono (r_restore_22 (x2 := 0) p.1 (by omega) (by decide)) (fun r h => .inr ⟨h.1, by omega, h.2.1, h.2.2.1, by rw [i_0] at h; exact h.2.2.2⟩)
  · exact po_cond (fun _ => po_some (.inl ⟨rfl, rfl, rfl⟩)) (fun c => absurd c (by decide))
end H9f2
