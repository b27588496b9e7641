/-! the class's reader: what is told -/
/-- the draft, where its text has no fault -/
def DVc (F : Nat → Nat → Int32) (A : Nat → Nat → Nat → Int32) (d : Nat) : Prop := (∀ x, 0 ≤ x → x < cf F d 14 → 0 ≤ ci A d 1 x ∧ 0 ≤ ci A d 2 x) ∧ (∀ m, 0 ≤ m → m < cf F d 17 → 0 ≤ ci A d 12 m) ∧ (∀ t, 0 ≤ t → t < cf F d 16 → 0 ≤ ci A d 4 t) ∧ (∀ t s, 0 ≤ t → t < 6 → 0 ≤ s → s < ci A d 5 t → ci A d 11 (t * 6 + s) ≤ 5) ∧ CVc F A d ∧ (1 ≤ cf F d 18 ∧ cf F d 18 ≤ 600) ∧ LVc A d 3
def RVc (d : Nat) (F0 F : Nat → Nat → Int32) (A0 A : Nat → Nat → Nat → Int32) : Prop := Rc F A ∧ ((∀ r k, r ≠ 37 → r ≠ d → r ≠ 3 → F r k = F0 r k) ∧ (∀ r o, r ≠ 37 → r ≠ d → r ≠ 3 → A r o = A0 r o)) ∧ (∀ t, cf F d 16 ≤ t → t < 6 → ci A d 5 t = 0) ∧ (cf F 37 10 ≠ 0 ∨ cf F d 1304 ≤ cf F 37 7) ∧ (cf F 37 10 ≠ 0 ∨ cf F 37 12 ≠ 0 ∨ DVc F A d)
def RXc (P : Nat → Nat → Nat) (d : Nat) (F0 : Nat → Nat → Int32) (A0 : Nat → Nat → Nat → Int32) (r : Unit × (Nat → Nat → Nat) × (Nat → Nat → Int32) × (Nat → Nat → Nat → Int32) × (Nat → Nat → Nat → Int64)) : Prop := r.2.1 = P ∧ RVc d F0 r.2.2.1 A0 r.2.2.2.1
section R9a
variable {P P' : Nat → Nat → Nat} {F F' F0 : Nat → Nat → Int32} {A A' A0 : Nat → Nat → Nat → Int32} {J : Nat → Nat → Nat → Int64} {n d : Nat}
theorem DVc.cgF (D : DVc F A d) (h : ∀ k, F' d k = F d k) : DVc F' A d := by
  unfold DVc CVc cf
  simp only [h]
  exact D
theorem RVc.q (V : RVc d F0 F A0 A) (hd : d ≠ 37) (q : QRc P P' F F' A A') : RVc d F0 F' A0 A' := by
  obtain ⟨v1, ⟨v2, v3⟩, v4, v5, v6⟩ := V
  obtain ⟨q1, q2, q3, q4, q5, q6, q7⟩ := q
  subst q2
  have e : ∀ k, F' d k = F d k := fun k => q3 d k (fun h => hd h.1)
  refine ⟨q4, ⟨fun r k a b c => (q3 r k (fun h => a h.1)).trans (v2 r k a b c), v3⟩, by unfold cf; rw [e]; exact v4, ?_, ?_⟩
  · rcases v5 with h | h
    · exact .inl (q6 h)
    · right
      have : cf F' d 1304 = cf F d 1304 := by unfold cf; rw [e]
      omega
  · rcases v6 with h | h | h
    · exact .inl (q6 h)
    · exact .inr (.inl (q7 h))
    · exact .inr (.inr (h.cgF e))
/-- the draft is written -/
theorem RVc.up (V : RVc d F0 F A0 A) (h0 : d ≠ 37) (R : Rc F' A') (oF : ∀ r k, r ≠ d → r ≠ 3 → F' r k = F r k) (oA : ∀ r o, r ≠ d → r ≠ 3 → A' r o = A r o) (h5 : ∀ t, cf F' d 16 ≤ t → t < 6 → ci A' d 5 t = 0) (hl : F' d 1304 = F d 1304) (hD : cf F 37 10 ≠ 0 ∨ cf F 37 12 ≠ 0 ∨ (DVc F A d → DVc F' A' d)) : RVc d F0 F' A0 A' := by
  obtain ⟨v1, ⟨v2, v3⟩, v4, v5, v6⟩ := V
  have e7 : F' 37 7 = F 37 7 := oF 37 7 (fun e => h0 e.symm) (by decide)
  have e10 : F' 37 10 = F 37 10 := oF 37 10 (fun e => h0 e.symm) (by decide)
  have e12 : F' 37 12 = F 37 12 := oF 37 12 (fun e => h0 e.symm) (by decide)
  refine ⟨R, ⟨fun r k a b c => (oF r k b c).trans (v2 r k a b c), fun r o a b c => (oA r o b c).trans (v3 r o a b c)⟩, h5, ?_, ?_⟩
  · unfold cf at v5 ⊢
    rw [hl, e7, e10]
    exact v5
  · unfold cf at v6 hD ⊢
    rw [e10, e12]
    rcases hD with h | h | h
    · exact .inl h
    · exact .inr (.inl h)
    · exact v6.imp id (fun z => z.imp id h)
theorem kd37 (hk : c_kind d = 6) : d ≠ 37 := fun e => absurd hk (by rw [e]; decide)
theorem kd3 (hk : c_kind d = 6) : d ≠ 3 := fun e => absurd hk (by rw [e]; decide)
theorem Rc.h (R : Rc F A) (hk : c_kind d = 6) : (0 ≤ (F d 13).toInt ∧ (F d 13).toInt ≤ 8) ∧ (0 ≤ (F d 14).toInt ∧ (F d 14).toInt ≤ 12) ∧ (0 ≤ (F d 15).toInt ∧ (F d 15).toInt ≤ 6) ∧ (0 ≤ (F d 16).toInt ∧ (F d 16).toInt ≤ 6) ∧ (0 ≤ (F d 17).toInt ∧ (F d 17).toInt ≤ 6) := by
  have a := R.1 d 13
  have b := R.1 d 14
  have c := R.1 d 15
  have e := R.1 d 16
  have f := R.1 d 17
  rw [hk] at a b c e f
  exact ⟨a, b, c, e, f⟩
theorem QRc.dd (q : QRc P P' F F' A A') (hd : d ≠ 37) (k : Nat) : F' d k = F d k := q.2.2.1 d k (fun h => hd h.1)
theorem s_readRoom (e5 : P 37 5 = d) (hk : c_kind d = 6) (V : RVc d F0 F A0 A) (hn : 20 ≤ n) : ok (e_Reader_readRoom n P F A J) (RXc P d F0 A0) := by
  have l0 : (0 : Int32).toInt = 0 := by decide
  have l1 : (1 : Int32).toInt = 1 := by decide
  have l8 : (8 : Int32).toInt = 8 := by decide
  have hd := kd37 hk
  have rh := V.1.h hk
  unfold e_Reader_readRoom
  rw [e5]
  refine ok_chk hk ?_
  refine ok_call (s_takeFirst V.1) ?_
  rintro ⟨u2, P2, F2, A2, J2⟩ ⟨q2, w2⟩
  dsimp only at q2 w2 ⊢
  have e5' : P2 37 5 = d := by rw [q2.1]; exact e5
  rw [e5']
  refine ok_chk hk ?_
  have k2 := q2.dd hd 13
  refine ok_call (s_newName e5' hk q2.2.2.2.1 (by rw [k2]; omega) (by omega)) ?_
  rintro ⟨u3, P3, F3, A3, J3⟩ q3
  dsimp only at q3 ⊢
  refine ok_call (s_take q3.2.2.2.1) ?_
  rintro ⟨v, P4, F4, A4, J4⟩ ⟨q4, w4⟩
  dsimp only at q4 w4 ⊢
  have qa := (q2.tr q3).tr q4
  have V4 := V.q hd qa
  refine ok_cond (fun _ => ok_some ⟨qa.1, V4⟩) (fun c => ?_)
  rw [i_neq, l0] at c
  have z4 : cf F4 37 10 = 0 := by omega
  have lt : (F d 13).toInt < 8 := by
    rcases w2 with h | h
    · exact absurd (q4.2.2.2.2.2.1 (q3.2.2.2.2.2.1 h)) (by omega)
    · omega
  have e5'' : P4 37 5 = d := by rw [qa.1]; exact e5
  rw [e5'']
  refine ok_chk hk ?_
  refine ok_cpf ?_
  intro F5 U5
  have k4 := qa.dd hd 13
  rw [k4] at U5
  have e := i_add (x := F d 13) (y := 1) (by omega) (by omega)
  suffices V6 : RVc d F0 F5 A0 A4 from ok_some ⟨qa.1, V6⟩
  refine V4.up hd (V4.1.pf U5 (by rw [hk]; exact (show 0 ≤ (F d 13 + 1).toInt ∧ (F d 13 + 1).toInt ≤ 8 by omega))) (fun r k a _ => U5.2 r k (fun h => a h.1)) (fun _ _ _ _ => rfl) (by unfold cf; rw [U5.2 d 16 (by simp)]; exact V4.2.2.1) (U5.2 d 1304 (by simp)) (.inr (.inr (fun D => ?_)))
  unfold DVc CVc cf
  rw [U5.2 d 14 (by simp), U5.2 d 17 (by simp), U5.2 d 16 (by simp), U5.2 d 1304 (by simp), U5.2 d 18 (by simp)]
  exact D
theorem s_readTool (e5 : P 37 5 = d) (e6 : P 37 6 = 3) (hk : c_kind d = 6) (V : RVc d F0 F A0 A) (hn : 20 ≤ n) : ok (e_Reader_readTool n P F A J) (RXc P d F0 A0) := by
  have l0 : (0 : Int32).toInt = 0 := by decide
  have l1 : (1 : Int32).toInt = 1 := by decide
  have l6 : (6 : Int32).toInt = 6 := by decide
  have hd := kd37 hk
  have h3 := kd3 hk
  have rh := V.1.h hk
  unfold e_Reader_readTool
  rw [e5]
  refine ok_chk hk ?_
  refine ok_call (s_takeFirst V.1) ?_
  rintro ⟨u2, P2, F2, A2, J2⟩ ⟨q2, w2⟩
  dsimp only at q2 w2 ⊢
  have e5' : P2 37 5 = d := by rw [q2.1]; exact e5
  rw [e5']
  refine ok_chk hk ?_
  have k2 := q2.dd hd 15
  refine ok_call (s_newName_v1 e5' hk q2.2.2.2.1 (by rw [k2]; omega) (by omega)) ?_
  rintro ⟨u3, P3, F3, A3, J3⟩ q3
  dsimp only at q3 ⊢
  have e5'' : P3 37 5 = d := by rw [(q2.tr q3).1]; exact e5
  rw [e5'']
  refine ok_chk hk ?_
  refine ok_call (s_known q3.2.2.2.1 (by omega)) ?_
  rintro ⟨v14, P4, F4, A4, J4⟩ ⟨q4, a4, b4, c4, d4⟩
  dsimp only at q4 a4 b4 c4 d4 ⊢
  refine ok_call (s_take q4.2.2.2.1) ?_
  rintro ⟨v, P5, F5, A5, J5⟩ ⟨q5, w5⟩
  dsimp only at q5 w5 ⊢
  have qa := ((q2.tr q3).tr q4).tr q5
  have V5 := V.q hd qa
  refine ok_cond (fun _ => ok_some ⟨qa.1, V5⟩) (fun c => ?_)
  rw [i_neq, l0] at c
  have z5 : cf F5 37 10 = 0 := by omega
  have lt : (F d 15).toInt < 6 := by
    rcases w2 with h | h
    · exact absurd (q5.2.2.2.2.2.1 (q4.2.2.2.2.2.1 (q3.2.2.2.2.2.1 h))) (by omega)
    · omega
  have k5 := qa.dd hd 15
  have x5 : P5 37 5 = d := by rw [qa.1]; exact e5
  have x6 : P5 37 6 = 3 := by rw [qa.1]; exact e6
  rw [x5, x6]
  refine ok_chk (by decide) ?_
  refine ok_chk hk ?_
  rw [k5]
  refine ok_cst (by omega) (by omega) ?_
  intro A6 U6
  refine ok_chk hk ?_
  refine ok_cpf ?_
  intro F7 U7
  have e := i_add (x := F d 15) (y := 1) (by omega) (by omega)
  have ad : ∀ o, A6 d o = A5 d o := fun o => U6.2.2 d o (fun h => h3 h.1)
  rw [k5] at U7
  suffices V6 : RVc d F0 F7 A0 A6 from ok_some ⟨qa.1, V6⟩
  refine V5.up hd ((V5.1.st U6 trivial).pf U7 (by rw [hk]; exact (show 0 ≤ (F d 15 + 1).toInt ∧ (F d 15 + 1).toInt ≤ 6 by omega))) (fun r k a _ => U7.2 r k (fun h => a h.1)) (fun r o _ b => U6.2.2 r o (fun h => b h.1)) (by unfold cf; rw [U7.2 d 16 (by simp), ci_fr (ad 5)]; exact V5.2.2.1) (U7.2 d 1304 (by simp)) (.inr (.inr (fun D => ?_)))
  unfold DVc CVc LVc LVx cf
  rw [U7.2 d 14 (by simp), U7.2 d 17 (by simp), U7.2 d 16 (by simp), U7.2 d 1304 (by simp), U7.2 d 18 (by simp), ci_fr (ad 1), ci_fr (ad 2), ci_fr (ad 12), ci_fr (ad 4), ci_fr (ad 5), ci_fr (ad 11), ci_fr (ad 15), ci_fr (ad 16), ci_fr (U6.2.2 3 3 (by simp))]
  exact D
end R9a
