/-! what a text without fault says of its numbers: the class reads -/
section H9f0
variable {P P' : Nat → Nat → Nat} {F F' F0 : Nat → Nat → Int32} {A A' A0 : Nat → Nat → Nat → Int32} {J : Nat → Nat → Nat → Int64} {n d : Nat}
/-- bits and signs -/
theorem i_msb {x : Int32} : 0 ≤ x.toInt ↔ x.toBitVec.msb = false := by
  have e : x.toInt = x.toBitVec.toInt := rfl
  have l := x.toBitVec.isLt
  rw [e, BitVec.toInt_eq_msb_cond]
  cases hb : x.toBitVec.msb with
  | false => simp
  | true =>
    simp only [if_true]
    constructor
    · intro h
      omega
    · intro h
      cases h
theorem i_or0 {x y : Int32} (hx : 0 ≤ x.toInt) (hy : 0 ≤ y.toInt) : 0 ≤ (x ||| y).toInt := by
  rw [i_msb] at hx hy ⊢
  have e : (x ||| y).toBitVec = x.toBitVec ||| y.toBitVec := rfl
  rw [e, BitVec.msb_or, hx, hy]
  rfl
theorem i_and0 {x y : Int32} (hx : 0 ≤ x.toInt) : 0 ≤ (x &&& y).toInt := by
  rw [i_msb] at hx ⊢
  have e : (x &&& y).toBitVec = x.toBitVec &&& y.toBitVec := rfl
  rw [e, BitVec.msb_and, hx]
  rfl
theorem b_shl : ∀ d : Fin 12, 0 ≤ ((1 : Int32) <<< (Int32.ofNat d.val &&& 31)).toInt := by decide
/-- twelve bits at most -/
abbrev B7 (v : Int32) : Prop := v &&& 4095 = v
theorem bool7 : ∀ p q r : Bool, (p && r) = p → (q && r) = q → ((p || q) && r) = (p || q) := by decide
theorem bool8 : ∀ p q r : Bool, (p && r) = p → ((p && q) && r) = (p && q) := by decide
theorem b7_bv {x : Int32} (h : B7 x) : x.toBitVec &&& (4095 : Int32).toBitVec = x.toBitVec := congrArg Int32.toBitVec h
theorem b7_or {x y : Int32} (hx : B7 x) (hy : B7 y) : B7 (x ||| y) := by
  have a := b7_bv hx
  have b := b7_bv hy
  apply Int32.toBitVec_inj.mp
  show (x.toBitVec ||| y.toBitVec) &&& (4095 : Int32).toBitVec = x.toBitVec ||| y.toBitVec
  apply BitVec.eq_of_getLsbD_eq
  intro i hi
  rw [BitVec.getLsbD_and, BitVec.getLsbD_or]
  exact bool7 _ _ _ (by rw [← BitVec.getLsbD_and, a]) (by rw [← BitVec.getLsbD_and, b])
theorem b7_and {x y : Int32} (hx : B7 x) : B7 (x &&& y) := by
  have a := b7_bv hx
  apply Int32.toBitVec_inj.mp
  show (x.toBitVec &&& y.toBitVec) &&& (4095 : Int32).toBitVec = x.toBitVec &&& y.toBitVec
  apply BitVec.eq_of_getLsbD_eq
  intro i hi
  rw [BitVec.getLsbD_and, BitVec.getLsbD_and]
  exact bool8 _ _ _ (by rw [← BitVec.getLsbD_and, a])
theorem b7_shl : ∀ d : Fin 12, B7 ((1 : Int32) <<< (Int32.ofNat d.val &&& 31)) := by decide
theorem b7_0 : B7 0 := by decide
theorem b7_m1 : ¬ B7 (-1) := by decide
theorem b7_nat {x : Int32} (h : B7 x) : ∃ n : Nat, n < 4096 ∧ x = Int32.ofNat n := by
  have hb := b7_bv h
  have le : x.toBitVec.toNat ≤ 4095 := by
    rw [← hb, BitVec.toNat_and]
    exact Nat.le_trans Nat.and_le_right (by decide)
  refine ⟨x.toBitVec.toNat, by omega, ?_⟩
  apply Int32.toBitVec_inj.mp
  show x.toBitVec = BitVec.ofNat 32 x.toBitVec.toNat
  simp
/-- what the first evening keeps to -/
def Z3c (F : Nat → Nat → Int32) (A : Nat → Nat → Nat → Int32) : Prop := (∀ t, 0 ≤ t → t < 6 → 0 ≤ ci A 3 2 t) ∧ B7 (F 3 7)
theorem Z3c.cg (h : Z3c F A) (h7 : F' 3 7 = F 3 7) (h2 : A' 3 2 = A 3 2) : Z3c F' A' := by
  unfold Z3c
  rw [h7, ci_fr h2]
  exact h
def EYc (F : Nat → Nat → Int32) (A : Nat → Nat → Nat → Int32) (d : Nat) : Prop := (∀ x, 0 ≤ x → x < (F d 14).toInt → (0 ≤ ci A d 1 x ∧ ci A d 1 x < (F d 13).toInt) ∧ (0 ≤ ci A d 2 x ∧ ci A d 2 x < (F d 13).toInt) ∧ 1 ≤ ci A d 3 x ∧ ci A d 3 x ≤ 60) ∧ (∀ t, 0 ≤ t → t < (F d 16).toInt → (0 ≤ ci A d 4 t ∧ ci A d 4 t < (F d 13).toInt) ∧ 0 ≤ ci A 3 2 t ∧ ci A 3 2 t ≤ 999) ∧ (∀ t u, 0 ≤ t → t < 6 → 0 ≤ u → u < ci A d 5 t → (1 ≤ ci A d 6 (t * 6 + u) ∧ ci A d 6 (t * 6 + u) ≤ 120) ∧ (0 ≤ ci A d 7 (t * 6 + u) ∧ ci A d 7 (t * 6 + u) ≤ 99) ∧ (0 ≤ ci A d 8 (t * 6 + u) ∧ ci A d 8 (t * 6 + u) ≤ 99) ∧ (0 ≤ ci A d 9 (t * 6 + u) ∧ ci A d 9 (t * 6 + u) ≤ 99) ∧ ci A d 10 (t * 6 + u) ≤ 5 ∧ ci A d 11 (t * 6 + u) ≤ 5 ∧ (ci A d 10 (t * 6 + u) = -2 ∨ 0 ≤ ci A d 10 (t * 6 + u)) ∧ (ci A d 11 (t * 6 + u) = -2 ∨ 0 ≤ ci A d 11 (t * 6 + u))) ∧ (∀ m, 0 ≤ m → m < (F d 17).toInt → 0 ≤ ci A d 12 m ∧ ci A d 12 m < (F d 13).toInt) ∧ Z3c F A
def EVc (F : Nat → Nat → Int32) (A : Nat → Nat → Nat → Int32) (d : Nat) : Prop := cf F 37 10 ≠ 0 ∨ cf F 37 12 ≠ 0 ∨ EYc F A d
theorem EYc.cg (Y : EYc F A d) (hF : ∀ k, F' d k = F d k) (hA : ∀ o, o ≤ 12 → A' d o = A d o) (h3 : A' 3 2 = A 3 2) (h7 : F' 3 7 = F 3 7) : EYc F' A' d := by
  unfold EYc
  rw [hF, hF, hF, hF, ci_fr h3, ci_fr (hA 1 (by decide)), ci_fr (hA 2 (by decide)), ci_fr (hA 3 (by decide)), ci_fr (hA 4 (by decide)), ci_fr (hA 5 (by decide)), ci_fr (hA 6 (by decide)), ci_fr (hA 7 (by decide)), ci_fr (hA 8 (by decide)), ci_fr (hA 9 (by decide)), ci_fr (hA 10 (by decide)), ci_fr (hA 11 (by decide)), ci_fr (hA 12 (by decide))]
  exact ⟨Y.1, Y.2.1, Y.2.2.1, Y.2.2.2.1, Y.2.2.2.2.cg h7 h3⟩
theorem EVc.q (Y : EVc F A d) (hd : d ≠ 37) (q : QRc P P' F F' A A') : EVc F' A' d := by
  rcases Y with h | h | h
  · exact .inl (q.2.2.2.2.2.1 h)
  · exact .inr (.inl (q.2.2.2.2.2.2 h))
  · exact .inr (.inr (h.cg (fun k => q.dd hd k) (fun o _ => by rw [q.2.1]) (by rw [q.2.1]) (q.dd (by decide) 7)))
/-- faults stay -/
theorem QRc.or {X : Prop} (q : QRc P P' F F' A A') (h : cf F 37 10 ≠ 0 ∨ cf F 37 12 ≠ 0 ∨ X) : cf F' 37 10 ≠ 0 ∨ cf F' 37 12 ≠ 0 ∨ X := h.imp q.2.2.2.2.2.1 (fun h => h.imp q.2.2.2.2.2.2 id)
theorem or_and3 {a b X Y : Prop} (h : a ∨ b ∨ X) (k : a ∨ b ∨ Y) : a ∨ b ∨ (X ∧ Y) := by
  rcases h with h | h | h
  · exact .inl h
  · exact .inr (.inl h)
  · rcases k with k | k | k
    · exact .inl k
    · exact .inr (.inl k)
    · exact .inr (.inr ⟨h, k⟩)
abbrev EPo (d : Nat) (o : Option (cR Unit)) : Prop := po o (fun r => EVc r.2.2.1 r.2.2.2.1 d)
theorem y_readRoom (e5 : P 37 5 = d) (hk : c_kind d = 6) (R : Rc F A) (Y : EVc F A d) (hn : 20 ≤ n) : EPo d (e_Reader_readRoom n P F A J) := by
  have hd := kd37 hk
  unfold e_Reader_readRoom
  rw [e5]
  refine po_bl (fun _ h => ?_)
  obtain rfl := (gg_chk h).2.symm
  refine po_call (s_takeFirst R).po ?_
  rintro ⟨u2, P2, F2, A2, J2⟩ ⟨q2, w2⟩
  dsimp only at q2 w2 ⊢
  refine po_bl (fun _ h => ?_)
  obtain rfl := (gg_chk h).2.symm
  have e5' : P2 37 5 = d := by rw [q2.1]; exact e5
  rw [e5']
  have r13 := (q2.2.2.2.1).h hk
  refine po_call (s_newName e5' hk q2.2.2.2.1 (by omega) (by omega)).po ?_
  rintro ⟨u3, P3, F3, A3, J3⟩ q3
  dsimp only at q3 ⊢
  refine po_call (s_take q3.2.2.2.1).po ?_
  rintro ⟨v, P5, F5, A5, J5⟩ ⟨q5, w5⟩
  dsimp only at q5 w5 ⊢
  have qa := (q2.tr q3).tr q5
  have Y5 := Y.q hd qa
  refine po_cond (fun _ => po_some Y5) (fun c => ?_)
  rw [i_neq, i_0] at c
  refine po_bl (fun _ h => ?_)
  obtain rfl := (gg_chk h).2.symm
  have e5'' : P5 37 5 = d := by rw [qa.1]; exact e5
  rw [e5'']
  refine po_bl (fun F6 h6 => po_some ?_)
  have U := gg_cpf h6
  have z5 : cf F5 37 10 = 0 := by omega
  have k13 := qa.dd hd 13
  have lt : (F5 d 13).toInt < 8 := by
    rw [k13]
    rcases w2 with h | h
    · exact absurd z5 ((q3.tr q5).2.2.2.2.2.1 h)
    · exact h.1
  have rh := (q5.2.2.2.1).h hk
  have e13 : (F6 d 13).toInt = (F5 d 13).toInt + 1 := by rw [U.1, i_p1 (by omega)]
  show EVc F6 A5 d
  rcases Y5 with h | h | h
  · exact absurd z5 h
  · exact .inr (.inl (by unfold cf at h ⊢; rw [U.2 37 12 (fun e => hd e.1.symm)]; exact h))
  · refine .inr (.inr ?_)
    obtain ⟨y1, y2, y3, y4, y5⟩ := h
    have f : ∀ k, k ≠ 13 → F6 d k = F5 d k := fun k hk => U.2 d k (fun e => hk e.2)
    unfold EYc
    rw [e13, f 14 (by decide), f 16 (by decide), f 17 (by decide)]
    exact ⟨fun x a b => by have := y1 x a b; omega, fun t a b => by have := y2 t a b; omega, y3, fun m a b => by have := y4 m a b; omega, y5.cg (U.2 3 7 (fun e => absurd e.2 (by decide))) rfl⟩
theorem y_readTool (e5 : P 37 5 = d) (e6 : P 37 6 = 3) (hk : c_kind d = 6) (R : Rc F A) (Y : EVc F A d) (hn : 20 ≤ n) : EPo d (e_Reader_readTool n P F A J) := by
  have hd := kd37 hk
  have h3 := kd3 hk
  unfold e_Reader_readTool
  rw [e5]
  refine po_bl (fun _ h => ?_)
  obtain rfl := (gg_chk h).2.symm
  refine po_call (s_takeFirst R).po ?_
  rintro ⟨u2, P2, F2, A2, J2⟩ ⟨q2, w2⟩
  dsimp only at q2 w2 ⊢
  refine po_bl (fun _ h => ?_)
  obtain rfl := (gg_chk h).2.symm
  have e5' : P2 37 5 = d := by rw [q2.1]; exact e5
  rw [e5']
  have r13 := (q2.2.2.2.1).h hk
  refine po_call (s_newName_v1 e5' hk q2.2.2.2.1 (by omega) (by omega)).po ?_
  rintro ⟨u3, P3, F3, A3, J3⟩ q3
  dsimp only at q3 ⊢
  refine po_bl (fun _ h => ?_)
  obtain rfl := (gg_chk h).2.symm
  refine po_call (s_known q3.2.2.2.1 (by omega)).po ?_
  rintro ⟨v14, P4, F4, A4, J4⟩ ⟨q4, -⟩
  dsimp only at q4 ⊢
  refine po_call (s_take q4.2.2.2.1).po ?_
  rintro ⟨v, P5, F5, A5, J5⟩ ⟨q5, w5⟩
  dsimp only at q5 w5 ⊢
  have qa := ((q2.tr q3).tr q4).tr q5
  have Y5 := Y.q hd qa
  refine po_cond (fun _ => po_some Y5) (fun c => ?_)
  have x5 : P5 37 5 = d := by rw [qa.1]; exact e5
  have x6 : P5 37 6 = 3 := by rw [qa.1]; exact e6
  rw [x5, x6]
  refine po_bl (fun _ h => ?_)
  obtain rfl := (gg_chk h).2.symm
  refine po_bl (fun _ h => ?_)
  obtain rfl := (gg_chk h).2.symm
  refine po_bl (fun A6 h6 => po_bl (fun _ h => ?_))
  obtain rfl := (gg_chk h).2.symm
  refine po_bl (fun F7 h7 => po_some ?_)
  have U6 := (gg_cst h6).2.2
  have U7 := gg_cpf h7
  show EVc F7 A6 d
  rcases Y5 with h | h | h
  · exact .inl (by unfold cf at h ⊢; rw [U7.2 37 10 (fun e => hd e.1.symm)]; exact h)
  · exact .inr (.inl (by unfold cf at h ⊢; rw [U7.2 37 12 (fun e => hd e.1.symm)]; exact h))
  · refine .inr (.inr ?_)
    have f : ∀ k, k ≠ 15 → F7 d k = F5 d k := fun k hk => U7.2 d k (fun e => hk e.2)
    have a : ∀ o, A6 d o = A5 d o := fun o => U6.2.2 d o (fun e => h3 e.1)
    have a3 : A6 3 2 = A5 3 2 := U6.2.2 3 2 (by decide)
    unfold EYc
    rw [f 13 (by decide), f 14 (by decide), f 16 (by decide), f 17 (by decide), ci_fr a3, ci_fr (a 1), ci_fr (a 2), ci_fr (a 3), ci_fr (a 4), ci_fr (a 5), ci_fr (a 6), ci_fr (a 7), ci_fr (a 8), ci_fr (a 9), ci_fr (a 10), ci_fr (a 11), ci_fr (a 12)]
    exact ⟨h.1, h.2.1, h.2.2.1, h.2.2.2.1, h.2.2.2.2.cg (U7.2 3 7 (fun e => absurd e.2 (by decide))) a3⟩
theorem y_readDoor_91 {x1 x2 x3 s0 : Int32} (e5 : P 37 5 = d) (e6 : P 37 6 = 3) (hk : c_kind d = 6) (R : Rc F A) (Y : EVc F A d) (hv : cf F 37 10 ≠ 0 ∨ cf F 37 12 ≠ 0 ∨ ((0 ≤ x1.toInt ∧ x1.toInt < (F d 13).toInt) ∧ (0 ≤ x2.toInt ∧ x2.toInt < (F d 13).toInt) ∧ 1 ≤ x3.toInt ∧ x3.toInt ≤ 60)) : EPo d (e_Reader_readDoor_91 n P F A J x1 x2 x3 s0) := by
  have hd := kd37 hk
  have h3 := kd3 hk
  unfold e_Reader_readDoor_91
  refine po_call (s_take R).po ?_
  rintro ⟨v, P5, F5, A5, J5⟩ ⟨q5, w5⟩
  dsimp only at q5 w5 ⊢
  have Y5 := Y.q hd q5
  have hv5 := q5.or hv
  refine po_cond (fun _ => po_some Y5) (fun c => ?_)
  have x5 : P5 37 5 = d := by rw [q5.1]; exact e5
  have x6 : P5 37 6 = 3 := by rw [q5.1]; exact e6
  rw [x5, x6]
  refine po_bl (fun _ h => ?_)
  obtain rfl := (gg_chk h).2.symm
  refine po_bl (fun _ h => ?_)
  obtain rfl := (gg_chk h).2.symm
  refine po_bl (fun A6 h6 => po_bl (fun _ h => ?_))
  obtain rfl := (gg_chk h).2.symm
  refine po_bl (fun A7 h7 => po_bl (fun _ h => ?_))
  obtain rfl := (gg_chk h).2.symm
  refine po_bl (fun A8 h8 => po_bl (fun _ h => ?_))
  obtain rfl := (gg_chk h).2.symm
  have U6 := gg_cst h6
  have U7 := (gg_cst h7).2.2
  have U8 := (gg_cst h8).2.2
  have b6 := U6.1
  have U6 := U6.2.2
  have lt := (gg_cst h6).2.1
  have f165 : ∀ {s1 s2 : Int32}, s1 = F5 3 7 → B7 s2 → EPo d (e_Reader_readDoor_165 n P5 F5 A8 J5 3 s1 s2) := by
    intro s1 s2 hs1 hs2
    unfold e_Reader_readDoor_165
    refine po_bl (fun F9 h9 => ?_)
    rw [x5]
    refine po_bl (fun _ h => ?_)
    obtain rfl := (gg_chk h).2.symm
    refine po_bl (fun F10 h10 => po_some ?_)
    have U9 := gg_cpf h9
    have U10 := gg_cpf h10
    have k9 : F9 d 14 = F5 d 14 := U9.2 d 14 (fun h => h3 h.1)
    rw [k9] at U10
    have fd : ∀ k, k ≠ 14 → F10 d k = F5 d k := fun k hkk => (U10.2 d k (fun h => hkk h.2)).trans (U9.2 d k (fun h => h3 h.1))
    have f37 : ∀ k, F10 37 k = F5 37 k := fun k => (U10.2 37 k (fun h => hd h.1.symm)).trans (U9.2 37 k (by simp))
    have ad : ∀ o, o ≠ 1 → o ≠ 2 → o ≠ 3 → A8 d o = A5 d o := fun o a b c => (U8.2.2 d o (fun h => c h.2)).trans ((U7.2.2 d o (fun h => b h.2)).trans (U6.2.2 d o (fun h => a h.2)))
    have a3 : A8 3 2 = A5 3 2 := (U8.2.2 3 2 (fun h => h3 h.1.symm)).trans ((U7.2.2 3 2 (fun h => h3 h.1.symm)).trans (U6.2.2 3 2 (fun h => h3 h.1.symm)))
    have e14 : (F10 d 14).toInt = (F5 d 14).toInt + 1 := by rw [U10.1, i_p1 (by omega)]
    show EVc F10 A8 d
    have YY := or_and3 Y5 hv5
    have c10 : cf F10 37 10 = cf F5 37 10 := by unfold cf; rw [f37]
    have c12 : cf F10 37 12 = cf F5 37 12 := by unfold cf; rw [f37]
    unfold EVc
    rw [c10, c12]
    refine YY.imp id (fun h => h.imp id (fun h => ?_))
    obtain ⟨⟨y1, y2, y3, y4, y5⟩, g1, g2, g3⟩ := h
    rw [← q5.dd hd 13] at g1 g2
    unfold EYc
    rw [e14, fd 13 (by decide), fd 16 (by decide), fd 17 (by decide), ci_fr a3, ci_fr (ad 4 (by decide) (by decide) (by decide)), ci_fr (ad 5 (by decide) (by decide) (by decide)), ci_fr (ad 6 (by decide) (by decide) (by decide)), ci_fr (ad 7 (by decide) (by decide) (by decide)), ci_fr (ad 8 (by decide) (by decide) (by decide)), ci_fr (ad 9 (by decide) (by decide) (by decide)), ci_fr (ad 10 (by decide) (by decide) (by decide)), ci_fr (ad 11 (by decide) (by decide) (by decide)), ci_fr (ad 12 (by decide) (by decide) (by decide))]
    have z37 : B7 (F10 3 7) := by
      rw [U10.2 3 7 (fun e => h3 e.1.symm), U9.1, hs1]
      exact b7_or y5.2 hs2
    refine ⟨fun x a b => ?_, y2, y3, y4, ⟨fun t t0 t1 => by rw [ci_fr a3]; exact y5.1 t t0 t1, z37⟩⟩
    have z1 : ci A8 d 1 = ci A6 d 1 := by rw [ci_fr (U8.2.2 d 1 (by simp)), ci_fr (U7.2.2 d 1 (by simp))]
    have z2 : ci A8 d 2 = ci A7 d 2 := ci_fr (U8.2.2 d 2 (by simp))
    rw [z1, z2]
    by_cases e : x = (F5 d 14).toInt
    · rw [e, U6.1, U7.1, U8.1]
      exact ⟨g1, g2, g3⟩
    · rw [U6.2.1 x a e, U7.2.1 x a e, ci_fr (U6.2.2 d 2 (by simp)), U8.2.1 x a e, ci_fr (U7.2.2 d 3 (by simp)), ci_fr (U6.2.2 d 3 (by simp))]
      exact y1 x a (by omega)
  have m14 : (F5 d 14).toInt < 12 := lt
  have p14 : 0 ≤ (F5 d 14).toInt := (gg_cst h6).1
  refine po_cond (fun _ => f165 rfl b7_0) (fun _ => f165 rfl ?_)
  rw [i_nat p14]
  exact b7_shl ⟨(F5 d 14).toInt.toNat, by omega⟩
theorem y_readDoor (e5 : P 37 5 = d) (e6 : P 37 6 = 3) (hk : c_kind d = 6) (R : Rc F A) (Y : EVc F A d) (hn : 20 ≤ n) : EPo d (e_Reader_readDoor n P F A J) := by
  have hd := kd37 hk
  have l60 : (60 : Int32).toInt = 60 := by decide
  unfold e_Reader_readDoor
  rw [e5]
  refine po_bl (fun _ h => ?_)
  obtain rfl := (gg_chk h).2.symm
  refine po_call (s_takeFirst R).po ?_
  rintro ⟨u2, P2, F2, A2, J2⟩ ⟨q2, w2⟩
  dsimp only at q2 w2 ⊢
  have e5' : P2 37 5 = d := by rw [q2.1]; exact e5
  rw [e5']
  refine po_bl (fun _ h => ?_)
  obtain rfl := (gg_chk h).2.symm
  refine po_call (s_known q2.2.2.2.1 (by omega)).po ?_
  rintro ⟨v8, P3, F3, A3, J3⟩ ⟨q3, a3, b3, c3, d3⟩
  dsimp only at q3 a3 b3 c3 d3 ⊢
  have e5'' : P3 37 5 = d := by rw [(q2.tr q3).1]; exact e5
  rw [e5'']
  refine po_bl (fun _ h => ?_)
  obtain rfl := (gg_chk h).2.symm
  refine po_call (s_known q3.2.2.2.1 (by omega)).po ?_
  rintro ⟨v14, P4, F4, A4, J4⟩ ⟨q4, a4, b4, c4, d4⟩
  dsimp only at q4 a4 b4 c4 d4 ⊢
  have qa := (q2.tr q3).tr q4
  have k3 : F3 d 13 = F2 d 13 := q3.dd hd 13
  have k4 : F4 d 13 = F2 d 13 := (q4.dd hd 13).trans k3
  have g4 : cf F4 37 10 ≠ 0 ∨ cf F4 37 12 ≠ 0 ∨ ((0 ≤ v8.toInt ∧ v8.toInt < (F4 d 13).toInt) ∧ (0 ≤ v14.toInt ∧ v14.toInt < (F4 d 13).toInt)) := by
    rw [k4]
    rw [k3] at b4
    refine or_and3 (q4.or ?_) ?_
    · rcases d3 with h | h | h
      · exact .inr (.inr ⟨h, by omega⟩)
      · exact .inl h
      · exact .inr (.inl h)
    · rcases d4 with h | h | h
      · exact .inr (.inr ⟨h, by omega⟩)
      · exact .inl h
      · exact .inr (.inl h)
  have rest : ∀ {P5 F5 A5 J5}, QRc P4 P5 F4 F5 A4 A5 → EPo d ((e_Reader_takeNumber P5 F5 A5 J5 1 60).bind fun (v39, P40, F41, A42, J43) => (e_Reader_isNext P40 F41 A42 J43 8).bind fun v44 => cond (g_cnd .eq v44 0) (e_Reader_readDoor_90 n P40 F41 A42 J43 v8 v14 v39) ((e_Reader_take P40 F41 A42 J43 8).bind fun (v46, P47, F48, A49, J50) => cond (g_cnd .eq v46 0) (e_Reader_readDoor_90 n P47 F48 A49 J50 v8 v14 v39) (e_Reader_readDoor_91 n P47 F48 A49 J50 v8 v14 v39 1))) := by
    intro P5 F5 A5 J5 q5
    refine po_call (s_takeNumber q5.2.2.2.1).po ?_
    rintro ⟨v39, P6, F6, A6, J6⟩ ⟨q6, w6⟩
    dsimp only at q6 w6 ⊢
    rw [i_1, l60] at w6
    have last : ∀ {P7 F7 A7 J7} {s : Int32}, QRc P6 P7 F6 F7 A6 A7 → EPo d (e_Reader_readDoor_91 n P7 F7 A7 J7 v8 v14 v39 s) := by
      intro P7 F7 A7 J7 s q7
      have q46 := q5.tr q6
      have q47 := q46.tr q7
      have qz := qa.tr q47
      have ep : P7 = P := qz.1
      subst ep
      refine y_readDoor_91 e5 e6 hk qz.2.2.2.1 (Y.q hd qz) ?_
      have w := or_and3 (q47.or g4) (q7.or w6)
      rw [q47.dd hd 13]
      exact w.imp id (fun h => h.imp id (fun h => ⟨h.1.1, h.1.2, h.2⟩))
    refine po_call (s_isNext q6.2.2.2.1).po (fun v44 _ => ?_)
    refine po_cond (fun _ => ?_) (fun _ => ?_)
    · unfold e_Reader_readDoor_90
      exact last (QRc.rfl' q6.2.2.2.1)
    · refine po_call (s_take q6.2.2.2.1).po ?_
      rintro ⟨v46, P7, F7, A7, J7⟩ ⟨q7, _⟩
      dsimp only at q7 ⊢
      refine po_cond (fun _ => ?_) (fun _ => ?_)
      · unfold e_Reader_readDoor_90
        exact last q7
      · exact last q7
  have f60 : EPo d (e_Reader_readDoor_60 n P4 F4 A4 J4 v8 v14) := by
    unfold e_Reader_readDoor_60
    exact rest (QRc.rfl' q4.2.2.2.1)
  refine po_cond (fun _ => f60) (fun _ => ?_)
  refine po_cond (fun _ => f60) (fun _ => ?_)
  refine po_call (s_failLate q4.2.2.2.1 (by decide)).po ?_
  rintro ⟨u5, P5, F5, A5, J5⟩ ⟨q5, _⟩
  dsimp only at q5 ⊢
  exact rest q5
theorem y_readTask (e5 : P 37 5 = d) (e6 : P 37 6 = 3) (hk : c_kind d = 6) (R : Rc F A) (Y : EVc F A d) (hn : 20 ≤ n) : EPo d (e_Reader_readTask n P F A J) := by
  have hd := kd37 hk
  have h3 := kd3 hk
  have l999 : (999 : Int32).toInt = 999 := by decide
  unfold e_Reader_readTask
  rw [e5]
  refine po_bl (fun _ h => ?_)
  obtain rfl := (gg_chk h).2.symm
  refine po_call (s_takeFirst R).po ?_
  rintro ⟨u2, P2, F2, A2, J2⟩ ⟨q2, w2⟩
  dsimp only at q2 w2 ⊢
  have e5' : P2 37 5 = d := by rw [q2.1]; exact e5
  rw [e5']
  refine po_bl (fun _ h => ?_)
  obtain rfl := (gg_chk h).2.symm
  have r13 := (q2.2.2.2.1).h hk
  refine po_call (s_newName_v2 e5' hk q2.2.2.2.1 (by omega) (by omega)).po ?_
  rintro ⟨u3, P3, F3, A3, J3⟩ q3
  dsimp only at q3 ⊢
  have e5'' : P3 37 5 = d := by rw [(q2.tr q3).1]; exact e5
  rw [e5'']
  refine po_bl (fun _ h => ?_)
  obtain rfl := (gg_chk h).2.symm
  refine po_call (s_known q3.2.2.2.1 (by omega)).po ?_
  rintro ⟨v14, P4, F4, A4, J4⟩ ⟨q4, a4, b4, c4, d4⟩
  dsimp only at q4 a4 b4 c4 d4 ⊢
  refine po_call (s_takeNumber q4.2.2.2.1).po ?_
  rintro ⟨v19, P5, F5, A5, J5⟩ ⟨q5, w5⟩
  dsimp only at q5 w5 ⊢
  rw [i_0, l999] at w5
  refine po_call (s_take q5.2.2.2.1).po ?_
  rintro ⟨v, P6, F6, A6, J6⟩ ⟨q6, w6⟩
  dsimp only at q6 w6 ⊢
  have qa := (((q2.tr q3).tr q4).tr q5).tr q6
  have Y6 := Y.q hd qa
  refine po_cond (fun _ => po_some Y6) (fun c => ?_)
  have x5 : P6 37 5 = d := by rw [qa.1]; exact e5
  have x6 : P6 37 6 = 3 := by rw [qa.1]; exact e6
  rw [x5, x6]
  refine po_bl (fun _ h => ?_)
  obtain rfl := (gg_chk h).2.symm
  refine po_bl (fun _ h => ?_)
  obtain rfl := (gg_chk h).2.symm
  refine po_bl (fun A7 h7 => po_bl (fun _ h => ?_))
  obtain rfl := (gg_chk h).2.symm
  refine po_bl (fun _ h => ?_)
  obtain rfl := (gg_chk h).2.symm
  refine po_bl (fun A8 h8 => po_bl (fun _ h => ?_))
  obtain rfl := (gg_chk h).2.symm
  refine po_bl (fun F9 h9 => po_some ?_)
  have lt := gg_cst h7
  have U7 := lt.2.2
  have U8 := (gg_cst h8).2.2
  have U9 := gg_cpf h9
  have k3 : F6 d 13 = F3 d 13 := ((q4.tr q5).tr q6).dd hd 13
  have hv : cf F6 37 10 ≠ 0 ∨ cf F6 37 12 ≠ 0 ∨ ((0 ≤ v14.toInt ∧ v14.toInt < (F6 d 13).toInt) ∧ (0 ≤ v19.toInt ∧ v19.toInt ≤ 999)) := by
    rw [k3]
    refine or_and3 ((q5.tr q6).or ?_) (q6.or w5)
    rcases d4 with h | h | h
    · exact .inr (.inr ⟨h, by omega⟩)
    · exact .inl h
    · exact .inr (.inl h)
  have fd : ∀ k, k ≠ 16 → F9 d k = F6 d k := fun k hkk => U9.2 d k (fun h => hkk h.2)
  have ad : ∀ o, o ≠ 4 → A8 d o = A6 d o := fun o ho => (U8.2.2 d o (fun h => h3 h.1)).trans (U7.2.2 d o (fun h => ho h.2))
  have e16 : (F9 d 16).toInt = (F6 d 16).toInt + 1 := by rw [U9.1, i_p1 (by omega)]
  show EVc F9 A8 d
  have c10 : cf F9 37 10 = cf F6 37 10 := by unfold cf; rw [U9.2 37 10 (fun h => hd h.1.symm)]
  have c12 : cf F9 37 12 = cf F6 37 12 := by unfold cf; rw [U9.2 37 12 (fun h => hd h.1.symm)]
  unfold EVc
  rw [c10, c12]
  refine (or_and3 Y6 hv).imp id (fun h => h.imp id (fun h => ?_))
  obtain ⟨⟨y1, y2, y3, y4, y5⟩, g1, g2⟩ := h
  unfold EYc
  rw [e16, fd 13 (by decide), fd 14 (by decide), fd 17 (by decide), ci_fr (ad 1 (by decide)), ci_fr (ad 2 (by decide)), ci_fr (ad 3 (by decide)), ci_fr (ad 5 (by decide)), ci_fr (ad 6 (by decide)), ci_fr (ad 7 (by decide)), ci_fr (ad 8 (by decide)), ci_fr (ad 9 (by decide)), ci_fr (ad 10 (by decide)), ci_fr (ad 11 (by decide)), ci_fr (ad 12 (by decide))]
  have z32 : ∀ t, 0 ≤ t → t < 6 → 0 ≤ ci A8 3 2 t := fun t a b => by
    by_cases e : t = (F6 d 16).toInt
    · rw [e, U8.1]
      exact g2.1
    · rw [U8.2.1 t a e, ci_fr (U7.2.2 3 2 (fun h => h3 h.1.symm))]
      exact y5.1 t a b
  have z37 : B7 (F9 3 7) := by
    rw [U9.2 3 7 (fun e => absurd e.2 (by decide))]
    exact y5.2
  refine ⟨y1, fun t a b => ?_, y3, y4, ⟨z32, z37⟩⟩
  have z4 : ci A8 d 4 = ci A7 d 4 := ci_fr (U8.2.2 d 4 (fun h => h3 h.1))
  rw [z4]
  by_cases e : t = (F6 d 16).toInt
  · rw [e, U7.1, U8.1]
    exact ⟨g1, g2⟩
  · rw [U7.2.1 t a e, U8.2.1 t a e, ci_fr (U7.2.2 3 2 (fun h => h3 h.1.symm))]
    exact y2 t a (by omega)
end H9f0
