section Qz146
/-! what a text without fault says of its numbers: the class reads -/
section H9f0
variable {P P' : Nat → Nat → Nat} {F F' F0 : Nat → Nat → Int32} {A A' A0 : Nat → Nat → Nat → Int32} {J : Nat → Nat → Nat → Int64} {n d : Nat}
/-- bits and signs -/
theorem i_msb {x : Int32} : 0 ≤ x.toInt ↔ x.toBitVec.msb = false := by
  have e : x.toInt = x.toBitVec.toInt := rfl
  have l := x.toBitVec.isLt
  rw [e, BitVec.toInt_eq_msb_cond]
  cases hb : x.toBitVec.msb with
  | false => simp
  | true =>
    simp only [if_true]
    constructor
    · intro h
      omega
    · intro h
      cases h
theorem i_or0 {x y : Int32} (hx : 0 ≤ x.toInt) (hy : 0 ≤ y.toInt) : 0 ≤ (x ||| y).toInt := by
  rw [i_msb] at hx hy ⊢
  have e : (x ||| y).toBitVec = x.toBitVec ||| y.toBitVec := rfl
  rw [e, BitVec.msb_or, hx, hy]
  rfl
theorem i_and0 {x y : Int32} (hx : 0 ≤ x.toInt) : 0 ≤ (x &&& y).toInt := by
  rw [i_msb] at hx ⊢
  have e : (x &&& y).toBitVec = x.toBitVec &&& y.toBitVec := rfl
  rw [e, BitVec.msb_and, hx]
  rfl
theorem b_shl : ∀ d : Fin 12, 0 ≤ ((1 : Int32) <<< (Int32.ofNat d.val &&& 31)).toInt := by decide
/-- twelve bits at most -/
abbrev B7 (v : Int32) : Prop := v &&& 4095 = v
theorem bool7 : ∀ p q r : Bool, (p && r) = p → (q && r) = q → ((p || q) && r) = (p || q) := by decide
theorem bool8 : ∀ p q r : Bool, (p && r) = p → ((p && q) && r) = (p && q) := by decide
theorem b7_bv {x : Int32} (h : B7 x) : x.toBitVec &&& (4095 : Int32).toBitVec = x.toBitVec := congrArg Int32.toBitVec h
theorem b7_or {x y : Int32} (hx : B7 x) (hy : B7 y) : B7 (x ||| y) := by
  have a := b7_bv hx
  have b := b7_bv hy
  apply Int32.toBitVec_inj.mp
  show (x.toBitVec ||| y.toBitVec) &&& (4095 : Int32).toBitVec = x.toBitVec ||| y.toBitVec
  apply BitVec.eq_of_getLsbD_eq
  intro i hi
  rw [BitVec.getLsbD_and, BitVec.getLsbD_or]
  exact bool7 _ _ _ (by rw [← BitVec.getLsbD_and, a]) (by rw [← BitVec.getLsbD_and, b])
theorem b7_and {x y : Int32} (hx : B7 x) : B7 (x &&& y) := by
  have a := b7_bv hx
  apply Int32.toBitVec_inj.mp
  show (x.toBitVec &&& y.toBitVec) &&& (4095 : Int32).toBitVec = x.toBitVec &&& y.toBitVec
  apply BitVec.eq_of_getLsbD_eq
  intro i hi
  rw [BitVec.getLsbD_and, BitVec.getLsbD_and]
  exact bool8 _ _ _ (by rw [← BitVec.getLsbD_and, a])
theorem b7_shl : ∀ d : Fin 12, B7 ((1 : Int32) <<< (Int32.ofNat d.val &&& 31)) := by decide
theorem b7_0 : B7 0 := by decide
theorem b7_m1 : ¬ B7 (-1) := by decide
theorem b7_nat {x : Int32} (h : B7 x) : ∃ n : Nat, n < 4096 ∧ x = Int32.ofNat n := by
  have hb := b7_bv h
  have le : x.toBitVec.toNat ≤ 4095 := by
    rw [← hb, BitVec.toNat_and]
    exact Nat.le_trans Nat.and_le_right (by decide)
  refine ⟨x.toBitVec.toNat, by omega, ?_⟩
  apply Int32.toBitVec_inj.mp
  show x.toBitVec = BitVec.ofNat 32 x.toBitVec.toNat
  simp
/-- what the first evening keeps to -/
def Z3c (F : Nat → Nat → Int32) (A : Nat → Nat → Nat → Int32) : Prop := (∀ t, 0 ≤ t → t < 6 → 0 ≤ ci A 3 2 t) ∧ B7 (F 3 7)
theorem Z3c.cg (h : Z3c F A) (h7 : F' 3 7 = F 3 7) (h2 : A' 3 2 = A 3 2) : Z3c F' A' := by
  unfold Z3c
  rw [h7, ci_fr h2]
  exact h
def EYc (F : Nat → Nat → Int32) (A : Nat → Nat → Nat → Int32) (d : Nat) : Prop := (∀ x, 0 ≤ x → x < (F d 14).toInt → (0 ≤ ci A d 1 x ∧ ci A d 1 x < (F d 13).toInt) ∧ (0 ≤ ci A d 2 x ∧ ci A d 2 x < (F d 13).toInt) ∧ 1 ≤ ci A d 3 x ∧ ci A d 3 x ≤ 60) ∧ (∀ t, 0 ≤ t → t < (F d 16).toInt → (0 ≤ ci A d 4 t ∧ ci A d 4 t < (F d 13).toInt) ∧ 0 ≤ ci A 3 2 t ∧ ci A 3 2 t ≤ 999) ∧ (∀ t u, 0 ≤ t → t < 6 → 0 ≤ u → u < ci A d 5 t → (1 ≤ ci A d 6 (t * 6 + u) ∧ ci A d 6 (t * 6 + u) ≤ 120) ∧ (0 ≤ ci A d 7 (t * 6 + u) ∧ ci A d 7 (t * 6 + u) ≤ 99) ∧ (0 ≤ ci A d 8 (t * 6 + u) ∧ ci A d 8 (t * 6 + u) ≤ 99) ∧ (0 ≤ ci A d 9 (t * 6 + u) ∧ ci A d 9 (t * 6 + u) ≤ 99) ∧ ci A d 10 (t * 6 + u) ≤ 5 ∧ ci A d 11 (t * 6 + u) ≤ 5 ∧ (ci A d 10 (t * 6 + u) = -2 ∨ 0 ≤ ci A d 10 (t * 6 + u)) ∧ (ci A d 11 (t * 6 + u) = -2 ∨ 0 ≤ ci A d 11 (t * 6 + u))) ∧ (∀ m, 0 ≤ m → m < (F d 17).toInt → 0 ≤ ci A d 12 m ∧ ci A d 12 m < (F d 13).toInt) ∧ Z3c F A
def EVc (F : Nat → Nat → Int32) (A : Nat → Nat → Nat → Int32) (d : Nat) : Prop := cf F 37 10 ≠ 0 ∨ cf F 37 12 ≠ 0 ∨ EYc F A d
theorem EYc.cg (Y : EYc F A d) (hF : ∀ k, F' d k = F d k) (hA : ∀ o, o ≤ 12 → A' d o = A d o) (h3 : A' 3 2 = A 3 2) (h7 : F' 3 7 = F 3 7) : EYc F' A' d := by
  unfold EYc
  rw [hF, hF, hF, hF, ci_fr h3, ci_fr (hA 1 (by decide)), ci_fr (hA 2 (by decide)), ci_fr (hA 3 (by decide)), ci_fr (hA 4 (by decide)), ci_fr (hA 5 (by decide)), ci_fr (hA 6 (by decide)), ci_fr (hA 7 (by decide)), ci_fr (hA 8 (by decide)), ci_fr (hA 9 (by decide)), ci_fr (hA 10 (by decide)), ci_fr (hA 11 (by decide)), ci_fr (hA 12 (by decide))]
  exact ⟨Y.1, Y.2.1, Y.2.2.1, Y.2.2.2.1, Y.2.2.2.2.cg h7 h3⟩
theorem EVc.q (Y : EVc F A d) (hd : d ≠ 37) (q : QRc P P' F F' A A') : EVc F' A' d := by
  rcases Y with h | h | h
  · exact .inl (q.2.2.2.2.2.1 h)
  · exact .inr (.inl (q.2.2.2.2.2.2 h))
  · exact .inr (.inr (h.cg (fun k => q.dd hd k) (fun o _ => by rw [q.2.1]) (by rw [q.2.1]) (q.dd (by decide) 7)))
/-- faults stay -/
theorem QRc.or {X : Prop} (q : QRc P P' F F' A A') (h : cf F 37 10 ≠ 0 ∨ cf F 37 12 ≠ 0 ∨ X) : cf F' 37 10 ≠ 0 ∨ cf F' 37 12 ≠ 0 ∨ X := h.imp q.2.2.2.2.2.1 (fun h => h.imp q.2.2.2.2.2.2 id)
theorem or_and3 {a b X Y : Prop} (h : a ∨ b ∨ X) (k : a ∨ b ∨ Y) : a ∨ b ∨ (X ∧ Y) := by
  rcases h with h | h | h
  · exact .inl h
  · exact .inr (.inl h)
  · rcases k with k | k | k
    · exact .inl k
    · exact .inr (.inl k)
    · exact .inr (.inr ⟨h, k⟩)
abbrev EPo (d : Nat) (o : Option (cR Unit)) : Prop := po o (fun r => EVc r.2.2.1 r.2.2.2.1 d)
theorem y_readRoom (e5 : P 37 5 = d) (hk : c_kind d = 6) (R : Rc F A) (Y : EVc F A d) (hn : 20 ≤ n) : EPo d (e_Reader_readRoom n P F A J) := by
  have hd := kd37 hk
  unfold e_Reader_readRoom
  rw [e5]
  refine po_bl (fun _ h => ?_)
  obtain rfl := (gg_chk h).2.symm
  refine po_call (s_takeFirst R).po ?_
  rintro ⟨u2, P2, F2, A2, J2⟩ ⟨q2, w2⟩
  dsimp only at q2 w2 ⊢
  refine po_bl (fun _ h => ?_)
  obtain rfl := (gg_chk h).2.symm
  have e5' : P2 37 5 = d := by rw [q2.1]; exact e5
  rw [e5']
  have r13 := (q2.2.2.2.1).h hk
  refine po_call (s_newName e5' hk q2.2.2.2.1 (by omega) (by omega)).po ?_
  rintro ⟨u3, P3, F3, A3, J3⟩ q3
  dsimp only at q3 ⊢
  refine po_call (s_take q3.2.2.2.1).po ?_
  rintro ⟨v, P5, F5, A5, J5⟩ ⟨q5, w5⟩
  dsimp only at q5 w5 ⊢
  have qa := (q2.tr q3).tr q5
  have Y5 := Y.q hd qa
  refine po_cond (fun _ => po_some Y5) (fun c => ?_)
  rw [i_neq, i_0] at c
  refine po_bl (fun _ h => ?_)
  obtain rfl := (gg_chk h).2.symm
  have e5'' : P5 37 5 = d := by rw [qa.1]; exact e5
  rw [e5'']
  refine po_bl (fun F6 h6 => po_some ?_)
  have U := gg_cpf h6
  have z5 : cf F5 37 10 = 0 := by omega
  have k13 := qa.dd hd 13
  have lt : (F5 d 13).toInt < 8 := by
    rw [k13]
    rcases w2 with h | h
    · exact absurd z5 ((q3.tr q5).2.2.2.2.2.1 h)
    · exact h.1
  have rh := (q5.2.2.2.1).h hk
  have e13 : (F6 d 13).toInt = (F5 d 13).toInt + 1 := by rw [U.1, i_p1 (by omega)]
  show EVc F6 A5 d
  rcases Y5 with h | h | h
  · exact absurd z5 h
  · exact .inr (.inl (by unfold cf at h ⊢; rw [U.2 37 12 (fun e => hd e.1.symm)]; exact h))
  · refine .inr (.inr ?_)
    obtain ⟨y1, y2, y3, y4, y5⟩ := h
    have f : ∀ k, k ≠ 13 → F6 d k = F5 d k := fun k hk => U.2 d k (fun e => hk e.2)
    unfold EYc
    rw [e13, f 14 (by decide), f 16 (by decide), f 17 (by decide)]
    exact ⟨fun x a b => by have := y1 x a b; omega, fun t a b => by have := y2 t a b; omega, y3, fun m a b => by have := y4 m a b; omega, y5.cg (U.2 3 7 (fun e => absurd e.2 (by decide))) rfl⟩
theorem y_readTool (e5 : P 37 5 = d) (e6 : P 37 6 = 3) (hk : c_kind d = 6) (R : Rc F A) (Y : EVc F A d) (hn : 20 ≤ n) : EPo d (e_Reader_readTool n P F A J) := by
  have hd := kd37 hk
  have h3 := kd3 hk
  unfold e_Reader_readTool
  rw [e5]
  refine po_bl (fun _ h => ?_)
  obtain rfl := (gg_chk h).2.symm
  refine po_call (s_takeFirst R).po ?_
  rintro ⟨u2, P2, F2, A2, J2⟩ ⟨q2, w2⟩
  dsimp only at q2 w2 ⊢
  refine po_bl (fun _ h => ?_)
  obtain rfl := (gg_chk h).2.symm
  have e5' : P2 37 5 = d := by rw [q2.1]; exact e5
  rw [e5']
  have r13 := (q2.2.2.2.1).h hk
  refine po_call (s_newName_v1 e5' hk q2.2.2.2.1 (by omega) (by omega)).po ?_
  rintro ⟨u3, P3, F3, A3, J3⟩ q3
  dsimp only at q3 ⊢
  refine po_bl (fun _ h => ?_)
  obtain rfl := (gg_chk h).2.symm
  refine po_call (s_known q3.2.2.2.1 (by omega)).po ?_
  rintro ⟨v14, P4, F4, A4, J4⟩ ⟨q4, -⟩
  dsimp only at q4 ⊢
  refine po_call (s_take q4.2.2.2.1).po ?_
  rintro ⟨v, P5, F5, A5, J5⟩ ⟨q5, w5⟩
  dsimp only at q5 w5 ⊢
  have qa := ((q2.tr q3).tr q4).tr q5
  have Y5 := Y.q hd qa
  refine po_cond (fun _ => po_some Y5) (fun c => ?_)
  have x5 : P5 37 5 = d := by rw [qa.1]; exact e5
  have x6 : P5 37 6 = 3 := by rw [qa.1]; exact e6
  rw [x5, x6]
  refine po_bl (fun _ h => ?_)
  obtain rfl := (gg_chk h).2.symm
  refine po_bl (fun _ h => ?_)
  obtain rfl := (gg_chk h).2.symm
  refine po_bl (fun A6 h6 => po_bl (fun _ h => ?_))
  obtain rfl := (gg_chk h).2.symm
  refine po_bl (fun F7 h7 => po_some ?_)
  have U6 := (gg_cst h6).2.2
  have U7 := gg_cpf h7
  show EVc F7 A6 d
  rcases Y5 with h | h | h
  · exact .inl (by unfold cf at h ⊢; rw [U7.2 37 10 (fun e => hd e.1.symm)]; exact h)
  · exact .inr (.inl (by unfold cf at h ⊢; rw [U7.2 37 12 (fun e => hd e.1.symm)]; exact h))
  · refine .inr (.inr ?_)
    have f : ∀ k, k ≠ 15 → F7 d k = F5 d k := fun k hk => U7.2 d k (fun e => hk e.2)
    have a : ∀ o, A6 d o = A5 d o := fun o => U6.2.2 d o (fun e => h3 e.1)
    have a3 : A6 3 2 = A5 3 2 := U6.2.2 3 2 (by decide)
    unfold EYc
    rw [f 13 (by decide), f 14 (by decide), f 16 (by decide), f 17 (by decide), ci_fr a3, ci_fr (a 1), ci_fr (a 2), ci_fr (a 3), ci_fr (a 4), ci_fr (a 5), ci_fr (a 6), ci_fr (a 7), ci_fr (a 8), ci_fr (a 9), ci_fr (a 10), ci_fr (a 11), ci_fr (a 12)]
    exact ⟨h.1, h.2.1, h.2.2.1, h.2.2.2.1, h.2.2.2.2.cg (U7.2 3 7 (fun e => absurd e.2 (by decide))) a3⟩
theorem y_readDoor_91 {x1 x2 x3 s0 : Int32} (e5 : P 37 5 = d) (e6 : P 37 6 = 3) (hk : c_kind d = 6) (R : Rc F A) (Y : EVc F A d) (hv : cf F 37 10 ≠ 0 ∨ cf F 37 12 ≠ 0 ∨ ((0 ≤ x1.toInt ∧ x1.toInt < (F d 13).toInt) ∧ (0 ≤ x2.toInt ∧ x2.toInt < (F d 13).toInt) ∧ 1 ≤ x3.toInt ∧ x3.toInt ≤ 60)) : EPo d (e_Reader_readDoor_91 n P F A J x1 x2 x3 s0) := by
  have hd := kd37 hk
  have h3 := kd3 hk
  unfold e_Reader_readDoor_91
  refine po_call (s_take R).po ?_
  rintro ⟨v, P5, F5, A5, J5⟩ ⟨q5, w5⟩
  dsimp only at q5 w5 ⊢
  have Y5 := Y.q hd q5
  have hv5 := q5.or hv
  refine po_cond (fun _ => po_some Y5) (fun c => ?_)
  have x5 : P5 37 5 = d := by rw [q5.1]; exact e5
  have x6 : P5 37 6 = 3 := by rw [q5.1]; exact e6
  rw [x5, x6]
  refine po_bl (fun _ h => ?_)
  obtain rfl := (gg_chk h).2.symm
  refine po_bl (fun _ h => ?_)
  obtain rfl := (gg_chk h).2.symm
  refine po_bl (fun A6 h6 => po_bl (fun _ h => ?_))
  obtain rfl := (gg_chk h).2.symm
  refine po_bl (fun A7 h7 => po_bl (fun _ h => ?_))
  obtain rfl := (gg_chk h).2.symm
  refine po_bl (fun A8 h8 => po_bl (fun _ h => ?_))
  obtain rfl := (gg_chk h).2.symm
  have U6 := gg_cst h6
  have U7 := (gg_cst h7).2.2
  have U8 := (gg_cst h8).2.2
  have b6 := U6.1
  have U6 := U6.2.2
  have lt := (gg_cst h6).2.1
  have f165 : ∀ {s1 s2 : Int32}, s1 = F5 3 7 → B7 s2 → EPo d (e_Reader_readDoor_165 n P5 F5 A8 J5 3 s1 s2) := by
    intro s1 s2 hs1 hs2
    unfold e_Reader_readDoor_165
    refine po_bl (fun F9 h9 => ?_)
    rw [x5]
    refine po_bl (fun _ h => ?_)
    obtain rfl := (gg_chk h).2.symm
    refine po_bl (fun F10 h10 => po_some ?_)
    have U9 := gg_cpf h9
    have U10 := gg_cpf h10
    have k9 : F9 d 14 = F5 d 14 := U9.2 d 14 (fun h => h3 h.1)
    rw [k9] at U10
    have fd : ∀ k, k ≠ 14 → F10 d k = F5 d k := fun k hkk => (U10.2 d k (fun h => hkk h.2)).trans (U9.2 d k (fun h => h3 h.1))
    have f37 : ∀ k, F10 37 k = F5 37 k := fun k => (U10.2 37 k (fun h => hd h.1.symm)).trans (U9.2 37 k (by simp))
    have ad : ∀ o, o ≠ 1 → o ≠ 2 → o ≠ 3 → A8 d o = A5 d o := fun o a b c => (U8.2.2 d o (fun h => c h.2)).trans ((U7.2.2 d o (fun h => b h.2)).trans (U6.2.2 d o (fun h => a h.2)))
    have a3 : A8 3 2 = A5 3 2 := (U8.2.2 3 2 (fun h => h3 h.1.symm)).trans ((U7.2.2 3 2 (fun h => h3 h.1.symm)).trans (U6.2.2 3 2 (fun h => h3 h.1.symm)))
    have e14 : (F10 d 14).toInt = (F5 d 14).toInt + 1 := by rw [U10.1, i_p1 (by omega)]
    show EVc F10 A8 d
    have YY := or_and3 Y5 hv5
    have c10 : cf F10 37 10 = cf F5 37 10 := by unfold cf; rw [f37]
    have c12 : cf F10 37 12 = cf F5 37 12 := by unfold cf; rw [f37]
    unfold EVc
    rw [c10, c12]
    refine YY.imp id (fun h => h.imp id (fun h => ?_))
    obtain ⟨⟨y1, y2, y3, y4, y5⟩, g1, g2, g3⟩ := h
    rw [← q5.dd hd 13] at g1 g2
    unfold EYc
    rw [e14, fd 13 (by decide), fd 16 (by decide), fd 17 (by decide), ci_fr a3, ci_fr (ad 4 (by decide) (by decide) (by decide)), ci_fr (ad 5 (by decide) (by decide) (by decide)), ci_fr (ad 6 (by decide) (by decide) (by decide)), ci_fr (ad 7 (by decide) (by decide) (by decide)), ci_fr (ad 8 (by decide) (by decide) (by decide)), ci_fr (ad 9 (by decide) (by decide) (by decide)), ci_fr (ad 10 (by decide) (by decide) (by decide)), ci_fr (ad 11 (by decide) (by decide) (by decide)), ci_fr (ad 12 (by decide) (by decide) (by decide))]
    have z37 : B7 (F10 3 7) := by
      rw [U10.2 3 7 (fun e => h3 e.1.symm), U9.1, hs1]
      exact b7_or y5.2 hs2
    refine ⟨fun x a b => ?_, y2, y3, y4, ⟨fun t t0 t1 => by rw [ci_fr a3]; exact y5.1 t t0 t1, z37⟩⟩
    have z1 : ci A8 d 1 = ci A6 d 1 := by rw [ci_fr (U8.2.2 d 1 (by simp)), ci_fr (U7.2.2 d 1 (by simp))]
    have z2 : ci A8 d 2 = ci A7 d 2 := ci_fr (U8.2.2 d 2 (by simp))
    rw [z1, z2]
    by_cases e : x = (F5 d 14).toInt
    · rw [e, U6.1, U7.1, U8.1]
      exact ⟨g1, g2, g3⟩
    · rw [U6.2.1 x a e, U7.2.1 x a e, ci_fr (U6.2.2 d 2 (by simp)), U8.2.1 x a e, ci_fr (U7.2.2 d 3 (by simp)), ci_fr (U6.2.2 d 3 (by simp))]
      exact y1 x a (by omega)
  have m14 : (F5 d 14).toInt < 12 := lt
  have p14 : 0 ≤ (F5 d 14).toInt := (gg_cst h6).1
  refine po_cond (fun _ => f165 rfl b7_0) (fun _ => f165 rfl ?_)
  rw [i_nat p14]
  exact b7_shl ⟨(F5 d 14).toInt.toNat, by omega⟩
theorem y_readDoor (e5 : P 37 5 = d) (e6 : P 37 6 = 3) (hk : c_kind d = 6) (R : Rc F A) (Y : EVc F A d) (hn : 20 ≤ n) : EPo d (e_Reader_readDoor n P F A J) := by
  have hd := kd37 hk
  have l60 : (60 : Int32).toInt = 60 := by decide
  unfold e_Reader_readDoor
  rw [e5]
  refine po_bl (fun _ h => ?_)
  obtain rfl := (gg_chk h).2.symm
  refine po_call (s_takeFirst R).po ?_
  rintro ⟨u2, P2, F2, A2, J2⟩ ⟨q2, w2⟩
  dsimp only at q2 w2 ⊢
  have e5' : P2 37 5 = d := by rw [q2.1]; exact e5
  rw [e5']
  refine po_bl (fun _ h => ?_)
  obtain rfl := (gg_chk h).2.symm
  refine po_call (s_known q2.2.2.2.1 (by omega)).po ?_
  rintro ⟨v8, P3, F3, A3, J3⟩ ⟨q3, a3, b3, c3, d3⟩
  dsimp only at q3 a3 b3 c3 d3 ⊢
  have e5'' : P3 37 5 = d := by rw [(q2.tr q3).1]; exact e5
  rw [e5'']
  refine po_bl (fun _ h => ?_)
  obtain rfl := (gg_chk h).2.symm
  refine po_call (s_known q3.2.2.2.1 (by omega)).po ?_
  rintro ⟨v14, P4, F4, A4, J4⟩ ⟨q4, a4, b4, c4, d4⟩
  dsimp only at q4 a4 b4 c4 d4 ⊢
  have qa := (q2.tr q3).tr q4
  have k3 : F3 d 13 = F2 d 13 := q3.dd hd 13
  have k4 : F4 d 13 = F2 d 13 := (q4.dd hd 13).trans k3
  have g4 : cf F4 37 10 ≠ 0 ∨ cf F4 37 12 ≠ 0 ∨ ((0 ≤ v8.toInt ∧ v8.toInt < (F4 d 13).toInt) ∧ (0 ≤ v14.toInt ∧ v14.toInt < (F4 d 13).toInt)) := by
    rw [k4]
    rw [k3] at b4
    refine or_and3 (q4.or ?_) ?_
    · rcases d3 with h | h | h
      · exact .inr (.inr ⟨h, by omega⟩)
      · exact .inl h
      · exact .inr (.inl h)
    · rcases d4 with h | h | h
      · exact .inr (.inr ⟨h, by omega⟩)
      · exact .inl h
      · exact .inr (.inl h)
  have rest : ∀ {P5 F5 A5 J5}, QRc P4 P5 F4 F5 A4 A5 → EPo d ((e_Reader_takeNumber P5 F5 A5 J5 1 60).bind fun (v39, P40, F41, A42, J43) => (e_Reader_isNext P40 F41 A42 J43 8).bind fun v44 => cond (g_cnd .eq v44 0) (e_Reader_readDoor_90 n P40 F41 A42 J43 v8 v14 v39) ((e_Reader_take P40 F41 A42 J43 8).bind fun (v46, P47, F48, A49, J50) => cond (g_cnd .eq v46 0) (e_Reader_readDoor_90 n P47 F48 A49 J50 v8 v14 v39) (e_Reader_readDoor_91 n P47 F48 A49 J50 v8 v14 v39 1))) := by
    intro P5 F5 A5 J5 q5
    refine po_call (s_takeNumber q5.2.2.2.1).po ?_
    rintro ⟨v39, P6, F6, A6, J6⟩ ⟨q6, w6⟩
    dsimp only at q6 w6 ⊢
    rw [i_1, l60] at w6
    have last : ∀ {P7 F7 A7 J7} {s : Int32}, QRc P6 P7 F6 F7 A6 A7 → EPo d (e_Reader_readDoor_91 n P7 F7 A7 J7 v8 v14 v39 s) := by
      intro P7 F7 A7 J7 s q7
      have q46 := q5.tr q6
      have q47 := q46.tr q7
      have qz := qa.tr q47
      have ep : P7 = P := qz.1
      subst ep
      refine y_readDoor_91 e5 e6 hk qz.2.2.2.1 (Y.q hd qz) ?_
      have w := or_and3 (q47.or g4) (q7.or w6)
      rw [q47.dd hd 13]
      exact w.imp id (fun h => h.imp id (fun h => ⟨h.1.1, h.1.2, h.2⟩))
    refine po_call (s_isNext q6.2.2.2.1).po (fun v44 _ => ?_)
    refine po_cond (fun _ => ?_) (fun _ => ?_)
    · unfold e_Reader_readDoor_90
      exact last (QRc.rfl' q6.2.2.2.1)
    · refine po_call (s_take q6.2.2.2.1).po ?_
      rintro ⟨v46, P7, F7, A7, J7⟩ ⟨q7, _⟩
      dsimp only at q7 ⊢
      refine po_cond (fun _ => ?_) (fun _ => ?_)
      · unfold e_Reader_readDoor_90
        exact last q7
      · exact last q7
  have f60 : EPo d (e_Reader_readDoor_60 n P4 F4 A4 J4 v8 v14) := by
    unfold e_Reader_readDoor_60
    exact rest (QRc.rfl' q4.2.2.2.1)
  refine po_cond (fun _ => f60) (fun _ => ?_)
  refine po_cond (fun _ => f60) (fun _ => ?_)
  refine po_call (s_failLate q4.2.2.2.1 (by decide)).po ?_
  rintro ⟨u5, P5, F5, A5, J5⟩ ⟨q5, _⟩
  dsimp only at q5 ⊢
  exact rest q5
theorem y_readTask (e5 : P 37 5 = d) (e6 : P 37 6 = 3) (hk : c_kind d = 6) (R : Rc F A) (Y : EVc F A d) (hn : 20 ≤ n) : EPo d (e_Reader_readTask n P F A J) := by
  have hd := kd37 hk
  have h3 := kd3 hk
  have l999 : (999 : Int32).toInt = 999 := by decide
  unfold e_Reader_readTask
  rw [e5]
  refine po_bl (fun _ h => ?_)
  obtain rfl := (gg_chk h).2.symm
  refine po_call (s_takeFirst R).po ?_
  rintro ⟨u2, P2, F2, A2, J2⟩ ⟨q2, w2⟩
  dsimp only at q2 w2 ⊢
  have e5' : P2 37 5 = d := by rw [q2.1]; exact e5
  rw [e5']
  refine po_bl (fun _ h => ?_)
  obtain rfl := (gg_chk h).2.symm
  have r13 := (q2.2.2.2.1).h hk
  refine po_call (s_newName_v2 e5' hk q2.2.2.2.1 (by omega) (by omega)).po ?_
  rintro ⟨u3, P3, F3, A3, J3⟩ q3
  dsimp only at q3 ⊢
  have e5'' : P3 37 5 = d := by rw [(q2.tr q3).1]; exact e5
  rw [e5'']
  refine po_bl (fun _ h => ?_)
  obtain rfl := (gg_chk h).2.symm
  refine po_call (s_known q3.2.2.2.1 (by omega)).po ?_
  rintro ⟨v14, P4, F4, A4, J4⟩ ⟨q4, a4, b4, c4, d4⟩
  dsimp only at q4 a4 b4 c4 d4 ⊢
  refine po_call (s_takeNumber q4.2.2.2.1).po ?_
  rintro ⟨v19, P5, F5, A5, J5⟩ ⟨q5, w5⟩
  dsimp only at q5 w5 ⊢
  rw [i_0, l999] at w5
  refine po_call (s_take q5.2.2.2.1).po ?_
  rintro ⟨v, P6, F6, A6, J6⟩ ⟨q6, w6⟩
  dsimp only at q6 w6 ⊢
  have qa := (((q2.tr q3).tr q4).tr q5).tr q6
  have Y6 := Y.q hd qa
  refine po_cond (fun _ => po_some Y6) (fun c => ?_)
  have x5 : P6 37 5 = d := by rw [qa.1]; exact e5
  have x6 : P6 37 6 = 3 := by rw [qa.1]; exact e6
  rw [x5, x6]
  refine po_bl (fun _ h => ?_)
  obtain rfl := (gg_chk h).2.symm
  refine po_bl (fun _ h => ?_)
  obtain rfl := (gg_chk h).2.symm
  refine po_bl (fun A7 h7 => po_bl (fun _ h => ?_))
  obtain rfl := (gg_chk h).2.symm
  refine po_bl (fun _ h => ?_)
  obtain rfl := (gg_chk h).2.symm
  refine po_bl (fun A8 h8 => po_bl (fun _ h => ?_))
  obtain rfl := (gg_chk h).2.symm
  refine po_bl (fun F9 h9 => po_some ?_)
  have lt := gg_cst h7
  have U7 := lt.2.2
  have U8 := (gg_cst h8).2.2
  have U9 := gg_cpf h9
  have k3 : F6 d 13 = F3 d 13 := ((q4.tr q5).tr q6).dd hd 13
  have hv : cf F6 37 10 ≠ 0 ∨ cf F6 37 12 ≠ 0 ∨ ((0 ≤ v14.toInt ∧ v14.toInt < (F6 d 13).toInt) ∧ (0 ≤ v19.toInt ∧ v19.toInt ≤ 999)) := by
    rw [k3]
    refine or_and3 ((q5.tr q6).or ?_) (q6.or w5)
    rcases d4 with h | h | h
    · exact .inr (.inr ⟨h, by omega⟩)
    · exact .inl h
    · exact .inr (.inl h)
  have fd : ∀ k, k ≠ 16 → F9 d k = F6 d k := fun k hkk => U9.2 d k (fun h => hkk h.2)
  have ad : ∀ o, o ≠ 4 → A8 d o = A6 d o := fun o ho => (U8.2.2 d o (fun h => h3 h.1)).trans (U7.2.2 d o (fun h => ho h.2))
  have e16 : (F9 d 16).toInt = (F6 d 16).toInt + 1 := by rw [U9.1, i_p1 (by omega)]
  show EVc F9 A8 d
  have c10 : cf F9 37 10 = cf F6 37 10 := by unfold cf; rw [U9.2 37 10 (fun h => hd h.1.symm)]
  have c12 : cf F9 37 12 = cf F6 37 12 := by unfold cf; rw [U9.2 37 12 (fun h => hd h.1.symm)]
  unfold EVc
  rw [c10, c12]
  refine (or_and3 Y6 hv).imp id (fun h => h.imp id (fun h => ?_))
  obtain ⟨⟨y1, y2, y3, y4, y5⟩, g1, g2⟩ := h
  unfold EYc
  rw [e16, fd 13 (by decide), fd 14 (by decide), fd 17 (by decide), ci_fr (ad 1 (by decide)), ci_fr (ad 2 (by decide)), ci_fr (ad 3 (by decide)), ci_fr (ad 5 (by decide)), ci_fr (ad 6 (by decide)), ci_fr (ad 7 (by decide)), ci_fr (ad 8 (by decide)), ci_fr (ad 9 (by decide)), ci_fr (ad 10 (by decide)), ci_fr (ad 11 (by decide)), ci_fr (ad 12 (by decide))]
  have z32 : ∀ t, 0 ≤ t → t < 6 → 0 ≤ ci A8 3 2 t := fun t a b => by
    by_cases e : t = (F6 d 16).toInt
    · rw [e, U8.1]
      exact g2.1
    · rw [U8.2.1 t a e, ci_fr (U7.2.2 3 2 (fun h => h3 h.1.symm))]
      exact y5.1 t a b
  have z37 : B7 (F9 3 7) := by
    rw [U9.2 3 7 (fun e => absurd e.2 (by decide))]
    exact y5.2
  refine ⟨y1, fun t a b => ?_, y3, y4, ⟨z32, z37⟩⟩
  have z4 : ci A8 d 4 = ci A7 d 4 := ci_fr (U8.2.2 d 4 (fun h => h3 h.1))
  rw [z4]
  by_cases e : t = (F6 d 16).toInt
  · rw [e, U7.1, U8.1]
    exact ⟨g1, g2⟩
  · rw [U7.2.1 t a e, U8.2.1 t a e, ci_fr (U7.2.2 3 2 (fun h => h3 h.1.symm))]
    exact y2 t a (by omega)
end H9f0
end Qz146
section Qz147
section H9f1
variable {P P' : Nat → Nat → Nat} {F F' F0 : Nat → Nat → Int32} {A A' A0 : Nat → Nat → Nat → Int32} {J : Nat → Nat → Nat → Int64} {n d : Nat}
theorem y_readStep_107 {x1 x2 x3 x4 x5 x6 x7 : Int32} (e5 : P 37 5 = d) (hk : c_kind d = 6) (R : Rc F A) (Y : EVc F A d) (h1 : -1 ≤ x1.toInt ∧ x1.toInt ≤ 5) (hc : cf F 37 10 ≠ 0 ∨ x1.toInt < 0 ∨ ci A d 5 x1.toInt < 6) (hv : cf F 37 10 ≠ 0 ∨ cf F 37 12 ≠ 0 ∨ (x1.toInt < 0 ∨ ((1 ≤ x2.toInt ∧ x2.toInt ≤ 120) ∧ (0 ≤ x3.toInt ∧ x3.toInt ≤ 99) ∧ (0 ≤ x4.toInt ∧ x4.toInt ≤ 99) ∧ (0 ≤ x5.toInt ∧ x5.toInt ≤ 99) ∧ x6.toInt ≤ 5 ∧ x7.toInt ≤ 5 ∧ (x6.toInt = -2 ∨ 0 ≤ x6.toInt) ∧ (x7.toInt = -2 ∨ 0 ≤ x7.toInt)))) : EPo d (e_Reader_readStep_107 n P F A J x1 x2 x3 x4 x5 x6 x7) := by
  have hd := kd37 hk
  have h3 := kd3 hk
  unfold e_Reader_readStep_107
  refine po_call (s_take R).po ?_
  rintro ⟨v, P5, F5, A5, J5⟩ ⟨q5, w5⟩
  dsimp only at q5 w5 ⊢
  have Y5 := Y.q hd q5
  have hv5 := q5.or hv
  have ea : A5 = A := q5.2.1
  subst ea
  refine po_cond (fun _ => po_some Y5) (fun c => ?_)
  refine po_cond (fun _ => po_some Y5) (fun c1 => ?_)
  rw [i_neq, i_0] at c
  rw [i_nlt, i_0] at c1
  have z5 : cf F5 37 10 = 0 := by omega
  have cnt : ci A5 d 5 x1.toInt < 6 := by
    rcases hc with h | h | h
    · exact absurd z5 (q5.2.2.2.2.2.1 h)
    · omega
    · exact h
  have p5 : P5 37 5 = d := by rw [q5.1]; exact e5
  rw [p5]
  refine po_bl (fun _ h => ?_)
  obtain rfl := (gg_chk h).2.symm
  refine po_bl (fun v61 h61 => po_bl (fun _ h => ?_))
  obtain rfl := (gg_chk h).2.symm
  refine po_bl (fun B1 k1 => po_bl (fun _ h => ?_))
  obtain rfl := (gg_chk h).2.symm
  refine po_bl (fun B2 k2 => po_bl (fun _ h => ?_))
  obtain rfl := (gg_chk h).2.symm
  refine po_bl (fun B3 k3 => po_bl (fun _ h => ?_))
  obtain rfl := (gg_chk h).2.symm
  refine po_bl (fun B4 k4 => po_bl (fun _ h => ?_))
  obtain rfl := (gg_chk h).2.symm
  refine po_bl (fun B5 k5 => po_bl (fun _ h => ?_))
  obtain rfl := (gg_chk h).2.symm
  refine po_bl (fun B6 k6 => po_bl (fun _ h => ?_))
  obtain rfl := (gg_chk h).2.symm
  refine po_bl (fun v75 h75 => po_bl (fun B7 k7 => po_some ?_))
  have g61 := (gl h61).2.2
  have g75 := (gl h75).2.2
  have U1 := (gg_cst k1).2.2
  have U2 := (gg_cst k2).2.2
  have U3 := (gg_cst k3).2.2
  have U4 := (gg_cst k4).2.2
  have U5 := (gg_cst k5).2.2
  have U6 := (gg_cst k6).2.2
  have U7 := (gg_cst k7).2.2
  have g0 : 0 ≤ ci A5 d 5 x1.toInt := by
    have := R.2 d 5 x1.toInt c1
    rw [hk] at this
    exact this.1
  have gle : ∀ t, 0 ≤ t → ci A5 d 5 t ≤ 6 := fun t t0 => by
    have := R.2 d 5 t t0
    rw [hk] at this
    exact this.2
  have ic := cx6 (x := x1) (y := v61) (by omega) (by omega)
  rw [ic, g61] at U1 U2 U3 U4 U5 U6
  have b5 : B6 d 5 = A5 d 5 := (U6.2.2 d 5 (by simp)).trans ((U5.2.2 d 5 (by simp)).trans ((U4.2.2 d 5 (by simp)).trans ((U3.2.2 d 5 (by simp)).trans ((U2.2.2 d 5 (by simp)).trans (U1.2.2 d 5 (by simp))))))
  rw [ci_fr b5] at g75
  have e75 := i_p1 (x := v75) (by omega)
  rw [e75, g75] at U7
  have oth : ∀ r o, ¬ (r = d ∧ (o = 5 ∨ o = 6 ∨ o = 7 ∨ o = 8 ∨ o = 9 ∨ o = 10 ∨ o = 11)) → B7 r o = A5 r o := fun r o h => (U7.2.2 r o (by omega)).trans ((U6.2.2 r o (by omega)).trans ((U5.2.2 r o (by omega)).trans ((U4.2.2 r o (by omega)).trans ((U3.2.2 r o (by omega)).trans ((U2.2.2 r o (by omega)).trans (U1.2.2 r o (by omega)))))))
  show EVc F5 B7 d
  refine (or_and3 Y5 hv5).imp id (fun h => h.imp id (fun h => ?_))
  obtain ⟨⟨y1, y2, y3, y4, y5⟩, hv⟩ := h
  obtain ⟨v2, v3, v4, v5, v6, v7⟩ := hv.resolve_left (by omega)
  unfold EYc
  rw [ci_fr (oth d 1 (by simp)), ci_fr (oth d 2 (by simp)), ci_fr (oth d 3 (by simp)), ci_fr (oth d 4 (by simp)), ci_fr (oth d 12 (by simp)), ci_fr (oth 3 2 (fun h => h3 h.1.symm))]
  refine ⟨y1, y2, fun t u t0 t1 u0 u1 => ?_, y4, y5.cg rfl (oth 3 2 (fun h => h3 h.1.symm))⟩
  have s6 : ci B7 d 6 = ci B1 d 6 := by rw [ci_fr (U7.2.2 d 6 (by simp)), ci_fr (U6.2.2 d 6 (by simp)), ci_fr (U5.2.2 d 6 (by simp)), ci_fr (U4.2.2 d 6 (by simp)), ci_fr (U3.2.2 d 6 (by simp)), ci_fr (U2.2.2 d 6 (by simp))]
  have s7 : ci B7 d 7 = ci B2 d 7 := by rw [ci_fr (U7.2.2 d 7 (by simp)), ci_fr (U6.2.2 d 7 (by simp)), ci_fr (U5.2.2 d 7 (by simp)), ci_fr (U4.2.2 d 7 (by simp)), ci_fr (U3.2.2 d 7 (by simp))]
  have s8 : ci B7 d 8 = ci B3 d 8 := by rw [ci_fr (U7.2.2 d 8 (by simp)), ci_fr (U6.2.2 d 8 (by simp)), ci_fr (U5.2.2 d 8 (by simp)), ci_fr (U4.2.2 d 8 (by simp))]
  have s9 : ci B7 d 9 = ci B4 d 9 := by rw [ci_fr (U7.2.2 d 9 (by simp)), ci_fr (U6.2.2 d 9 (by simp)), ci_fr (U5.2.2 d 9 (by simp))]
  have s10 : ci B7 d 10 = ci B5 d 10 := by rw [ci_fr (U7.2.2 d 10 (by simp)), ci_fr (U6.2.2 d 10 (by simp))]
  have s11 : ci B7 d 11 = ci B6 d 11 := by rw [ci_fr (U7.2.2 d 11 (by simp))]
  have p7 : ci B1 d 7 = ci A5 d 7 := ci_fr (U1.2.2 d 7 (by simp))
  have p8 : ci B2 d 8 = ci A5 d 8 := by rw [ci_fr (U2.2.2 d 8 (by simp)), ci_fr (U1.2.2 d 8 (by simp))]
  have p9 : ci B3 d 9 = ci A5 d 9 := by rw [ci_fr (U3.2.2 d 9 (by simp)), ci_fr (U2.2.2 d 9 (by simp)), ci_fr (U1.2.2 d 9 (by simp))]
  have p10 : ci B4 d 10 = ci A5 d 10 := by rw [ci_fr (U4.2.2 d 10 (by simp)), ci_fr (U3.2.2 d 10 (by simp)), ci_fr (U2.2.2 d 10 (by simp)), ci_fr (U1.2.2 d 10 (by simp))]
  have p11 : ci B5 d 11 = ci A5 d 11 := by rw [ci_fr (U5.2.2 d 11 (by simp)), ci_fr (U4.2.2 d 11 (by simp)), ci_fr (U3.2.2 d 11 (by simp)), ci_fr (U2.2.2 d 11 (by simp)), ci_fr (U1.2.2 d 11 (by simp))]
  rw [s6, s7, s8, s9, s10, s11]
  have lt5 : t = x1.toInt ∧ u = ci A5 d 5 x1.toInt ∨ (t * 6 + u ≠ x1.toInt * 6 + ci A5 d 5 x1.toInt ∧ u < ci A5 d 5 t) := by
    by_cases e1 : t = x1.toInt
    · subst e1
      rw [U7.1] at u1
      by_cases e2 : u = ci A5 d 5 x1.toInt
      · exact .inl ⟨rfl, e2⟩
      · exact .inr ⟨by omega, by omega⟩
    · rw [U7.2.1 t t0 e1, ci_fr b5] at u1
      have := gle t t0
      exact .inr ⟨by omega, u1⟩
  rcases lt5 with ⟨rfl, rfl⟩ | ⟨ne, lt⟩
  · rw [U1.1, U2.1, U3.1, U4.1, U5.1, U6.1]
    exact ⟨v2, v3, v4, v5, v6, v7⟩
  · have i0 : 0 ≤ t * 6 + u := by omega
    rw [U1.2.1 _ i0 ne, U2.2.1 _ i0 ne, U3.2.1 _ i0 ne, U4.2.1 _ i0 ne, U5.2.1 _ i0 ne, U6.2.1 _ i0 ne, p7, p8, p9, p10, p11]
    exact y3 t u t0 t1 u0 lt
theorem y_readStep (e5 : P 37 5 = d) (hk : c_kind d = 6) (R : Rc F A) (Y : EVc F A d) (hn : 20 ≤ n) : EPo d (e_Reader_readStep n P F A J) := by
  have lm2 : (-2 : Int32).toInt = -2 := by decide
  have l99 : (99 : Int32).toInt = 99 := by decide
  have l120 : (120 : Int32).toInt = 120 := by decide
  have hd := kd37 hk
  unfold e_Reader_readStep
  refine po_call (s_taskOfStep e5 hk R hn).po ?_
  rintro ⟨v1, P1, F1, A1, J1⟩ ⟨q1, a1, b1, c1, d1⟩
  dsimp only at q1 a1 b1 c1 d1 ⊢
  refine po_call (s_takeNumber q1.2.2.2.1).po ?_
  rintro ⟨v6, P2, F2, A2, J2⟩ ⟨q2, w2⟩
  dsimp only at q2 w2 ⊢
  refine po_call (s_takeNumber q2.2.2.2.1).po ?_
  rintro ⟨v11, P3, F3, A3, J3⟩ ⟨q3, w3⟩
  dsimp only at q3 w3 ⊢
  refine po_call (s_takeNumber q3.2.2.2.1).po ?_
  rintro ⟨v16, P4, F4, A4, J4⟩ ⟨q4, w4⟩
  dsimp only at q4 w4 ⊢
  refine po_call (s_takeNumber q4.2.2.2.1).po ?_
  rintro ⟨v21, P5, F5, A5, J5⟩ ⟨q5, w5⟩
  dsimp only at q5 w5 ⊢
  rw [i_1, l120] at w2
  rw [i_0, l99] at w3 w4 w5
  have qb := ((q2.tr q3).tr q4).tr q5
  have ww := or_and3 (((q3.tr q4).tr q5).or w2) (or_and3 ((q4.tr q5).or w3) (or_and3 (q5.or w4) w5))
  have last : ∀ {P7 F7 A7 J7} {x6 x7 : Int32}, QRc P5 P7 F5 F7 A5 A7 → (cf F7 37 10 ≠ 0 ∨ cf F7 37 12 ≠ 0 ∨ (v1.toInt < 0 ∨ (x6.toInt ≤ 5 ∧ (x6.toInt = -2 ∨ 0 ≤ x6.toInt)))) → (cf F7 37 10 ≠ 0 ∨ cf F7 37 12 ≠ 0 ∨ (v1.toInt < 0 ∨ (x7.toInt ≤ 5 ∧ (x7.toInt = -2 ∨ 0 ≤ x7.toInt)))) → EPo d (e_Reader_readStep_107 n P7 F7 A7 J7 v1 v6 v11 v16 v21 x6 x7) := by
    intro P7 F7 A7 J7 x6 x7 q7 h6 h7
    have q17 := qb.tr q7
    have qz := q1.tr q17
    have ep : P7 = P := qz.1
    subst ep
    refine y_readStep_107 e5 hk qz.2.2.2.1 (Y.q hd qz) ⟨a1, b1⟩ ?_ ?_
    · rw [q17.2.1, q1.2.1]
      rcases d1 with h | h | h
      · exact .inl (q17.2.2.2.2.2.1 h)
      · exact .inr (.inl h)
      · exact .inr (.inr h)
    · refine (or_and3 (q7.or ww) (or_and3 h6 h7)).imp id (fun h => h.imp id (fun h => ?_))
      obtain ⟨⟨g1, g2, g3, g4⟩, g5, g6⟩ := h
      by_cases e : v1.toInt < 0
      · exact .inl e
      · exact .inr ⟨g1, g2, g3, g4, (g5.resolve_left e).1, (g6.resolve_left e).1, (g5.resolve_left e).2, (g6.resolve_left e).2⟩
  have f78 : ∀ {P6 F6 A6 J6} {x6 : Int32}, QRc P5 P6 F5 F6 A5 A6 → (cf F6 37 10 ≠ 0 ∨ cf F6 37 12 ≠ 0 ∨ (v1.toInt < 0 ∨ (x6.toInt ≤ 5 ∧ (x6.toInt = -2 ∨ 0 ≤ x6.toInt)))) → EPo d (e_Reader_readStep_78 n P6 F6 A6 J6 v1 v6 v11 v16 v21 x6) := by
    intro P6 F6 A6 J6 x6 q6 h6
    unfold e_Reader_readStep_78
    refine po_call (s_isNext q6.2.2.2.1).po (fun v40 _ => ?_)
    refine po_cond (fun _ => last q6 h6 (.inr (.inr (.inr (by rw [lm2]; decide))))) (fun _ => ?_)
    refine po_call (s_take q6.2.2.2.1).po ?_
    rintro ⟨v42, P7, F7, A7, J7⟩ ⟨q7, -⟩
    dsimp only at q7 ⊢
    refine po_cond (fun _ => last (q6.tr q7) (q7.or h6) (.inr (.inr (.inr (by rw [lm2]; decide))))) (fun _ => ?_)
    have q17 := (q1.tr qb).tr (q6.tr q7)
    have x5 : P7 37 5 = d := by rw [q17.1]; exact e5
    refine po_call (s_takeStepNumber x5 hk q7.2.2.2.1 b1).po ?_
    rintro ⟨v48, P8, F8, A8, J8⟩ ⟨q8, w8⟩
    dsimp only at q8 w8 ⊢
    refine last ((q6.tr q7).tr q8) ((q7.tr q8).or h6) ?_
    refine w8.imp id (fun h => h.imp id (fun h => ?_))
    by_cases z : v1.toInt < 0
    · exact .inl z
    · have g6 : ci A7 d 5 v1.toInt ≤ 6 := by
        have := q7.2.2.2.1.2 d 5 v1.toInt (by omega)
        rw [hk] at this
        exact this.2
      rcases h with h | h
      · exact .inl h
      · exact .inr ⟨by omega, by omega⟩
  refine po_call (s_isNext q5.2.2.2.1).po (fun v26 _ => ?_)
  refine po_cond (fun _ => f78 (QRc.rfl' q5.2.2.2.1) (.inr (.inr (.inr (by rw [lm2]; decide))))) (fun _ => ?_)
  refine po_call (s_take q5.2.2.2.1).po ?_
  rintro ⟨v28, P6, F6, A6, J6⟩ ⟨q6, -⟩
  dsimp only at q6 ⊢
  refine po_cond (fun _ => f78 q6 (.inr (.inr (.inr (by rw [lm2]; decide))))) (fun _ => ?_)
  refine po_bl (fun _ h => ?_)
  obtain rfl := (gg_chk h).2.symm
  refine po_call (s_known_v2 q6.2.2.2.1 (by omega)).po ?_
  rintro ⟨v35, P7, F7, A7, J7⟩ ⟨q7, a7, b7, c7, d7⟩
  dsimp only at q7 a7 b7 c7 d7 ⊢
  exact f78 (q6.tr q7) (d7.elim (fun h => .inr (.inr (.inr ⟨c7, .inr h⟩))) (fun h => h.imp id .inl))
theorem y_readMan_92 {x1 x2 : Int32} (e5 : P 37 5 = d) (e6 : P 37 6 = 3) (hk : c_kind d = 6) (R : Rc F A) (Y : EVc F A d) (hv : cf F 37 10 ≠ 0 ∨ cf F 37 12 ≠ 0 ∨ (0 ≤ x1.toInt ∧ x1.toInt < (F d 13).toInt)) : EPo d (e_Reader_readMan_92 n P F A J x1 x2) := by
  have hd := kd37 hk
  have h3 := kd3 hk
  unfold e_Reader_readMan_92
  refine po_call (s_take R).po ?_
  rintro ⟨v, P5, F5, A5, J5⟩ ⟨q5, w5⟩
  dsimp only at q5 w5 ⊢
  have Y5 := Y.q hd q5
  have hv5 := q5.or hv
  refine po_cond (fun _ => po_some Y5) (fun c => ?_)
  have x5 : P5 37 5 = d := by rw [q5.1]; exact e5
  have x6 : P5 37 6 = 3 := by rw [q5.1]; exact e6
  rw [x5, x6]
  refine po_bl (fun _ h => ?_)
  obtain rfl := (gg_chk h).2.symm
  refine po_bl (fun _ h => ?_)
  obtain rfl := (gg_chk h).2.symm
  refine po_bl (fun A6 h6 => po_bl (fun _ h => ?_))
  obtain rfl := (gg_chk h).2.symm
  refine po_bl (fun _ h => ?_)
  obtain rfl := (gg_chk h).2.symm
  refine po_bl (fun A7 h7 => po_bl (fun _ h => ?_))
  obtain rfl := (gg_chk h).2.symm
  refine po_bl (fun F8 h8 => po_some ?_)
  have lt := gg_cst h6
  have U6 := lt.2.2
  have U7 := (gg_cst h7).2.2
  have U8 := gg_cpf h8
  have e17 : (F8 d 17).toInt = (F5 d 17).toInt + 1 := by rw [U8.1, i_p1 (by omega)]
  have fd : ∀ k, k ≠ 17 → F8 d k = F5 d k := fun k hkk => U8.2 d k (fun h => hkk h.2)
  have ad : ∀ o, o ≠ 12 → A7 d o = A5 d o := fun o ho => (U7.2.2 d o (fun h => h3 h.1)).trans (U6.2.2 d o (fun h => ho h.2))
  have a3 : A7 3 2 = A5 3 2 := (U7.2.2 3 2 (by simp)).trans (U6.2.2 3 2 (fun h => h3 h.1.symm))
  show EVc F8 A7 d
  have c10 : cf F8 37 10 = cf F5 37 10 := by unfold cf; rw [U8.2 37 10 (fun h => hd h.1.symm)]
  have c12 : cf F8 37 12 = cf F5 37 12 := by unfold cf; rw [U8.2 37 12 (fun h => hd h.1.symm)]
  unfold EVc
  rw [c10, c12]
  refine (or_and3 Y5 hv5).imp id (fun h => h.imp id (fun h => ?_))
  obtain ⟨⟨y1, y2, y3, y4, y5⟩, g1⟩ := h
  rw [← q5.dd hd 13] at g1
  unfold EYc
  rw [e17, fd 13 (by decide), fd 14 (by decide), fd 16 (by decide), ci_fr a3, ci_fr (ad 1 (by decide)), ci_fr (ad 2 (by decide)), ci_fr (ad 3 (by decide)), ci_fr (ad 4 (by decide)), ci_fr (ad 5 (by decide)), ci_fr (ad 6 (by decide)), ci_fr (ad 7 (by decide)), ci_fr (ad 8 (by decide)), ci_fr (ad 9 (by decide)), ci_fr (ad 10 (by decide)), ci_fr (ad 11 (by decide))]
  refine ⟨y1, y2, y3, fun m a b => ?_, y5.cg (U8.2 3 7 (fun e => absurd e.2 (by decide))) a3⟩
  rw [ci_fr (U7.2.2 d 12 (fun h => h3 h.1))]
  by_cases e : m = (F5 d 17).toInt
  · rw [e, U6.1]
    exact g1
  · rw [U6.2.1 m a e]
    exact y4 m a (by omega)
theorem y_readMan (e5 : P 37 5 = d) (e6 : P 37 6 = 3) (hk : c_kind d = 6) (R : Rc F A) (Y : EVc F A d) (hn : 20 ≤ n) : EPo d (e_Reader_readMan n P F A J) := by
  have hd := kd37 hk
  unfold e_Reader_readMan
  rw [e5]
  refine po_bl (fun _ h => ?_)
  obtain rfl := (gg_chk h).2.symm
  refine po_call (s_takeFirst R).po ?_
  rintro ⟨u2, P2, F2, A2, J2⟩ ⟨q2, w2⟩
  dsimp only at q2 w2 ⊢
  have e5' : P2 37 5 = d := by rw [q2.1]; exact e5
  rw [e5']
  refine po_bl (fun _ h => ?_)
  obtain rfl := (gg_chk h).2.symm
  have r13 := (q2.2.2.2.1).h hk
  refine po_call (s_newName_v3 e5' hk q2.2.2.2.1 (by omega) (by omega)).po ?_
  rintro ⟨u3, P3, F3, A3, J3⟩ q3
  dsimp only at q3 ⊢
  have e5'' : P3 37 5 = d := by rw [(q2.tr q3).1]; exact e5
  rw [e5'']
  refine po_bl (fun _ h => ?_)
  obtain rfl := (gg_chk h).2.symm
  refine po_call (s_known q3.2.2.2.1 (by omega)).po ?_
  rintro ⟨v14, P4, F4, A4, J4⟩ ⟨q4, a4, b4, c4, d4⟩
  dsimp only at q4 a4 b4 c4 d4 ⊢
  have qa := (q2.tr q3).tr q4
  have g4 : cf F4 37 10 ≠ 0 ∨ cf F4 37 12 ≠ 0 ∨ (0 ≤ v14.toInt ∧ v14.toInt < (F4 d 13).toInt) := by
    rw [q4.dd hd 13]
    rcases d4 with h | h | h
    · exact .inr (.inr ⟨h, by omega⟩)
    · exact .inl h
    · exact .inr (.inl h)
  have last : ∀ {P7 F7 A7 J7} {x2 : Int32}, QRc P4 P7 F4 F7 A4 A7 → EPo d (e_Reader_readMan_92 n P7 F7 A7 J7 v14 x2) := by
    intro P7 F7 A7 J7 x2 q7
    have qz := qa.tr q7
    have ep : P7 = P := qz.1
    subst ep
    refine y_readMan_92 e5 e6 hk qz.2.2.2.1 (Y.q hd qz) ?_
    rw [q7.dd hd 13]
    exact q7.or g4
  refine po_call (s_isNext q4.2.2.2.1).po (fun v19 _ => ?_)
  refine po_cond (fun _ => last (QRc.rfl' q4.2.2.2.1)) (fun _ => ?_)
  refine po_call (s_take q4.2.2.2.1).po ?_
  rintro ⟨v21, P5, F5, A5, J5⟩ ⟨q5, -⟩
  dsimp only at q5 ⊢
  refine po_cond (fun _ => last q5) (fun _ => ?_)
  have x5 : P5 37 5 = d := by rw [(qa.tr q5).1]; exact e5
  rw [x5]
  refine po_bl (fun _ h => ?_)
  obtain rfl := (gg_chk h).2.symm
  refine po_call (s_known_v1 q5.2.2.2.1 (by omega)).po ?_
  rintro ⟨v28, P6, F6, A6, J6⟩ ⟨q6, a6, b6, c6, d6⟩
  dsimp only at q6 a6 b6 c6 d6 ⊢
  have x5' : P6 37 5 = d := by rw [((qa.tr q5).tr q6).1]; exact e5
  refine po_call (s_takeStepNumber x5' hk q6.2.2.2.1 c6).po ?_
  rintro ⟨v33, P7, F7, A7, J7⟩ ⟨q7, w7⟩
  dsimp only at q7 ⊢
  exact last ((q5.tr q6).tr q7)
theorem y_readNight (e5 : P 37 5 = d) (hk : c_kind d = 6) (R : Rc F A) (Y : EVc F A d) : EPo d (e_Reader_readNight P F A J) := by
  have hd := kd37 hk
  unfold e_Reader_readNight
  refine po_call (s_take R).po ?_
  rintro ⟨v1, P2, F2, A2, J2⟩ ⟨q2, -⟩
  dsimp only at q2 ⊢
  have x5 : P2 37 5 = d := by rw [q2.1]; exact e5
  rw [x5]
  refine po_bl (fun _ h => ?_)
  obtain rfl := (gg_chk h).2.symm
  refine po_call (s_takeNumber q2.2.2.2.1).po ?_
  rintro ⟨v7, P3, F3, A3, J3⟩ ⟨q3, w3⟩
  dsimp only at q3 w3 ⊢
  have qa := q2.tr q3
  have Y3 := Y.q hd qa
  refine po_bl (fun F4 h4 => ?_)
  have U := gg_cpf h4
  have Y4 : EVc F4 A3 d := by
    have c10 : cf F4 37 10 = cf F3 37 10 := by unfold cf; rw [U.2 37 10 (fun h => hd h.1.symm)]
    have c12 : cf F4 37 12 = cf F3 37 12 := by unfold cf; rw [U.2 37 12 (fun h => hd h.1.symm)]
    have fd : ∀ k, k ≠ 18 → F4 d k = F3 d k := fun k hkk => U.2 d k (fun h => hkk h.2)
    unfold EVc EYc
    rw [c10, c12, fd 13 (by decide), fd 14 (by decide), fd 16 (by decide), fd 17 (by decide)]
    exact Y3.imp id (fun h => h.imp id (fun h => ⟨h.1, h.2.1, h.2.2.1, h.2.2.2.1, h.2.2.2.2.cg (U.2 3 7 (fun e => absurd e.2 (by decide))) rfl⟩))
  have R4 : Rc F4 A3 := qa.2.2.2.1.pf U (by rw [hk]; exact trivial)
  refine po_call (s_take R4).po ?_
  rintro ⟨v13, P5, F5, A5, J5⟩ ⟨q5, -⟩
  exact po_some (Y4.q hd q5)
theorem EVc.l (Y : EVc F A d) (hk : c_kind d = 6) (q : QLc d P P' F F' A A') : EVc F' A' d := by
  have hd := kd37 hk
  have h3 := kd3 hk
  rcases Y with h | h | h
  · exact .inl (q.2.2.2.2.2.1 h)
  · exact .inr (.inl (q.2.2.2.2.2.2.1 h))
  · refine .inr (.inr ?_)
    have f : ∀ k, k ≠ 1304 → F' d k = F d k := fun k hkk => q.2.1 d k (fun h => hd h.1) (fun h => hkk h.2)
    have a : ∀ o, o ≤ 12 → A' d o = A d o := fun o ho => q.2.2.1 d o (fun h => by have := h.2; omega)
    unfold EYc
    rw [f 13 (by decide), f 14 (by decide), f 16 (by decide), f 17 (by decide), ci_fr (q.2.2.1 3 2 (fun h => h3 h.1.symm)), ci_fr (a 1 (by decide)), ci_fr (a 2 (by decide)), ci_fr (a 3 (by decide)), ci_fr (a 4 (by decide)), ci_fr (a 5 (by decide)), ci_fr (a 6 (by decide)), ci_fr (a 7 (by decide)), ci_fr (a 8 (by decide)), ci_fr (a 9 (by decide)), ci_fr (a 10 (by decide)), ci_fr (a 11 (by decide)), ci_fr (a 12 (by decide))]
    exact ⟨h.1, h.2.1, h.2.2.1, h.2.2.2.1, h.2.2.2.2.cg (q.2.1 3 7 (fun h => absurd h.1 (by decide)) (fun h => absurd h.2 (by decide))) (q.2.2.1 3 2 (fun h => h3 h.1.symm))⟩
theorem y_readLaw_94 {x1 x2 : Int32} (e5 : P 37 5 = d) (hk : c_kind d = 6) (R : Rc F A) (Y : EVc F A d) (hn : 500 ≤ n) : EPo d (e_Reader_readLaw_94 n P F A J x1 x2) := by
  have hd := kd37 hk
  have z02 : (0 : Int32).toInt ≠ 2 := by decide
  unfold e_Reader_readLaw_94
  have l0z : (0 : Int32).toInt = 0 := by decide
  refine po_call (s_readSum e5 hk hn R (by decide) (by omega)).po ?_
  rintro ⟨u2, P2, F2, A2, J2⟩ ⟨q2, w2⟩
  dsimp only at q2 ⊢
  have ep := q2.1
  subst ep
  rw [e5]
  refine po_bl (fun _ h => ?_)
  obtain rfl := (gg_chk h).2.symm
  refine po_call (s_add hk q2.2.2.2.1 (fun h => absurd h z02)).po ?_
  rintro ⟨v3, P3, F3, A3, J3⟩ ⟨q3, -⟩
  dsimp only at q3 ⊢
  have qa := q2.tr q3
  have Y3 := Y.l hk qa
  refine po_call (s_take qa.2.2.2.1).po ?_
  rintro ⟨v, P4, F4, A4, J4⟩ ⟨q4, w4⟩
  dsimp only at q4 w4 ⊢
  have Y4 := Y3.q hd q4
  refine po_cond (fun _ => po_some Y4) (fun c => ?_)
  refine po_bl (fun F5 h5 => ?_)
  have U := gg_cpf h5
  have Y5 : EVc F5 A4 d := by
    have c10 : cf F5 37 10 = cf F4 37 10 := by unfold cf; rw [U.2 37 10 (by simp)]
    have c12 : cf F5 37 12 = cf F4 37 12 := by unfold cf; rw [U.2 37 12 (by simp)]
    have fd : ∀ k, F5 d k = F4 d k := fun k => U.2 d k (fun h => hd h.1)
    unfold EVc EYc
    rw [c10, c12, fd 13, fd 14, fd 16, fd 17]
    exact Y4.imp id (fun h => h.imp id (fun h => ⟨h.1, h.2.1, h.2.2.1, h.2.2.2.1, h.2.2.2.2.cg (U.2 3 7 (by simp)) rfl⟩))
  refine po_cond (fun _ => po_some Y5) (fun c5 => ?_)
  have x5 : P4 37 5 = d := by rw [q4.1, q3.1]; exact e5
  rw [x5]
  refine po_bl (fun _ h => ?_)
  obtain rfl := (gg_chk h).2.symm
  refine po_bl (fun A6 h6 => po_some ?_)
  have U6 := (gg_cst h6).2.2
  show EVc F5 A6 d
  have a : ∀ o, o ≠ 14 → A6 d o = A4 d o := fun o ho => U6.2.2 d o (fun h => ho h.2)
  unfold EVc EYc
  rw [ci_fr (U6.2.2 3 2 (by simp)), ci_fr (a 1 (by decide)), ci_fr (a 2 (by decide)), ci_fr (a 3 (by decide)), ci_fr (a 4 (by decide)), ci_fr (a 5 (by decide)), ci_fr (a 6 (by decide)), ci_fr (a 7 (by decide)), ci_fr (a 8 (by decide)), ci_fr (a 9 (by decide)), ci_fr (a 10 (by decide)), ci_fr (a 11 (by decide)), ci_fr (a 12 (by decide))]
  exact Y5.imp id (fun h => h.imp id (fun h => ⟨h.1, h.2.1, h.2.2.1, h.2.2.2.1, h.2.2.2.2.cg rfl (U6.2.2 3 2 (by simp))⟩))
theorem y_readLaw_48 {x1 x2 : Int32} (e5 : P 37 5 = d) (hk : c_kind d = 6) : ∀ {n : Nat} {F : Nat → Nat → Int32} {A : Nat → Nat → Nat → Int32} {J : Nat → Nat → Nat → Int64} {x3 : Int32}, Rc F A → EVc F A d → (cf F 37 10 ≠ 0 ∨ cf F d 1304 + 1 ≤ cf F 37 7) → 0 ≤ x3.toInt ∧ x3.toInt ≤ 5 → 510 - x3.toInt < (n : Int) → EPo d (e_Reader_readLaw_48 n P F A J x1 x2 x3) := by
  have hd := kd37 hk
  intro n
  induction n with
  | zero => intro F A J x3 R Y hb hx hn; exact absurd hn (by omega)
  | succ n ih =>
    intro F A J x3 R Y hb hx hn
    have l4 : (4 : Int32).toInt = 4 := by decide
    have e3 := i_p1 (x := x3) (by omega)
    have f94 : EPo d (e_Reader_readLaw_94 n P F A J x1 x2) := y_readLaw_94 e5 hk R Y (by omega)
    have on : x3.toInt ≤ 4 → ∀ {P2 F2 A2 J2}, QRc P P2 F F2 A A2 → EPo d ((e_Reader_readIf n P2 F2 A2 J2).bind fun (_, P55, F56, A57, J58) => e_Reader_readLaw_48 n P55 F56 A57 J58 x1 x2 (x3 + 1)) := by
      intro hle P2 F2 A2 J2 q2
      have ep := q2.1
      subst ep
      have k2 : cf F2 d 1304 = cf F d 1304 := by unfold cf; rw [q2.dd hd 1304]
      have t2 := q2.2.2.2.2.1
      have hb2 : cf F2 37 10 ≠ 0 ∨ cf F2 d 1304 + 1 ≤ cf F2 37 7 := by
        rcases hb with h | h
        · exact .inl (q2.2.2.2.2.2.1 h)
        · right; omega
      refine po_call (s_readIf e5 hk q2.2.2.2.1 hb2 (by omega)).po ?_
      rintro ⟨u, P3, F3, A3, J3⟩ ⟨q3, w3⟩
      dsimp only at q3 w3 ⊢
      have ep := q3.1
      subst ep
      refine ih q3.2.2.2.1 ((Y.q hd q2).l hk q3) ?_ (by omega) (by omega)
      rcases w3 with h | h
      · exact .inl h
      · rcases hb2 with g | g
        · exact .inl (q3.2.2.2.2.2.1 g)
        · right; omega
    unfold e_Reader_readLaw_48
    refine po_cond (fun _ => f94) (fun c => ?_)
    rw [i_ngt, l4] at c
    refine po_call (s_isNext R).po (fun v19 _ => ?_)
    refine po_cond (fun _ => f94) (fun _ => ?_)
    refine po_cond (fun _ => ?_) (fun _ => ?_)
    · unfold e_Reader_readLaw_84
      exact on (by omega) (QRc.rfl' R)
    · refine po_bl (fun v22 _ => ?_)
      refine po_call (s_fail R (by decide)).po ?_
      rintro ⟨u, P2, F2, A2, J2⟩ ⟨q2, -⟩
      dsimp only at q2 ⊢
      exact on (by omega) q2
theorem y_readLaw (e5 : P 37 5 = d) (hk : c_kind d = 6) (R : Rc F A) (Y : EVc F A d) (hV : cf F 37 10 ≠ 0 ∨ cf F d 1304 ≤ cf F 37 7) (hn : 520 ≤ n) : EPo d (e_Reader_readLaw n P F A J) := by
  have hd := kd37 hk
  unfold e_Reader_readLaw
  refine po_call (s_takeFirst R).po ?_
  rintro ⟨u2, P2, F2, A2, J2⟩ ⟨q2, w2⟩
  dsimp only at q2 w2 ⊢
  have e5' : P2 37 5 = d := by rw [q2.1]; exact e5
  rw [e5']
  refine po_bl (fun _ h => ?_)
  obtain rfl := (gg_chk h).2.symm
  refine po_call (s_known_v3 q2.2.2.2.1 (by omega)).po ?_
  rintro ⟨v7, P3, F3, A3, J3⟩ ⟨q3, a3, b3, c3, d3⟩
  dsimp only at q3 ⊢
  have e5'' : P3 37 5 = d := by rw [(q2.tr q3).1]; exact e5
  rw [e5'']
  refine po_bl (fun _ h => ?_)
  obtain rfl := (gg_chk h).2.symm
  refine po_call (s_take q3.2.2.2.1).po ?_
  rintro ⟨v13, P4, F4, A4, J4⟩ ⟨q4, -⟩
  dsimp only at q4 ⊢
  have qa := (q2.tr q3).tr q4
  have ep := qa.1
  subst ep
  have k4 : cf F4 d 1304 = cf F d 1304 := by unfold cf; rw [qa.dd hd 1304]
  have t3 := q3.2.2.2.2.1
  have t4 := q4.2.2.2.2.1
  have l0z : (0 : Int32).toInt = 0 := by decide
  refine y_readLaw_48 e5 hk qa.2.2.2.1 (Y.q hd qa) ?_ (by decide) (by omega)
  rcases w2 with h | h
  · exact .inl (q4.2.2.2.2.2.1 (q3.2.2.2.2.2.1 h))
  · rcases hV with g | g
    · exact .inl (qa.2.2.2.2.2.1 g)
    · right; omega
/-- a whole text -/
theorem y_readText_10 (e5 : P 37 5 = d) (e6 : P 37 6 = 3) (hk : c_kind d = 6) : ∀ {n : Nat} {F : Nat → Nat → Int32} {A : Nat → Nat → Nat → Int32} {J : Nat → Nat → Nat → Int64} {x4 : Int32}, RVc d F0 F A0 A → EVc F A d → 0 ≤ x4.toInt ∧ x4.toInt ≤ 401 → 1000 - x4.toInt < (n : Int) → po (e_Reader_readText_10 n P F A J x4) (fun r => r.1.toInt ≠ 0 ∨ EYc r.2.2.1 r.2.2.2.1 d) := by
  have hd := kd37 hk
  intro n
  induction n with
  | zero => intro F A J x4 V Y hx hn; exact absurd hn (by omega)
  | succ n ih =>
    intro F A J x4 V Y hx hn
    have l400 : (400 : Int32).toInt = 400 := by decide
    have f171 : po (e_Reader_readText_171 n P F A J) (fun r => r.1.toInt ≠ 0 ∨ EYc r.2.2.1 r.2.2.2.1 d) := by
      unfold e_Reader_readText_171
      refine po_cond (fun c => po_some (.inl ?_)) (fun c => ?_)
      · rw [i_ne, i_0] at c
        exact c
      · rw [i_nne, i_0] at c
        refine po_bl (fun F2 h2 => po_bl (fun F3 h3 => po_some ?_))
        have U2 := gg_cpf h2
        have U3 := gg_cpf h3
        have k10 : F3 37 10 = F 37 12 := (U3.2 37 10 (by simp)).trans U2.1
        show (F3 37 10).toInt ≠ 0 ∨ EYc F3 A d
        rw [k10]
        rcases Y with h | h | h
        · exact absurd c h
        · exact .inl h
        · exact .inr (h.cg (fun k => (U3.2 d k (fun h => hd h.1)).trans (U2.2 d k (fun h => hd h.1))) (fun _ _ => rfl) rfl ((U3.2 3 7 (by simp)).trans (U2.2 3 7 (by simp))))
    unfold e_Reader_readText_10
    refine po_cond (fun _ => f171) (fun c => ?_)
    rw [i_ngt, l400] at c
    have e4 := i_p1 (x := x4) (by omega)
    refine po_cond (fun _ => f171) (fun _ => ?_)
    refine po_call (s_isNext V.1).po (fun v8 _ => ?_)
    refine po_cond (fun _ => f171) (fun _ => ?_)
    refine po_bl (fun v10 _ => ?_)
    have nx : ∀ {o : Option (cR Unit)}, ok o (RXc P d F0 A0) → EPo d o → po (o.bind fun (_, P13, F14, A15, J16) => e_Reader_readText_165 (e_Reader_readText_10 n) n P13 F14 A15 J16 x4) (fun r => r.1.toInt ≠ 0 ∨ EYc r.2.2.1 r.2.2.2.1 d) := by
      intro o ho hy
      refine po_call (po_and ho.po hy) ?_
      rintro ⟨u, P2, F2, A2, J2⟩ ⟨⟨g1, g2⟩, g3⟩
      dsimp only at g1 g2 g3 ⊢
      subst g1
      unfold e_Reader_readText_165
      exact ih g2 g3 (by omega) (by omega)
    refine po_cond (fun _ => nx (s_readRoom e5 hk V (by omega)) (y_readRoom e5 hk V.1 Y (by omega))) (fun _ => ?_)
    refine po_cond (fun _ => nx (s_readDoor e5 e6 hk V (by omega)) (y_readDoor e5 e6 hk V.1 Y (by omega))) (fun _ => ?_)
    refine po_cond (fun _ => nx (s_readTool e5 e6 hk V (by omega)) (y_readTool e5 e6 hk V.1 Y (by omega))) (fun _ => ?_)
    refine po_cond (fun _ => nx (s_readTask e5 e6 hk V (by omega)) (y_readTask e5 e6 hk V.1 Y (by omega))) (fun _ => ?_)
    refine po_cond (fun _ => nx (s_readStep e5 hk V (by omega)) (y_readStep e5 hk V.1 Y (by omega))) (fun _ => ?_)
    refine po_cond (fun _ => nx (s_readMan e5 e6 hk V (by omega)) (y_readMan e5 e6 hk V.1 Y (by omega))) (fun _ => ?_)
    refine po_cond (fun _ => nx (s_readLaw e5 hk V (by omega)) (y_readLaw e5 hk V.1 Y V.2.2.2.1 (by omega))) (fun _ => ?_)
    refine po_cond (fun _ => nx (s_readNight e5 hk V) (y_readNight e5 hk V.1 Y)) (fun _ => ?_)
    refine po_bl (fun v52 _ => ?_)
    refine po_call (s_fail V.1 (by decide)).po ?_
    rintro ⟨u, P2, F2, A2, J2⟩ ⟨q, -⟩
    dsimp only at q ⊢
    have V2 := V.q hd q
    have ep := q.1
    subst ep
    exact ih V2 (Y.q hd q) (by omega) (by omega)
/-- a text just begun says nothing yet -/
theorem y_open (hk : c_kind d = 6) (R : Rc F A) (hn : 5200 ≤ n) : po (e_Reader_open n P F A J d 3) (fun z => Z3c z.2.2.1 z.2.2.2.1 → EVc z.2.2.1 z.2.2.2.1 d) := by
  have hd := kd37 hk
  have h3 := kd3 hk
  unfold e_Reader_open
  refine po_bl (fun P1 e1 => ?_)
  have u1 := gg_cpp e1
  refine po_bl (fun P2 e2 => ?_)
  have u2 := gg_cpp e2
  have x5 : P2 37 5 = d := (u2.2 37 5 (by simp)).trans u1.1
  refine po_bl (fun q3 e3 => ?_)
  obtain ⟨-, rfl⟩ := gg_chk e3
  rw [x5]
  refine po_call (s_houseClear hk R).po ?_
  rintro ⟨u3, P3, F3, A3, J3⟩ ⟨g1, g2, g3, g4, g5, g6, g7, g8, g9, g10⟩
  dsimp only at g1 g2 g3 g4 g5 g6 g7 g8 g9 g10 ⊢
  subst g1
  refine po_bl (fun q9 e9 => ?_)
  obtain ⟨-, rfl⟩ := gg_chk e9
  rw [show P3 37 6 = 3 from u2.1]
  refine po_call (s_clear (r0 := 3) (by decide) g4).po ?_
  rintro ⟨u4, P4, F4, A4, J4⟩ ⟨y1, y2, y3, y4, y5⟩
  dsimp only at y1 y2 y3 y4 y5 ⊢
  subst y1
  refine po_bl (fun F5 h5 => po_bl (fun F6 h6 => po_bl (fun F7 h7 => po_bl (fun F8 h8 => po_bl (fun F9 h9 => ?_)))))
  have U5 := gg_cpf h5
  have U6 := gg_cpf h6
  have U7 := gg_cpf h7
  have U8 := gg_cpf h8
  have U9 := gg_cpf h9
  have R9 : Rc F9 A4 := ((((y4.pf U5 (show 0 ≤ (0 : Int32).toInt ∧ (0 : Int32).toInt ≤ 400 by decide)).pf U6 (show 0 ≤ (0 : Int32).toInt ∧ (0 : Int32).toInt ≤ 400 by decide)).pf U7 (show 0 ≤ (0 : Int32).toInt ∧ (0 : Int32).toInt ≤ 8 by decide)).pf U8 trivial).pf U9 trivial
  refine po_call (s_scanAll R9 (by omega)).po ?_
  rintro ⟨u10, P10, F10, A10, J10⟩ ⟨z1, z2, z3, z4⟩
  dsimp only at z1 z2 z3 z4 ⊢
  have f37 : ∀ r k, r ≠ 37 → F10 r k = F4 r k := fun r k h => (z2 r k (fun e => h e.1)).trans ((U9.2 r k (fun e => h e.1)).trans ((U8.2 r k (fun e => h e.1)).trans ((U7.2 r k (fun e => h e.1)).trans ((U6.2 r k (fun e => h e.1)).trans (U5.2 r k (fun e => h e.1))))))
  have fd : ∀ k, cf F10 d k = cf F3 d k := fun k => by unfold cf; rw [f37 d k hd, y2 d k h3]
  have k14 : (F10 d 14).toInt = 0 := (fd 14).trans g5
  have k16 : (F10 d 16).toInt = 0 := (fd 16).trans g6
  have k17 : (F10 d 17).toInt = 0 := (fd 17).trans g7
  refine po_some (fun zc => .inr (.inr ?_))
  unfold EYc
  rw [k14, k16, k17]
  refine ⟨fun x a b => absurd b (by omega), fun t a b => absurd b (by omega), fun t u t0 t1 u0 u1 => ?_, fun m a b => absurd b (by omega), zc⟩
  rw [ci_fr (z3 d 5 (fun e => hd e.1)), ci_fr (y3 d 5 h3), g10 t t0 t1] at u1
  exact absurd u1 (by omega)
/-- what a text leaves, read into the draft -/
theorem y_readText (R : Rc F A) (hk : c_kind d = 6) (hn : 6000 ≤ n) : po (e_Reader_readText n P F A J d 3) (fun r => r.1.toInt ≠ 0 ∨ EYc r.2.2.1 r.2.2.2.1 d) := by
  unfold e_Reader_readText
  refine po_call (po_and (s_open (P := P) (J := J) hk R (by omega)).po (po_and (y_open (P := P) (J := J) hk R (by omega)) (v_open (P := P) (J := J) hk R (by omega)))) ?_
  rintro ⟨u, P2, F2, A2, J2⟩ ⟨⟨oP, x5, x6, V⟩, vz, vc⟩
  dsimp only at oP x5 x6 V vz vc ⊢
  have vo := vz ⟨fun t t0 t1 => by have := (vc.1.2.1 t t0 t1).1; omega, by rw [vc.1.2.2.1]; exact b7_0⟩
  have l0z : (0 : Int32).toInt = 0 := by decide
  exact y_readText_10 x5 x6 hk V vo (by decide) (by omega)
end H9f1
end Qz147
section Qz148
/-! evenings that are kept: the past and the slots, by values, each side alone -/
section H9f2
variable {n : Nat} {P P' : Nat → Nat → Nat} {F F' : Nat → Nat → Int32} {A A' : Nat → Nat → Nat → Int32} {J : Nat → Nat → Nat → Int64} {Fm Fm' : Nat → Int32} {Am Am' : Nat → Nat → Int32} {Jm : Nat → Nat → Int64} {x1 x2 : Int32} {r0 r1 : Nat}
/-- two evenings of the class read alike -/
def SE (f f' : Nat → Int32) (a a' : Nat → Nat → Int32) : Prop := f' 7 = f 7 ∧ f' 8 = f 8 ∧ (∀ k : Nat, k < 36 → a' 1 k = a 1 k) ∧ ∀ o k : Nat, 2 ≤ o → o ≤ 7 → k < 6 → a' o k = a o k
theorem SE.rfl' {f : Nat → Int32} {a : Nat → Nat → Int32} : SE f f a a := ⟨rfl, rfl, fun _ _ => rfl, fun _ _ _ _ _ => rfl⟩
theorem SE.tr {f f' f'' : Nat → Int32} {a a' a'' : Nat → Nat → Int32} (h : SE f f' a a') (k : SE f' f'' a' a'') : SE f f'' a a'' := ⟨k.1.trans h.1, k.2.1.trans h.2.1, fun i hi => (k.2.2.1 i hi).trans (h.2.2.1 i hi), fun o i a b c => (k.2.2.2 o i a b c).trans (h.2.2.2 o i a b c)⟩
theorem SE.of {f f' : Nat → Int32} {a a' : Nat → Nat → Int32} (h : ∀ k, f' k = f k) (g : ∀ o, a' o = a o) : SE f f' a a' := ⟨h 7, h 8, fun _ _ => by rw [g], fun _ _ _ _ _ => by rw [g]⟩
theorem gg_ccp {r o q k m : Nat} (h : c_cp A r o q k m = some A') : (∀ j, j < m → A' q k j = A r o j) ∧ (∀ r' o', ¬ (r' = q ∧ o' = k) → A' r' o' = A r' o') := by
  cases h
  refine ⟨fun j hj => ?_, fun r' o' hn => ?_⟩
  · rw [c_up_same, c_up_same]
    unfold va_cpy
    rw [if_pos (by omega)]
    rw [show 0 + (j - 0) = j by omega]
  · by_cases e : r' = q
    · subst e
      rw [c_up_same, c_up_ne (fun e => hn ⟨rfl, e⟩)]
    · rw [c_up_ne e]
/-- one evening written over another -/
def CVv (P : Nat → Nat → Nat) (F : Nat → Nat → Int32) (A : Nat → Nat → Nat → Int32) (r0 r1 : Nat) (z : Unit × (Nat → Nat → Nat) × (Nat → Nat → Int32) × (Nat → Nat → Nat → Int32) × (Nat → Nat → Nat → Int64)) : Prop := z.2.1 = P ∧ (∀ r k, r ≠ r0 → z.2.2.1 r k = F r k) ∧ (∀ r o, r ≠ r0 → z.2.2.2.1 r o = A r o) ∧ SE (F r1) (z.2.2.1 r0) (A r1) (z.2.2.2.1 r0)
theorem v_copy (hne : r1 ≠ r0) : po (e_State_copy P F A J r0 r1) (CVv P F A r0 r1) := by
  unfold e_State_copy
  refine po_bl (fun A1 h1 => po_bl (fun A2 h2 => po_bl (fun A3 h3 => po_bl (fun A4 h4 => po_bl (fun A5 h5 => po_bl (fun A6 h6 => po_bl (fun A7 h7 => po_bl (fun F8 h8 => po_bl (fun F9 h9 => po_some ?_)))))))))
  have c1 := gg_ccp h1
  have c2 := gg_ccp h2
  have c3 := gg_ccp h3
  have c4 := gg_ccp h4
  have c5 := gg_ccp h5
  have c6 := gg_ccp h6
  have c7 := gg_ccp h7
  have U8 := gg_cpf h8
  have U9 := gg_cpf h9
  have d1 : ∀ o, A1 r1 o = A r1 o := fun o => c1.2 r1 o (fun e => hne e.1)
  have d2 : ∀ o, A2 r1 o = A r1 o := fun o => (c2.2 r1 o (fun e => hne e.1)).trans (d1 o)
  have d3 : ∀ o, A3 r1 o = A r1 o := fun o => (c3.2 r1 o (fun e => hne e.1)).trans (d2 o)
  have d4 : ∀ o, A4 r1 o = A r1 o := fun o => (c4.2 r1 o (fun e => hne e.1)).trans (d3 o)
  have d5 : ∀ o, A5 r1 o = A r1 o := fun o => (c5.2 r1 o (fun e => hne e.1)).trans (d4 o)
  have d6 : ∀ o, A6 r1 o = A r1 o := fun o => (c6.2 r1 o (fun e => hne e.1)).trans (d5 o)
  refine ⟨rfl, fun r k h => (U9.2 r k (fun e => h e.1)).trans (U8.2 r k (fun e => h e.1)), fun r o h => (c7.2 r o (fun e => h e.1)).trans ((c6.2 r o (fun e => h e.1)).trans ((c5.2 r o (fun e => h e.1)).trans ((c4.2 r o (fun e => h e.1)).trans ((c3.2 r o (fun e => h e.1)).trans ((c2.2 r o (fun e => h e.1)).trans (c1.2 r o (fun e => h e.1))))))), ?_, ?_, ?_, ?_⟩
  · show F9 r0 7 = F r1 7
    rw [U9.2 r0 7 (by simp)]
    exact U8.1
  · show F9 r0 8 = F r1 8
    rw [U9.1]
    exact U8.2 r1 8 (fun e => hne e.1)
  · intro k hk
    show A7 r0 1 k = A r1 1 k
    rw [c7.2 r0 1 (by simp), c6.2 r0 1 (by simp), c5.2 r0 1 (by simp), c4.2 r0 1 (by simp), c3.2 r0 1 (by simp), c2.2 r0 1 (by simp)]
    exact c1.1 k hk
  · intro o k o2 o7 hk
    show A7 r0 o k = A r1 o k
    have ho : o = 2 ∨ o = 3 ∨ o = 4 ∨ o = 5 ∨ o = 6 ∨ o = 7 := by omega
    rcases ho with rfl | rfl | rfl | rfl | rfl | rfl
    · rw [c7.2 r0 2 (by simp), c6.2 r0 2 (by simp), c5.2 r0 2 (by simp), c4.2 r0 2 (by simp), c3.2 r0 2 (by simp), c2.1 k hk, d1]
    · rw [c7.2 r0 3 (by simp), c6.2 r0 3 (by simp), c5.2 r0 3 (by simp), c4.2 r0 3 (by simp), c3.1 k hk, d2]
    · rw [c7.2 r0 4 (by simp), c6.2 r0 4 (by simp), c5.2 r0 4 (by simp), c4.1 k hk, d3]
    · rw [c7.2 r0 5 (by simp), c6.2 r0 5 (by simp), c5.1 k hk, d4]
    · rw [c7.2 r0 6 (by simp), c6.1 k hk, d5]
    · rw [c7.1 k hk, d6]
theorem gg_car {b K m q : Nat} {i : Int32} (h : c_ar m b K i = some q) : 0 ≤ i.toInt ∧ i.toInt < (m : Int) ∧ q = b + i.toInt.toNat := by
  unfold c_ar at h
  split at h
  · cases h
  · next c =>
    have o := i_out c
    refine ⟨o.1, o.2, ?_⟩
    rw [(gg_chk h).2, Int32.toNatClampNeg]
/-- the region of the u-th evening that is kept -/
def sl (F : Nat → Nat → Int32) (u : Int) : Nat := 5 + (((F 4 1).toInt + u) % 20).toNat
theorem sl_rng (u : Int) : 5 ≤ sl F u ∧ sl F u ≤ 24 := by unfold sl; omega
theorem gg_rem20 {v w : Int32} (h : m_rem w 20 = some v) (h0 : 0 ≤ w.toInt) : v.toInt = w.toInt % 20 := by
  unfold m_rem at h
  rw [if_neg (by decide)] at h
  cases h
  exact i_rem20 h0
/-- the past after a push: of d evenings the oldest is gone -/
def PUv (d : Int) (P : Nat → Nat → Nat) (F : Nat → Nat → Int32) (A : Nat → Nat → Nat → Int32) (z : Unit × (Nat → Nat → Nat) × (Nat → Nat → Int32) × (Nat → Nat → Nat → Int32) × (Nat → Nat → Nat → Int64)) : Prop := z.2.1 = P ∧ (∀ r k, r ≠ 4 → r < 5 ∨ 24 < r → z.2.2.1 r k = F r k) ∧ (∀ r o, r < 5 ∨ 24 < r → z.2.2.2.1 r o = A r o) ∧ (z.2.2.1 4 2).toInt = (F 4 2).toInt + 1 - d ∧ (∀ u, 0 ≤ u → u < (F 4 2).toInt - d → SE (F (sl F (u + d))) (z.2.2.1 (sl z.2.2.1 u)) (A (sl F (u + d))) (z.2.2.2.1 (sl z.2.2.1 u))) ∧ SE (F 2) (z.2.2.1 (sl z.2.2.1 ((F 4 2).toInt - d))) (A 2) (z.2.2.2.1 (sl z.2.2.1 ((F 4 2).toInt - d)))
theorem v_push (R : Rc F A) : po (e_Past_push P F A J 2) (fun z => ∃ d : Int, ((d = 1 ∧ (F 4 2).toInt = 20) ∨ (d = 0 ∧ (F 4 2).toInt < 20)) ∧ PUv d P F A z) := by
  have l20 : (20 : Int32).toInt = 20 := by decide
  have a1 : 0 ≤ (F 4 1).toInt ∧ (F 4 1).toInt ≤ 19 := R.1 4 1
  have a2 : 0 ≤ (F 4 2).toInt ∧ (F 4 2).toInt ≤ 20 := R.1 4 2
  unfold e_Past_push
  refine po_cond (fun c => ?_) (fun c => ?_)
  · rw [i_ne, l20] at c
    refine po_bl (fun F2 h2 => po_bl (fun v3 h3 => po_bl (fun q4 h4 => ?_)))
    have U2 := gg_cpf h2
    have k1 : F2 4 1 = F 4 1 := U2.2 4 1 (by simp)
    have k2 : (F2 4 2).toInt = (F 4 2).toInt + 1 := by rw [U2.1, i_p1 (by omega)]
    rw [k1] at h3
    have e3 := i_add (x := F 4 1) (y := F2 4 2) (by omega) (by omega)
    have e4 := i_sub (x := F 4 1 + F2 4 2) (y := 1) (by rw [i_1]; omega) (by rw [i_1]; omega)
    rw [i_1] at e4
    have d3 := gg_rem20 h3 (by omega)
    have d3' : v3.toInt = ((F 4 1).toInt + (F 4 2).toInt) % 20 := by omega
    have q := gg_car h4
    have qe : q4 = 5 + (((F 4 1).toInt + (F 4 2).toInt) % 20).toNat := by rw [q.2.2, d3']
    refine po_call (v_copy (by omega)) ?_
    rintro ⟨u, P6, F7, A8, J9⟩ ⟨g1, g2, g3, g4⟩
    dsimp only at g1 g2 g3 g4 ⊢
    have t1 : F7 4 1 = F 4 1 := (g2 4 1 (by omega)).trans k1
    have t2 : (F7 4 2).toInt = (F 4 2).toInt + 1 := by rw [g2 4 2 (by omega)]; exact k2
    have ts : ∀ u, sl F7 u = sl F u := fun u => by unfold sl; rw [t1]
    refine po_some ⟨0, .inr ⟨rfl, by omega⟩, g1, fun r k hr hr2 => (g2 r k (by omega)).trans (U2.2 r k (fun e => hr e.1)), fun r o hr => g3 r o (by omega), by rw [t2]; omega, fun u u0 u1 => ?_, ?_⟩
    · have ne : sl F u ≠ q4 := by
        rw [qe]
        unfold sl
        omega
      have s4 := (sl_rng (F := F) u).1
      show SE (F (sl F (u + 0))) (F7 (sl F7 u)) (A (sl F (u + 0))) (A8 (sl F7 u))
      rw [ts, Int.add_zero]
      exact .of (fun k => (g2 _ k ne).trans (U2.2 _ k (fun e => by omega))) (fun o => g3 _ o ne)
    · show SE (F 2) (F7 (sl F7 ((F 4 2).toInt - 0))) (A 2) (A8 (sl F7 ((F 4 2).toInt - 0)))
      rw [ts, Int.sub_zero, show sl F (F 4 2).toInt = q4 from qe.symm]
      refine SE.tr ?_ g4
      exact .of (fun k => U2.2 2 k (by simp)) (fun o => rfl)
  · rw [i_nne, l20] at c
    refine po_bl (fun v10 h10 => po_bl (fun F11 h11 => ?_))
    have U := gg_cpf h11
    have e1 := i_p1 (x := F 4 1) (by omega)
    have d10 := gg_rem20 h10 (by omega)
    rw [e1] at d10
    have k1 : (F11 4 1).toInt = ((F 4 1).toInt + 1) % 20 := by rw [U.1]; exact d10
    have k2 : F11 4 2 = F 4 2 := U.2 4 2 (by simp)
    unfold e_Past_push_35
    refine po_bl (fun v3 h3 => po_bl (fun q4 h4 => ?_))
    have k2' : (F11 4 2).toInt = 20 := by rw [k2]; exact c
    have e3 := i_add (x := F11 4 1) (y := F11 4 2) (by omega) (by omega)
    have e4 := i_sub (x := F11 4 1 + F11 4 2) (y := 1) (by rw [i_1]; omega) (by rw [i_1]; omega)
    rw [i_1] at e4
    have d3 := gg_rem20 h3 (by omega)
    have d3' : v3.toInt = (((F 4 1).toInt + 1) % 20 + 20 - 1) % 20 := by omega
    have q := gg_car h4
    have qe : q4 = 5 + ((((F 4 1).toInt + 1) % 20 + 20 - 1) % 20).toNat := by rw [q.2.2, d3']
    refine po_call (v_copy (by omega)) ?_
    rintro ⟨u, P6, F7, A8, J9⟩ ⟨g1, g2, g3, g4⟩
    dsimp only at g1 g2 g3 g4 ⊢
    have t1 : (F7 4 1).toInt = ((F 4 1).toInt + 1) % 20 := by rw [g2 4 1 (by omega)]; exact k1
    have t2 : F7 4 2 = F 4 2 := (g2 4 2 (by omega)).trans k2
    have ts : ∀ u, 0 ≤ u → sl F7 u = sl F (u + 1) := fun u u0 => by unfold sl; rw [t1]; omega
    refine po_some ⟨1, .inl ⟨rfl, c⟩, g1, fun r k hr hr2 => (g2 r k (by omega)).trans (U.2 r k (fun e => hr e.1)), fun r o hr => g3 r o (by omega), (show (F7 4 2).toInt = (F 4 2).toInt + 1 - 1 by rw [t2]; omega), fun u u0 u1 => ?_, ?_⟩
    · have ne : sl F (u + 1) ≠ q4 := by
        rw [qe]
        unfold sl
        omega
      have s4 := (sl_rng (F := F) (u + 1)).1
      show SE (F (sl F (u + 1))) (F7 (sl F7 u)) (A (sl F (u + 1))) (A8 (sl F7 u))
      rw [ts u u0]
      exact .of (fun k => (g2 _ k ne).trans (U.2 _ k (fun e => by omega))) (fun o => g3 _ o ne)
    · show SE (F 2) (F7 (sl F7 ((F 4 2).toInt - 1))) (A 2) (A8 (sl F7 ((F 4 2).toInt - 1)))
      rw [ts _ (by omega), show sl F ((F 4 2).toInt - 1 + 1) = q4 by rw [qe]; unfold sl; omega]
      refine SE.tr ?_ g4
      exact .of (fun k => U.2 2 k (by simp)) (fun o => rfl)
/-- undo -/
theorem v_cUndo3 (R : Rc F A) : po (e_SleepWork_undo P F A J) (fun r => r.2.1 = P ∧ (∀ q k, q ≠ 2 → q ≠ 4 → q ≠ 32 → r.2.2.1 q k = F q k) ∧ r.2.2.1 4 1 = F 4 1 ∧ (∀ k, k ≠ 6 → r.2.2.1 32 k = F 32 k) ∧ (∀ q o, q ≠ 2 → r.2.2.2.1 q o = A q o) ∧ ((r.1 = 0 ∧ (F 4 2).toInt = 0 ∧ r.2.2.1 = F ∧ r.2.2.2.1 = A) ∨ (r.1 = 1 ∧ (F 4 2).toInt ≠ 0 ∧ r.2.2.1 32 6 = -1 ∧ (r.2.2.1 4 2).toInt = (F 4 2).toInt - 1 ∧ SE (F (sl F ((F 4 2).toInt - 1))) (r.2.2.1 2) (A (sl F ((F 4 2).toInt - 1))) (r.2.2.2.1 2)))) := by
  have a1 : 0 ≤ (F 4 1).toInt ∧ (F 4 1).toInt ≤ 19 := R.1 4 1
  have a2 : 0 ≤ (F 4 2).toInt ∧ (F 4 2).toInt ≤ 20 := R.1 4 2
  unfold e_SleepWork_undo e_Past_pull
  refine po_call (R := fun (r : Int32 × (Nat → Nat → Nat) × (Nat → Nat → Int32) × (Nat → Nat → Nat → Int32) × (Nat → Nat → Nat → Int64)) => r.2.1 = P ∧ (∀ q k, q ≠ 2 → q ≠ 4 → r.2.2.1 q k = F q k) ∧ r.2.2.1 4 1 = F 4 1 ∧ (∀ q o, q ≠ 2 → r.2.2.2.1 q o = A q o) ∧ ((r.1 = 0 ∧ (F 4 2).toInt = 0 ∧ r.2.2.1 = F ∧ r.2.2.2.1 = A) ∨ (r.1 = 1 ∧ (F 4 2).toInt ≠ 0 ∧ (r.2.2.1 4 2).toInt = (F 4 2).toInt - 1 ∧ SE (F (sl F ((F 4 2).toInt - 1))) (r.2.2.1 2) (A (sl F ((F 4 2).toInt - 1))) (r.2.2.2.1 2)))) ?_ ?_
  · refine po_cond (fun c => ?_) (fun c => ?_)
    · rw [i_ne, i_0] at c
      refine po_bl (fun F2 h2 => po_bl (fun v3 h3 => po_bl (fun q4 h4 => ?_)))
      have U2 := gg_cpf h2
      have k1 : F2 4 1 = F 4 1 := U2.2 4 1 (by simp)
      have e0 := i_sub (x := F 4 2) (y := 1) (by rw [i_1]; omega) (by rw [i_1]; omega)
      rw [i_1] at e0
      have k2 : (F2 4 2).toInt = (F 4 2).toInt - 1 := by rw [U2.1]; exact e0
      have e3 := i_add (x := F2 4 1) (y := F2 4 2) (by rw [k1]; omega) (by rw [k1]; omega)
      rw [k1, k2] at e3
      rw [k1] at h3
      have d3 := gg_rem20 h3 (by omega)
      have q := gg_car h4
      have qe : q4 = sl F ((F 4 2).toInt - 1) := by
        rw [q.2.2, d3, e3]
        rfl
      have rg := sl_rng (F := F) ((F 4 2).toInt - 1)
      refine po_call (v_copy (by omega)) ?_
      rintro ⟨u, P6, F7, A8, J9⟩ ⟨g1, g2, g3, g4⟩
      dsimp only at g1 g2 g3 g4 ⊢
      refine po_some ⟨g1, fun q k hq hq4 => (g2 q k hq).trans (U2.2 q k (fun e => hq4 e.1)), (g2 4 1 (by decide)).trans k1, fun q o hq => g3 q o hq, .inr ⟨rfl, c, (show (F7 4 2).toInt = (F 4 2).toInt - 1 by rw [g2 4 2 (by decide)]; exact k2), ?_⟩⟩
      rw [← qe]
      exact SE.tr (.of (fun k => U2.2 q4 k (fun e => by omega)) (fun o => rfl)) g4
    · rw [i_nne, i_0] at c
      exact po_some ⟨rfl, fun _ _ _ _ => rfl, rfl, fun _ _ _ => rfl, .inl ⟨rfl, c, rfl, rfl⟩⟩
  rintro ⟨v1, P2, F3, A4, J5⟩ ⟨g1, g2, g3, g4, g5⟩
  dsimp only at g1 g2 g3 g4 g5 ⊢
  rcases g5 with ⟨e1, e2, e3, e4⟩ | ⟨e1, e2, e3, e4⟩
  · subst e1
    refine po_cond (fun c => absurd c (by decide)) (fun _ => po_some ⟨g1, fun q k a b _ => g2 q k a b, g3, fun k _ => by rw [e3], g4, .inl ⟨rfl, e2, e3, e4⟩⟩)
  · subst e1
    refine po_cond (fun _ => ?_) (fun c => absurd c (by decide))
    unfold e_Evening_setStale
    refine po_call (R := fun (z : Unit × (Nat → Nat → Nat) × (Nat → Nat → Int32) × (Nat → Nat → Nat → Int32) × (Nat → Nat → Nat → Int64)) => z.2.1 = P2 ∧ FUm F3 z.2.2.1 32 6 (-1) ∧ z.2.2.2.1 = A4) (po_bl (fun F1 h1 => po_some ⟨rfl, gg_cpf h1, rfl⟩)) ?_
    rintro ⟨u, P8, F9, A10, J11⟩ ⟨w1, w2, w3⟩
    dsimp only at w1 w2 w3 ⊢
    subst w1 w3
    refine po_some ⟨g1, fun q k a b c => (w2.2 q k (fun e => c e.1)).trans (g2 q k a b), (w2.2 4 1 (by simp)).trans g3, fun k hk => (w2.2 32 k (fun e => hk e.2)).trans (g2 32 k (by decide) (by decide)), g4, .inr ⟨rfl, e2, w2.1, (show (F9 4 2).toInt = (F 4 2).toInt - 1 by rw [w2.2 4 2 (by simp)]; exact e3), SE.tr e4 (.of (fun k => w2.2 2 k (by simp)) (fun o => rfl))⟩⟩
/-- hold -/
theorem v_cHold3 : po (e_SleepWork_hold P F A J x1) (fun r => r.2.1 = P ∧ ((¬ (0 ≤ x1.toInt ∧ x1.toInt < 3) ∧ r.2.2.1 = F ∧ r.2.2.2.1 = A) ∨ ((0 ≤ x1.toInt ∧ x1.toInt < 3) ∧ (∀ q k, q ≠ 29 + x1.toInt.toNat → ¬ (q = 0 ∧ k = 10) → r.2.2.1 q k = F q k) ∧ (∀ q o, q ≠ 29 + x1.toInt.toNat → r.2.2.2.1 q o = A q o) ∧ SE (F 2) (r.2.2.1 (29 + x1.toInt.toNat)) (A 2) (r.2.2.2.1 (29 + x1.toInt.toNat))))) := by
  have l3 : (3 : Int32).toInt = 3 := by decide
  unfold e_SleepWork_hold
  refine po_cond (fun c => po_some ⟨rfl, .inl ⟨?_, rfl, rfl⟩⟩) (fun c => ?_)
  · rw [i_lt, i_0] at c
    omega
  rw [i_nlt, i_0] at c
  refine po_cond (fun c2 => ?_) (fun c2 => po_some ⟨rfl, .inl ⟨?_, rfl, rfl⟩⟩)
  · rw [i_lt, l3] at c2
    refine po_bl (fun q h => ?_)
    obtain rfl := (gg_car h).2.2
    refine po_call (v_copy (by omega)) ?_
    rintro ⟨u, P6, F7, A8, J9⟩ ⟨g1, g2, g3, g4⟩
    dsimp only at g1 g2 g3 g4 ⊢
    refine po_bl (fun F9 h9 => ?_)
    have u := gg_cpf h9
    exact po_some ⟨g1, .inr ⟨⟨c, c2⟩, fun q k hq hk => (u.2 q k hk).trans (g2 q k hq), fun q o hq => g3 q o hq, SE.tr g4 (.of (fun k => u.2 _ k (fun e => by omega)) (fun o => rfl))⟩⟩
  · rw [i_nlt, l3] at c2
    omega
/-- restore -/
theorem v_cRestore3 : po (e_SleepWork_restore P F A J x1) (fun r => r.2.1 = P ∧ ((r.1 = 0 ∧ r.2.2.1 = F ∧ r.2.2.2.1 = A) ∨ (r.1 = 1 ∧ (0 ≤ x1.toInt ∧ x1.toInt < 3) ∧ HB (F 0 10) x1.toInt.toNat ∧ (∀ q k, q ≠ 2 → ¬ (q = 4 ∧ k = 2) → ¬ (q = 32 ∧ k = 6) → r.2.2.1 q k = F q k) ∧ (∀ q o, q ≠ 2 → r.2.2.2.1 q o = A q o) ∧ r.2.2.1 4 2 = 0 ∧ r.2.2.1 32 6 = -1 ∧ SE (F (29 + x1.toInt.toNat)) (r.2.2.1 2) (A (29 + x1.toInt.toNat)) (r.2.2.2.1 2)))) := by
  have l3 : (3 : Int32).toInt = 3 := by decide
  unfold e_SleepWork_restore
  refine po_cond (fun c => po_some ⟨rfl, .inl ⟨rfl, rfl, rfl⟩⟩) (fun c => ?_)
  rw [i_nlt, i_0] at c
  refine po_cond (fun c2 => po_some ⟨rfl, .inl ⟨rfl, rfl, rfl⟩⟩) (fun c2 => ?_)
  rw [i_nge, l3] at c2
  have ex : x1 = Int32.ofNat x1.toInt.toNat := i_nat c
  refine po_cond (fun c3 => ?_) (fun c3 => po_some ⟨rfl, .inl ⟨rfl, rfl, rfl⟩⟩)
  rw [i_ne, i_0] at c3
  have hb : HB (F 0 10) x1.toInt.toNat := by
    unfold HB
    rw [← ex]
    exact fun e => c3 (by rw [e] <;> exact i_0)
  refine po_bl (fun q h => ?_)
  obtain rfl := (gg_car h).2.2
  refine po_call (v_copy (by omega)) ?_
  rintro ⟨u, P6, F7, A8, J9⟩ ⟨g1, g2, g3, g4⟩
  dsimp only at g1 g2 g3 g4 ⊢
  refine po_bl (fun F10 h10 => ?_)
  have w := gg_cpf h10
  unfold e_Evening_setStale
  refine po_call (R := fun (z : Unit × (Nat → Nat → Nat) × (Nat → Nat → Int32) × (Nat → Nat → Nat → Int32) × (Nat → Nat → Nat → Int64)) => z.2.1 = P6 ∧ FUm F10 z.2.2.1 32 6 (-1) ∧ z.2.2.2.1 = A8) (po_bl (fun F1 h1 => po_some ⟨rfl, gg_cpf h1, rfl⟩)) ?_
  rintro ⟨u, P8, F9, A10, J11⟩ ⟨w1, w2, w3⟩
  dsimp only at w1 w2 w3 ⊢
  subst w1 w3
  exact po_some ⟨g1, .inr ⟨rfl, ⟨c, c2⟩, hb, fun q k a b d => (w2.2 q k d).trans ((w.2 q k b).trans (g2 q k a)), fun q o hq => g3 q o hq, (w2.2 4 2 (by simp)).trans w.1, w2.1, SE.tr g4 (.of (fun k => (w2.2 2 k (by simp)).trans (w.2 2 k (by simp))) (fun o => rfl))⟩⟩
/-! the reference -/
/-- cells x .. 99 of a row written into another -/
def CPm (src dst : Nat) (so d_ x : Int) (Am Am' : Nat → Nat → Int32) : Prop := (∀ q, q ≠ dst → Am' q = Am q) ∧ (∀ i, x ≤ i → i < 100 → ai Am' dst (d_ + i) = ai Am src (so + i)) ∧ (∀ i, 0 ≤ i → i < d_ + x ∨ d_ + 100 ≤ i → ai Am' dst i = ai Am dst i)
theorem CPm.rfl' {src dst : Nat} {so d_ x : Int} (h : 100 ≤ x) : CPm src dst so d_ x Am Am := ⟨fun _ _ => rfl, fun _ _ _ => absurd h (by omega), fun _ _ _ => rfl⟩
theorem CPm.step {src dst ns nd : Nat} {so d_ x : Int} {i1 i2 v : Int32} {A1 A2 : Nat → Nat → Int32} (hne : src ≠ dst) (h1 : m_ld (Am src) ns i1 = some v) (h2 : m_st Am dst nd i2 v = some A1) (e1 : i1.toInt = so + x) (e2 : i2.toInt = d_ + x) (x0 : 0 ≤ x) (x1 : x < 100) (d0 : 0 ≤ d_) (h : CPm src dst so d_ (x + 1) A1 A2) : CPm src dst so d_ x Am A2 := by
  have g := gg_ld h1
  have s := (gg_st h2).2.2
  rw [e2] at s
  refine ⟨fun q hq => (h.1 q hq).trans (s.1 q hq), fun i i0 i1' => ?_, fun i i0 hi => ?_⟩
  · by_cases e : i = x
    · rw [h.2.2 (d_ + i) (by omega) (by omega), e, s.2.1, g.2.2, e1]
      rfl
    · rw [h.2.1 i (by omega) i1']
      unfold ai
      rw [s.1 src hne]
  · rw [h.2.2 i i0 (by omega)]
    exact s.2.2 i i0 (by omega)
theorem r_takes_2 : ∀ {n : Nat} {Fm : Nat → Int32} {Am : Nat → Nat → Int32} {Jm : Nat → Nat → Int64} {x1 : Int32}, 0 ≤ x1.toInt → po (d_takes_2 n Fm Am Jm x1) (fun r => r.2.1 = Fm ∧ CPm 47 48 0 0 x1.toInt Am r.2.2.1) := by
  intro n
  induction n with
  | zero => intro Fm Am Jm x1 _ r hr; cases hr
  | succ n ih =>
    intro Fm Am Jm x1 h0
    have l100 : (100 : Int32).toInt = 100 := by decide
    unfold d_takes_2
    refine po_cond (fun c => po_some ⟨rfl, CPm.rfl' (by rw [i_ge, l100] at c; exact c)⟩) (fun c => ?_)
    rw [i_nge, l100] at c
    refine po_bl (fun v2 h2 => po_bl (fun A3 h3 => ?_))
    have e := i_p1 (x := x1) (by omega)
    refine po_mono (ih (by omega)) (fun r h => ⟨h.1, CPm.step (by decide) h2 h3 (by omega) (by omega) h0 (by omega) (by omega) (by rw [← e]; exact h.2)⟩)
theorem r_takes : po (d_takes n Fm Am Jm) (fun r => r.2.1 = Fm ∧ CPm 47 48 0 0 0 Am r.2.2.1) := by
  unfold d_takes
  exact po_mono (r_takes_2 (x1 := 0) (by decide)) (fun r h => ⟨h.1, by rw [i_0] at h; exact h.2⟩)
theorem r_night_104 : ∀ {n : Nat} {Fm : Nat → Int32} {Am : Nat → Nat → Int32} {Jm : Nat → Nat → Int64} {x2 : Int32}, 0 ≤ x2.toInt → po (d_night_104 n Fm Am Jm x1 x2) (fun r => r.1 = x1 ∧ r.2.1 = Fm ∧ CPm 48 47 0 0 x2.toInt Am r.2.2.1) := by
  intro n
  induction n with
  | zero => intro Fm Am Jm x2 _ r hr; cases hr
  | succ n ih =>
    intro Fm Am Jm x2 h0
    have l100 : (100 : Int32).toInt = 100 := by decide
    unfold d_night_104
    refine po_cond (fun c => po_some ⟨rfl, rfl, CPm.rfl' (by rw [i_ge, l100] at c; exact c)⟩) (fun c => ?_)
    rw [i_nge, l100] at c
    refine po_bl (fun v2 h2 => po_bl (fun A3 h3 => ?_))
    have e := i_p1 (x := x2) (by omega)
    refine po_mono (ih (by omega)) (fun r h => ⟨h.1, h.2.1, CPm.step (by decide) h2 h3 (by omega) (by omega) h0 (by omega) (by omega) (by rw [← e]; exact h.2.2)⟩)
theorem i_100 {c x : Int32} (c0 : 0 ≤ c.toInt) (c1 : c.toInt ≤ 20) (x0 : 0 ≤ x.toInt) (x1 : x.toInt ≤ 100) : (100 * c + x).toInt = 100 * c.toInt + x.toInt := by
  have m := i_mulL (c := 100) (k := 100) (x := c) (by decide) (by omega) (by omega)
  rw [i_add (by rw [m]; omega) (by rw [m]; omega), m]
/-- the night behind the copying -/
def nrest (n : Nat) (F : Nat → Int32) (A : Nat → Nat → Int32) (J : Nat → Nat → Int64) : Option (Int32 × (Nat → Int32) × (Nat → Nat → Int32) × (Nat → Nat → Int64)) := (m_pf F 74 ((F 74) + 1)).bind fun F7 => (d_takes n F7 A J).bind fun (_, F9, A10, J11) => (d_wholeNight n F9 A10 J11).bind fun (v12, F13, A14, J15) => d_night_104 n F13 A14 J15 v12 0
theorem r_night_51 {Q : Int32 × (Nat → Int32) × (Nat → Nat → Int32) × (Nat → Nat → Int64) → Prop} (c0 : 0 ≤ (Fm 74).toInt) (c1 : (Fm 74).toInt ≤ 20) : ∀ {n : Nat} {Am : Nat → Nat → Int32} {x1 : Int32}, 0 ≤ x1.toInt → (∀ n' A', CPm 47 57 0 (100 * (Fm 74).toInt) x1.toInt Am A' → po (nrest n' Fm A' Jm) Q) → po (d_night_51 n Fm Am Jm x1) Q := by
  intro n
  induction n with
  | zero => intro Am x1 _ _ r hr; cases hr
  | succ n ih =>
    intro Am x1 h0 K
    have l100 : (100 : Int32).toInt = 100 := by decide
    unfold d_night_51
    refine po_cond (fun c => K n Am (CPm.rfl' (by rw [i_ge, l100] at c; exact c))) (fun c => ?_)
    rw [i_nge, l100] at c
    refine po_bl (fun v2 h2 => po_bl (fun A3 h3 => ?_))
    have e := i_p1 (x := x1) (by omega)
    refine ih (by omega) (fun n' A' h => K n' A' ?_)
    rw [e] at h
    exact CPm.step (by decide) h2 h3 (by omega) (i_100 c0 c1 h0 (by omega)) h0 (by omega) (by omega) h
/-- the kept evenings go down by one -/
def SHd (x : Int) (Am Am' : Nat → Nat → Int32) : Prop := (∀ q, q ≠ 57 → Am' q = Am q) ∧ (∀ i, x ≤ i → i < 1900 → ai Am' 57 i = ai Am 57 (i + 100)) ∧ (∀ i, 0 ≤ i → i < x → ai Am' 57 i = ai Am 57 i)
theorem r_night_11 {Q : Int32 × (Nat → Int32) × (Nat → Nat → Int32) × (Nat → Nat → Int64) → Prop} (c1 : (Fm 74).toInt = 20) : ∀ {n : Nat} {Am : Nat → Nat → Int32} {x1 : Int32}, 0 ≤ x1.toInt → x1.toInt ≤ 1900 → (∀ n' F3 A' A'', (F3 74).toInt = 19 → (∀ q, q ≠ 74 → F3 q = Fm q) → SHd x1.toInt Am A' → CPm 47 57 0 1900 0 A' A'' → po (nrest n' F3 A'' Jm) Q) → po (d_night_11 n Fm Am Jm x1) Q := by
  intro n
  induction n with
  | zero => intro Am x1 _ _ _ r hr; cases hr
  | succ n ih =>
    intro Am x1 h0 h1 K
    have l1900 : (1900 : Int32).toInt = 1900 := by decide
    have l100 : (100 : Int32).toInt = 100 := by decide
    unfold d_night_11
    refine po_cond (fun c => ?_) (fun c => ?_)
    · rw [i_ge, l1900] at c
      refine po_bl (fun F3 h3 => ?_)
      have u := gg_pf h3
      have e3 : (F3 74).toInt = 19 := by
        rw [u.1, i_sub (by rw [i_1]; omega) (by rw [i_1]; omega), i_1, c1]
        rfl
      refine r_night_51 (by omega) (by omega) (x1 := 0) (by decide) (fun n' A' h => ?_)
      rw [e3, i_0] at h
      exact K n' F3 Am A' e3 u.2 ⟨fun _ _ => rfl, fun i a b => absurd a (by omega), fun _ _ _ => rfl⟩ h
    · rw [i_nge, l1900] at c
      refine po_bl (fun v4 h4 => po_bl (fun A5 h5 => ?_))
      have e := i_p1 (x := x1) (by omega)
      have e1 := i_add (x := x1) (y := 100) (by rw [l100]; omega) (by rw [l100]; omega)
      rw [l100] at e1
      have g := gg_ld h4
      have s := (gg_st h5).2.2
      refine ih (by omega) (by omega) (fun n' F3 A' A'' f3 fq sh cp => K n' F3 A' A'' f3 fq ?_ cp)
      rw [e] at sh
      refine ⟨fun q hq => (sh.1 q hq).trans (s.1 q hq), fun i i0 i1 => ?_, fun i i0 i1 => ?_⟩
      · by_cases hi : i = x1.toInt
        · rw [sh.2.2 i (by omega) (by omega), hi, s.2.1, g.2.2, e1]
          rfl
        · rw [sh.2.1 i (by omega) i1]
          exact s.2.2 (i + 100) (by omega) (by omega)
      · rw [sh.2.2 i i0 (by omega)]
        exact s.2.2 i i0 (by omega)
/-- the past of the reference after a night's beginning -/
def HSm (d c : Int) (Am Am' : Nat → Nat → Int32) : Prop := (∀ q, q ≠ 57 → Am' q = Am q) ∧ (∀ u i, 0 ≤ u → u < c - d → 0 ≤ i → i < 100 → ai Am' 57 (100 * u + i) = ai Am 57 (100 * (u + d) + i)) ∧ (∀ i, 0 ≤ i → i < 100 → ai Am' 57 (100 * (c - d) + i) = ai Am 47 i)
def nrest2 (n : Nat) (F7 : Nat → Int32) (A : Nat → Nat → Int32) (J : Nat → Nat → Int64) : Option (Int32 × (Nat → Int32) × (Nat → Nat → Int32) × (Nat → Nat → Int64)) := (d_takes n F7 A J).bind fun (_, F9, A10, J11) => (d_wholeNight n F9 A10 J11).bind fun (v12, F13, A14, J15) => d_night_104 n F13 A14 J15 v12 0
theorem r_night {Q : Int32 × (Nat → Int32) × (Nat → Nat → Int32) × (Nat → Nat → Int64) → Prop} (c0 : 0 ≤ (Fm 74).toInt ∧ (Fm 74).toInt ≤ 20) (K : ∀ n' F7 A' d, ((d = 1 ∧ (Fm 74).toInt = 20) ∨ (d = 0 ∧ (Fm 74).toInt < 20)) → (F7 74).toInt = (Fm 74).toInt + 1 - d → (∀ q, q ≠ 74 → F7 q = Fm q) → HSm d (Fm 74).toInt Am A' → po (nrest2 n' F7 A' Jm) Q) : po (d_night n Fm Am Jm) Q := by
  have l20 : (20 : Int32).toInt = 20 := by decide
  unfold d_night
  refine po_cond (fun c => ?_) (fun c => ?_)
  · rw [i_ne, l20] at c
    unfold d_night_49
    refine r_night_51 c0.1 c0.2 (x1 := 0) (by decide) (fun n' A' h => ?_)
    rw [i_0] at h
    unfold nrest
    refine po_bl (fun F7 h7 => ?_)
    have u := gg_pf h7
    refine K n' F7 A' 0 (.inr ⟨rfl, by omega⟩) (by rw [u.1, i_p1 (by omega)]; omega) u.2 ⟨h.1, fun v i v0 v1 i0 i1 => ?_, fun i i0 i1 => ?_⟩
    · rw [h.2.2 (100 * v + i) (by omega) (.inl (by omega)), Int.add_zero]
    · rw [Int.sub_zero, h.2.1 i i0 i1, Int.zero_add]
  · rw [i_nne, l20] at c
    refine r_night_11 c (x1 := 0) (by decide) (by decide) (fun n' F3 A' A'' f3 fq sh cp => ?_)
    rw [i_0] at sh
    unfold nrest
    refine po_bl (fun F7 h7 => ?_)
    have u := gg_pf h7
    refine K n' F7 A'' 1 (.inl ⟨rfl, c⟩) (by rw [u.1, i_p1 (by omega)]; omega) (fun q hq => (u.2 q hq).trans (fq q hq)) ⟨fun q hq => (cp.1 q hq).trans (sh.1 q hq), fun v i v0 v1 i0 i1 => ?_, fun i i0 i1 => ?_⟩
    · rw [cp.2.2 (100 * v + i) (by omega) (.inl (by omega)), sh.2.1 (100 * v + i) (by omega) (by omega)]
      congr 1
      omega
    · rw [c, show (100 * ((20 : Int) - 1) + i) = 1900 + i by omega, cp.2.1 i i0 i1, Int.zero_add]
      unfold ai
      rw [sh.1 47 (by decide)]
theorem r_undo_21 (c0 : 0 ≤ (Fm 74).toInt) (c1 : (Fm 74).toInt ≤ 20) : ∀ {n : Nat} {Am : Nat → Nat → Int32} {Jm : Nat → Nat → Int64} {x1 : Int32}, 0 ≤ x1.toInt → po (d_undo_21 n Fm Am Jm x1) (fun r => r.1 = 1 ∧ r.2.1 = Fm ∧ CPm 57 47 (100 * (Fm 74).toInt) 0 x1.toInt Am r.2.2.1) := by
  intro n
  induction n with
  | zero => intro Am Jm x1 _ r hr; cases hr
  | succ n ih =>
    intro Am Jm x1 h0
    have l100 : (100 : Int32).toInt = 100 := by decide
    unfold d_undo_21
    refine po_cond (fun c => po_some ⟨rfl, rfl, CPm.rfl' (by rw [i_ge, l100] at c; exact c)⟩) (fun c => ?_)
    rw [i_nge, l100] at c
    refine po_bl (fun v2 h2 => po_bl (fun A3 h3 => ?_))
    have e := i_p1 (x := x1) (by omega)
    refine po_mono (ih (by omega)) (fun r h => ⟨h.1, h.2.1, CPm.step (by decide) h2 h3 (i_100 c0 c1 h0 (by omega)) (by omega) h0 (by omega) (by omega) (by rw [← e]; exact h.2.2)⟩)
theorem r_undo (c0 : 0 ≤ (Fm 74).toInt ∧ (Fm 74).toInt ≤ 20) : po (d_undo n Fm Am Jm) (fun r => (∀ q, q ≠ 74 → r.2.1 q = Fm q) ∧ ((r.1 = 0 ∧ (Fm 74).toInt = 0 ∧ r.2.1 = Fm ∧ r.2.2.1 = Am) ∨ (r.1 = 1 ∧ (Fm 74).toInt ≠ 0 ∧ (r.2.1 74).toInt = (Fm 74).toInt - 1 ∧ CPm 57 47 (100 * ((Fm 74).toInt - 1)) 0 0 Am r.2.2.1))) := by
  unfold d_undo
  refine po_cond (fun c => ?_) (fun c => ?_)
  · rw [i_ne, i_0] at c
    refine po_bl (fun F2 h2 => ?_)
    have u := gg_pf h2
    have e : (F2 74).toInt = (Fm 74).toInt - 1 := by rw [u.1, i_sub (by rw [i_1]; omega) (by rw [i_1]; omega), i_1]
    refine po_mono (r_undo_21 (x1 := 0) (by omega) (by omega) (by decide)) (fun r h => ?_)
    obtain ⟨h1, h2, h3⟩ := h
    rw [e, i_0] at h3
    exact ⟨fun q hq => by rw [h2]; exact u.2 q hq, .inr ⟨h1, c, by rw [h2]; exact e, h3⟩⟩
  · rw [i_nne, i_0] at c
    exact po_some ⟨fun _ _ => rfl, .inl ⟨rfl, c, rfl, rfl⟩⟩
theorem r_hold_20 (c0 : 0 ≤ x1.toInt) (c1 : x1.toInt ≤ 20) : ∀ {n : Nat} {Fm : Nat → Int32} {Am : Nat → Nat → Int32} {Jm : Nat → Nat → Int64} {x2 : Int32}, 0 ≤ x2.toInt → po (d_hold_20 n Fm Am Jm x1 x2) (fun r => r.2.1 = Fm ∧ CPm 47 62 0 (100 * x1.toInt) x2.toInt Am r.2.2.1) := by
  intro n
  induction n with
  | zero => intro Fm Am Jm x2 _ r hr; cases hr
  | succ n ih =>
    intro Fm Am Jm x2 h0
    have l100 : (100 : Int32).toInt = 100 := by decide
    unfold d_hold_20
    refine po_cond (fun c => po_some ⟨rfl, CPm.rfl' (by rw [i_ge, l100] at c; exact c)⟩) (fun c => ?_)
    rw [i_nge, l100] at c
    refine po_bl (fun v2 h2 => po_bl (fun A3 h3 => ?_))
    have e := i_p1 (x := x2) (by omega)
    refine po_mono (ih (by omega)) (fun r h => ⟨h.1, CPm.step (by decide) h2 h3 (by omega) (i_100 c0 c1 h0 (by omega)) h0 (by omega) (by omega) (by rw [← e]; exact h.2)⟩)
theorem r_hold : po (d_hold n Fm Am Jm x1) (fun r => r.2.1 = Fm ∧ ((¬ (0 ≤ x1.toInt ∧ x1.toInt < 3) ∧ r.2.2.1 = Am) ∨ ((0 ≤ x1.toInt ∧ x1.toInt < 3) ∧ ∃ A3, (∀ q, q ≠ 61 → A3 q = Am q) ∧ (∀ s : Nat, s < 3 → s ≠ x1.toInt.toNat → A3 61 s = Am 61 s) ∧ CPm 47 62 0 (100 * x1.toInt) 0 A3 r.2.2.1))) := by
  have l2 : (2 : Int32).toInt = 2 := by decide
  unfold d_hold
  refine po_call v_din ?_
  intro v1 b1
  rw [i_0, l2] at b1
  rcases b1 with ⟨rfl, p⟩ | ⟨rfl, p⟩
  · refine po_cond (fun _ => ?_) (fun c => absurd c (by decide))
    refine po_bl (fun A3 h3 => ?_)
    have u := (gg_st h3).2.2
    refine po_mono (r_hold_20 (x2 := 0) p.1 (by omega) (by decide)) (fun r h => ⟨h.1, .inr ⟨by omega, A3, u.1, fun s hs hne => i_ext ?_, by rw [i_0] at h; exact h.2⟩⟩)
    have w := u.2.2 (s : Int) (by omega) (by omega)
    unfold ai at w
    rw [Int.toNat_natCast] at w
    exact w
  · exact po_cond (fun c => absurd c (by decide)) (fun _ => po_some ⟨rfl, .inl ⟨fun h => p ⟨h.1, by omega⟩, rfl⟩⟩)
theorem r_restore_22 (c0 : 0 ≤ x1.toInt) (c1 : x1.toInt ≤ 20) : ∀ {n : Nat} {Fm : Nat → Int32} {Am : Nat → Nat → Int32} {Jm : Nat → Nat → Int64} {x2 : Int32}, 0 ≤ x2.toInt → po (d_restore_22 n Fm Am Jm x1 x2) (fun r => r.1 = 1 ∧ r.2.1 74 = 0 ∧ (∀ q, q ≠ 74 → r.2.1 q = Fm q) ∧ CPm 62 47 (100 * x1.toInt) 0 x2.toInt Am r.2.2.1) := by
  intro n
  induction n with
  | zero => intro Fm Am Jm x2 _ r hr; cases hr
  | succ n ih =>
    intro Fm Am Jm x2 h0
    have l100 : (100 : Int32).toInt = 100 := by decide
    unfold d_restore_22
    refine po_cond (fun c => ?_) (fun c => ?_)
    · rw [i_ge, l100] at c
      refine po_bl (fun F6 h6 => ?_)
      have u := gg_pf h6
      exact po_some ⟨rfl, u.1, u.2, CPm.rfl' c⟩
    · rw [i_nge, l100] at c
      refine po_bl (fun v2 h2 => po_bl (fun A3 h3 => ?_))
      have e := i_p1 (x := x2) (by omega)
      refine po_mono (ih (by omega)) (fun r h => ⟨h.1, h.2.1, h.2.2.1, CPm.step (by decide) h2 h3 (i_100 c0 c1 h0 (by omega)) (by omega) h0 (by omega) (by omega) (by rw [← e]; exact h.2.2.2)⟩)
theorem r_restore : po (d_restore n Fm Am Jm x1) (fun r => (r.1 = 0 ∧ r.2.1 = Fm ∧ r.2.2.1 = Am) ∨ (r.1 = 1 ∧ (0 ≤ x1.toInt ∧ x1.toInt < 3) ∧ r.2.1 74 = 0 ∧ (∀ q, q ≠ 74 → r.2.1 q = Fm q) ∧ CPm 62 47 (100 * x1.toInt) 0 0 Am r.2.2.1)) := by
  have l2 : (2 : Int32).toInt = 2 := by decide
  unfold d_restore
  refine po_call v_din ?_
  intro v1 b1
  rw [i_0, l2] at b1
  rcases b1 with ⟨rfl, p⟩ | ⟨rfl, p⟩
  · refine po_cond (fun c => absurd c (by decide)) (fun _ => ?_)
    refine po_bl (fun v3 _ => ?_)
    refine po_cond (fun _ => ?_) (fun _ => po_some (.inl ⟨rfl, rfl, rfl⟩))
    refine po_mono (r_restore_22 (x2 := 0) p.1 (by omega) (by decide)) (fun r h => .inr ⟨h.1, by omega, h.2.1, h.2.2.1, by rw [i_0] at h; exact h.2.2.2⟩)
  · exact po_cond (fun _ => po_some (.inl ⟨rfl, rfl, rfl⟩)) (fun c => absurd c (by decide))
end H9f2
end Qz148
section Qz149
/-! evenings now, in the past and in the slots, on both sides: a relation that only reads them -/
section H9f3
variable {S : (Nat → Int32) → (Nat → Nat → Int32) → (Int → Int) → Prop}
variable {n : Nat} {P P' : Nat → Nat → Nat} {F F' : Nat → Nat → Int32} {A A' : Nat → Nat → Nat → Int32} {J : Nat → Nat → Nat → Int64} {Fm Fm' : Nat → Int32} {Am Am' : Nat → Nat → Int32} {Jm : Nat → Nat → Int64} {x1 x2 : Int32}
/-- it only reads an evening -/
def SOK (S : (Nat → Int32) → (Nat → Nat → Int32) → (Int → Int) → Prop) : Prop := ∀ f f' a a' g g', SE f f' a a' → (∀ i : Int, 0 ≤ i → i < 100 → g' i = g i) → S f a g → S f' a' g'
def YN (S : (Nat → Int32) → (Nat → Nat → Int32) → (Int → Int) → Prop) (F : Nat → Nat → Int32) (A : Nat → Nat → Nat → Int32) (Am : Nat → Nat → Int32) : Prop := S (F 2) (A 2) (fun i => ai Am 47 i)
def YP (S : (Nat → Int32) → (Nat → Nat → Int32) → (Int → Int) → Prop) (F : Nat → Nat → Int32) (A : Nat → Nat → Nat → Int32) (c : Int) (Am : Nat → Nat → Int32) : Prop := ∀ u : Int, 0 ≤ u → u < c → S (F (sl F u)) (A (sl F u)) (fun i => ai Am 57 (100 * u + i))
def YH (S : (Nat → Int32) → (Nat → Nat → Int32) → (Int → Int) → Prop) (F : Nat → Nat → Int32) (A : Nat → Nat → Nat → Int32) (Am : Nat → Nat → Int32) : Prop := ∀ s : Nat, s < 3 → Am 61 s ≠ 0 → S (F (29 + s)) (A (29 + s)) (fun i => ai Am 62 (100 * (s : Int) + i))
def YS (S : (Nat → Int32) → (Nat → Nat → Int32) → (Int → Int) → Prop) (F : Nat → Nat → Int32) (A : Nat → Nat → Nat → Int32) (Fm : Nat → Int32) (Am : Nat → Nat → Int32) : Prop := YN S F A Am ∧ YP S F A (Fm 74).toInt Am ∧ YH S F A Am
/-- what is kept, read alike: the past -/
theorem YP.cg {c : Int} (hS : SOK S) (X : YP S F A c Am) (hf : (F' 4 1).toInt = (F 4 1).toInt) (h : ∀ r, 5 ≤ r → r ≤ 24 → SE (F r) (F' r) (A r) (A' r)) (hm : Am' 57 = Am 57) : YP S F' A' c Am' := by
  intro u u0 u1
  have e : sl F' u = sl F u := by unfold sl; rw [hf]
  rw [e]
  have g := sl_rng (F := F) u
  exact hS _ _ _ _ _ _ (h _ g.1 g.2) (fun i _ _ => by unfold ai; rw [hm]) (X u u0 u1)
theorem YH.cg (hS : SOK S) (X : YH S F A Am) (h : ∀ r, 29 ≤ r → r ≤ 31 → SE (F r) (F' r) (A r) (A' r)) (h1 : Am' 61 = Am 61) (h2 : Am' 62 = Am 62) : YH S F' A' Am' := by
  intro s hs hb
  rw [h1] at hb
  exact hS _ _ _ _ _ _ (h _ (by omega) (by omega)) (fun i _ _ => by unfold ai; rw [h2]) (X s hs hb)
theorem YN.cg (hS : SOK S) (X : YN S F A Am) (h : SE (F 2) (F' 2) (A 2) (A' 2)) (hm : ∀ i : Int, 0 ≤ i → i < 100 → ai Am' 47 i = ai Am 47 i) : YN S F' A' Am' := hS _ _ _ _ _ _ h hm X
/-- undo -/
theorem p2_undoX (hS : SOK S) (R : Rc F A) (c0 : 0 ≤ (Fm 74).toInt ∧ (Fm 74).toInt ≤ 20) (e4 : F 4 2 = Fm 74) (X : YS S F A Fm Am) : P2 (e_SleepWork_undo P F A J) (d_undo n Fm Am Jm) (fun a b => YS S a.2.2.1 a.2.2.2.1 b.2.1 b.2.2.1) :=
  p2_of (v_cUndo3 R) (r_undo c0) (fun a b h h' => by
    obtain ⟨-, h2, h3, -, h5, h6⟩ := h
    obtain ⟨-, g2⟩ := h'
    rcases h6 with ⟨-, z, ef, ea⟩ | ⟨-, z, -, z4, se⟩
    · rcases g2 with ⟨-, -, df, da⟩ | ⟨-, w, -, -⟩
      · rw [ef, ea, df, da]
        exact X
      · rw [e4] at z
        exact absurd z w
    · rcases g2 with ⟨-, w, -, -⟩ | ⟨-, w, w4, cp⟩
      · rw [e4] at z
        exact absurd w z
      · rw [e4] at se
        have sa : ∀ r, 5 ≤ r → SE (F r) (a.2.2.1 r) (A r) (a.2.2.2.1 r) ∨ r = 32 := fun r hr => by
          by_cases e : r = 32
          · exact .inr e
          · exact .inl (.of (fun k => h2 r k (by omega) (by omega) e) (fun o => h5 r o (by omega)))
        refine ⟨?_, ?_, ?_⟩
        · refine hS _ _ _ _ _ _ se (fun i i0 i1 => ?_) (X.2.1 ((Fm 74).toInt - 1) (by omega) (by omega))
          have := cp.2.1 i i0 i1
          rw [Int.zero_add] at this
          exact this
        · rw [w4]
          have Y : YP S F A ((Fm 74).toInt - 1) Am := fun u u0 u1 => X.2.1 u u0 (by omega)
          exact Y.cg hS (by rw [h3]) (fun r r0 r1 => (sa r r0).resolve_right (by omega)) (cp.1 57 (by decide))
        · exact X.2.2.cg hS (fun r r0 r1 => (sa r (by omega)).resolve_right (by omega)) (cp.1 61 (by decide)) (cp.1 62 (by decide)))
/-- hold -/
theorem p2_holdX (hS : SOK S) (X : YS S F A Fm Am) : P2 (e_SleepWork_hold P F A J x1) (d_hold n Fm Am Jm x1) (fun a b => YS S a.2.2.1 a.2.2.2.1 b.2.1 b.2.2.1) :=
  p2_of v_cHold3 r_hold (fun a b h h' => by
    obtain ⟨-, h1⟩ := h
    obtain ⟨g0, g1⟩ := h'
    rcases h1 with ⟨z, ef, ea⟩ | ⟨z, hf, ha, se⟩
    · rcases g1 with ⟨-, da⟩ | ⟨w, -⟩
      · rw [ef, ea, g0, da]
        exact X
      · exact absurd w z
    · rcases g1 with ⟨w, -⟩ | ⟨-, A3, k1, k2, cp⟩
      · exact absurd z w
      · rw [g0]
        have sa : ∀ r, r ≠ 0 → r ≠ 29 + x1.toInt.toNat → SE (F r) (a.2.2.1 r) (A r) (a.2.2.2.1 r) := fun r r0 hr => .of (fun k => hf r k hr (fun e => r0 e.1)) (fun o => ha r o hr)
        refine ⟨X.1.cg hS (sa 2 (by decide) (by omega)) (fun i _ _ => ?_), X.2.1.cg hS (by rw [hf 4 1 (by omega) (by decide)]) (fun r r0 r1 => sa r (by omega) (by omega)) ((cp.1 57 (by decide)).trans (k1 57 (by decide))), fun s hs hb => ?_⟩
        · unfold ai
          rw [cp.1 47 (by decide), k1 47 (by decide)]
        · by_cases e : s = x1.toInt.toNat
          · subst e
            refine hS _ _ _ _ _ _ se (fun i i0 i1 => ?_) X.1
            have q := cp.2.1 i i0 i1
            rw [Int.zero_add] at q
            show ai b.2.2.1 62 (100 * ((x1.toInt.toNat : Nat) : Int) + i) = ai Am 47 i
            rw [show ((x1.toInt.toNat : Nat) : Int) = x1.toInt by omega, q]
            unfold ai
            rw [k1 47 (by decide)]
          · rw [cp.1 61 (by decide), k2 s hs e] at hb
            refine hS _ _ _ _ _ _ (sa (29 + s) (by omega) (by omega)) (fun i i0 i1 => ?_) (X.2.2 s hs hb)
            show ai b.2.2.1 62 (100 * (s : Int) + i) = ai Am 62 (100 * (s : Int) + i)
            rw [cp.2.2 (100 * (s : Int) + i) (by omega) (by omega)]
            unfold ai
            rw [k1 62 (by decide)])
/-- restore: what both answer is the same -/
theorem p2_restoreX (hS : SOK S) (hb : ∀ s : Nat, s < 3 → (HB (F 0 10) s ↔ Am 61 s ≠ 0)) (X : YS S F A Fm Am) : P2 (e_SleepWork_restore P F A J x1) (d_restore n Fm Am Jm x1) (fun a b => a.1 = b.1 → YS S a.2.2.1 a.2.2.2.1 b.2.1 b.2.2.1) :=
  p2_of v_cRestore3 r_restore (fun a b h h' e => by
    obtain ⟨-, h1⟩ := h
    rcases h1 with ⟨z, ef, ea⟩ | ⟨z, p, hh, hf, ha, -, -, se⟩
    · rcases h' with ⟨-, df, da⟩ | ⟨w, -⟩
      · rw [ef, ea, df, da]
        exact X
      · rw [z, w] at e
        exact absurd e (by decide)
    · rcases h' with ⟨w, -⟩ | ⟨-, -, w4, -, cp⟩
      · rw [z, w] at e
        exact absurd e (by decide)
      · have ha61 := (hb _ (by omega)).mp hh
        refine ⟨?_, ?_, ?_⟩
        · refine hS _ _ _ _ _ _ se (fun i i0 i1 => ?_) (X.2.2 x1.toInt.toNat (by omega) ha61)
          have q := cp.2.1 i i0 i1
          rw [Int.zero_add] at q
          show ai b.2.2.1 47 i = ai Am 62 (100 * ((x1.toInt.toNat : Nat) : Int) + i)
          rw [show ((x1.toInt.toNat : Nat) : Int) = x1.toInt by omega]
          exact q
        · rw [w4, i_0]
          exact fun u u0 u1 => absurd u1 (by omega)
        · exact X.2.2.cg hS (fun r r0 r1 => .of (fun k => hf r k (by omega) (by omega) (by omega)) (fun o => ha r o (by omega))) (cp.1 61 (by decide)) (cp.1 62 (by decide)))
/-- a night begins: now is kept on both sides -/
theorem YS.push {d : Int} {z : Unit × (Nat → Nat → Nat) × (Nat → Nat → Int32) × (Nat → Nat → Nat → Int32) × (Nat → Nat → Nat → Int64)} (hS : SOK S) (X : YS S F A Fm Am) (e4 : F 4 2 = Fm 74) (hd : d = 0 ∨ d = 1) (pu : PUv d P F A z) (hs : HSm d (Fm 74).toInt Am Am') : YN S z.2.2.1 z.2.2.2.1 Am' ∧ YP S z.2.2.1 z.2.2.2.1 ((Fm 74).toInt + 1 - d) Am' ∧ YH S z.2.2.1 z.2.2.2.1 Am' := by
  obtain ⟨-, u2, u3, -, u5, u6⟩ := pu
  rw [e4] at u5 u6
  refine ⟨?_, fun u u0 u1 => ?_, ?_⟩
  · exact X.1.cg hS (.of (fun k => u2 2 k (by decide) (by decide)) (fun o => u3 2 o (by decide))) (fun i _ _ => by unfold ai; rw [hs.1 47 (by decide)])
  · by_cases e : u = (Fm 74).toInt - d
    · subst e
      exact hS _ _ _ _ _ _ u6 (fun i i0 i1 => hs.2.2 i i0 i1) X.1
    · exact hS _ _ _ _ _ _ (u5 u u0 (by omega)) (fun i i0 i1 => hs.2.1 u i u0 (by omega) i0 i1) (X.2.1 (u + d) (by omega) (by omega))
  · exact X.2.2.cg hS (fun r r0 r1 => .of (fun k => u2 r k (by omega) (by omega)) (fun o => u3 r o (by omega))) (hs.1 61 (by decide)) (hs.1 62 (by decide))
end H9f3
end Qz149
section Qz150
/-! the ways' cache over a night of the class; what tries leave of every evening kept (frames printed by wip/frames.py, tries by wip/quiet/quiet.py) -/
section H9f4
variable {F0 : Nat → Nat → Int32} {A0 : Nat → Nat → Nat → Int32}
/-- the cache is as it was -/
def CK (F0 : Nat → Nat → Int32) (A0 : Nat → Nat → Nat → Int32) (F : Nat → Nat → Int32) (A : Nat → Nat → Nat → Int32) : Prop := F 36 101 = F0 36 101 ∧ A 36 2 = A0 36 2
theorem CK.rfl' {F : Nat → Nat → Int32} {A : Nat → Nat → Nat → Int32} : CK F A F A := ⟨rfl, rfl⟩
theorem ck_pf {γ : Type} {q k : Nat} {x : Int32} {F : Nat → Nat → Int32} {A : Nat → Nat → Nat → Int32} {g : (Nat → Nat → Int32) → Option γ} {Q : γ → Prop} (h : CK F0 A0 F A) (hk : ¬ (36 = q ∧ 101 = k)) (kk : ∀ F', CK F0 A0 F' A → po (g F') Q) : po ((c_pf F q k x).bind g) Q :=
  po_bl (fun F' e => kk F' ⟨((gg_cpf e).2 36 101 hk).trans h.1, h.2⟩)
theorem ck_st {γ : Type} {q o n : Nat} {i x : Int32} {F : Nat → Nat → Int32} {A : Nat → Nat → Nat → Int32} {g : (Nat → Nat → Nat → Int32) → Option γ} {Q : γ → Prop} (h : CK F0 A0 F A) (ho : ¬ (36 = q ∧ 2 = o)) (kk : ∀ A', CK F0 A0 F A' → po (g A') Q) : po ((c_st A q o n i x).bind g) Q :=
  po_bl (fun A' e => kk A' ⟨h.1, ((gg_cst e).2.2.2.2 36 2 ho).trans h.2⟩)
theorem ck_no {p q o : Nat} (h : c_chk 2 p = some q) : ¬ (36 = q ∧ 2 = o) := by
  rintro ⟨rfl, -⟩
  have g := gg_chk h
  rw [← g.2] at g
  exact absurd g.1 (by decide)
theorem ck_e_Sleep_wakeUp_99 {K2 : (Nat → Nat → Nat) → (Nat → Nat → Int32) → (Nat → Nat → Nat → Int32) → (Nat → Nat → Nat → Int64) → Int32 → Option (Unit × (Nat → Nat → Nat) × (Nat → Nat → Int32) × (Nat → Nat → Nat → Int32) × (Nat → Nat → Nat → Int64))} {n : Nat} {P : Nat → Nat → Nat} {F : Nat → Nat → Int32} {A : Nat → Nat → Nat → Int32} {J : Nat → Nat → Nat → Int64} {x1 : Int32} (hK2 : ∀ (a0 : Nat → Nat → Nat) (a1 : Nat → Nat → Int32) (a2 : Nat → Nat → Nat → Int32) (a3 : Nat → Nat → Nat → Int64) (a4 : Int32), CK F0 A0 a1 a2 → po (K2 a0 a1 a2 a3 a4) (fun r => CK F0 A0 r.2.2.1 r.2.2.2.1)) (h : CK F0 A0 F A) : po (e_Sleep_wakeUp_99 K2 n P F A J x1) (fun r => CK F0 A0 r.2.2.1 r.2.2.2.1) := by
  unfold e_Sleep_wakeUp_99
  repeat' (first
    | with_reducible exact po_some (by assumption)
    | (with_reducible refine ck_pf (by assumption) (by decide) ?_; intro _ _)
    | (with_reducible refine ck_st (by assumption) (by decide) ?_; intro _ _)
    | (with_reducible refine ck_st (by assumption) (ck_no (by assumption)) ?_; intro _ _)
    | (with_reducible refine ck_st (by assumption) (by simp) ?_; intro _ _)
    | with_reducible exact hK2 _ _ _ _ _ (by assumption)
    | (intros; with_reducible exact hK2 _ _ _ _ _ (by assumption))
    | with_reducible refine po_cond (fun _ => ?_) (fun _ => ?_)
    | with_reducible refine po_bind_cond (fun _ => ?_) (fun _ => ?_)
    | with_reducible refine po_bl (fun _ _ => ?_))
theorem ck_e_Sleep_wakeUp_98 {K2 : (Nat → Nat → Nat) → (Nat → Nat → Int32) → (Nat → Nat → Nat → Int32) → (Nat → Nat → Nat → Int64) → Int32 → Option (Unit × (Nat → Nat → Nat) × (Nat → Nat → Int32) × (Nat → Nat → Nat → Int32) × (Nat → Nat → Nat → Int64))} {n : Nat} {P : Nat → Nat → Nat} {F : Nat → Nat → Int32} {A : Nat → Nat → Nat → Int32} {J : Nat → Nat → Nat → Int64} {x1 : Int32} {rs0 : Nat} {s1 : Int32} {s2 : Int32} (hK2 : ∀ (a0 : Nat → Nat → Nat) (a1 : Nat → Nat → Int32) (a2 : Nat → Nat → Nat → Int32) (a3 : Nat → Nat → Nat → Int64) (a4 : Int32), CK F0 A0 a1 a2 → po (K2 a0 a1 a2 a3 a4) (fun r => CK F0 A0 r.2.2.1 r.2.2.2.1)) (h : CK F0 A0 F A) : po (e_Sleep_wakeUp_98 K2 n P F A J x1 rs0 s1 s2) (fun r => CK F0 A0 r.2.2.1 r.2.2.2.1) := by
  unfold e_Sleep_wakeUp_98
  repeat' (first
    | with_reducible exact po_some (by assumption)
    | (with_reducible refine ck_pf (by assumption) (by decide) ?_; intro _ _)
    | (with_reducible refine ck_st (by assumption) (by decide) ?_; intro _ _)
    | (with_reducible refine ck_st (by assumption) (ck_no (by assumption)) ?_; intro _ _)
    | (with_reducible refine ck_st (by assumption) (by simp) ?_; intro _ _)
    | with_reducible exact hK2 _ _ _ _ _ (by assumption)
    | (intros; with_reducible exact hK2 _ _ _ _ _ (by assumption))
    | with_reducible refine po_cond (fun _ => ?_) (fun _ => ?_)
    | with_reducible refine po_bind_cond (fun _ => ?_) (fun _ => ?_)
    | with_reducible refine po_bl (fun _ _ => ?_))
theorem ck_e_Sleep_wakeUp_2   : ∀ {n : Nat} {P : Nat → Nat → Nat} {F : Nat → Nat → Int32} {A : Nat → Nat → Nat → Int32} {J : Nat → Nat → Nat → Int64} {x1 : Int32}, CK F0 A0 F A → po (e_Sleep_wakeUp_2  n P F A J x1) (fun r => CK F0 A0 r.2.2.1 r.2.2.2.1) := by
  intro n
  induction n with
  | zero => intro P F A J x1 _ r hr; cases hr
  | succ n ih =>
    intro P F A J x1 h
    unfold e_Sleep_wakeUp_2
    repeat' (first
      | with_reducible exact po_some (by assumption)
      | (with_reducible refine ck_pf (by assumption) (by decide) ?_; intro _ _)
      | (with_reducible refine ck_st (by assumption) (by decide) ?_; intro _ _)
      | (with_reducible refine ck_st (by assumption) (ck_no (by assumption)) ?_; intro _ _)
      | (with_reducible refine ck_st (by assumption) (by simp) ?_; intro _ _)
      | with_reducible refine ck_e_Sleep_wakeUp_99 ?_ (by assumption)
      | (with_reducible refine po_call (ck_e_Sleep_wakeUp_99 ?_ (by assumption)) ?_)
      | with_reducible refine ck_e_Sleep_wakeUp_98 ?_ (by assumption)
      | (with_reducible refine po_call (ck_e_Sleep_wakeUp_98 ?_ (by assumption)) ?_)
      | with_reducible exact ih (by assumption)
      | (with_reducible refine po_call (ih (by assumption)) ?_; rintro ⟨_, _, _, _, _⟩ _; try dsimp only)
      | (intros; with_reducible exact ih (by assumption))
      | with_reducible refine po_cond (fun _ => ?_) (fun _ => ?_)
      | with_reducible refine po_bind_cond (fun _ => ?_) (fun _ => ?_)
      | with_reducible refine po_bl (fun _ _ => ?_))
theorem ck_e_Sleep_wakeUp {n : Nat} {P : Nat → Nat → Nat} {F : Nat → Nat → Int32} {A : Nat → Nat → Nat → Int32} {J : Nat → Nat → Nat → Int64}  (h : CK F0 A0 F A) : po (e_Sleep_wakeUp n P F A J) (fun r => CK F0 A0 r.2.2.1 r.2.2.2.1) := by
  unfold e_Sleep_wakeUp
  repeat' (first
    | with_reducible exact po_some (by assumption)
    | (with_reducible refine ck_pf (by assumption) (by decide) ?_; intro _ _)
    | (with_reducible refine ck_st (by assumption) (by decide) ?_; intro _ _)
    | (with_reducible refine ck_st (by assumption) (ck_no (by assumption)) ?_; intro _ _)
    | (with_reducible refine ck_st (by assumption) (by simp) ?_; intro _ _)
    | with_reducible exact ck_e_Sleep_wakeUp_2 (by assumption)
    | (with_reducible refine po_call (ck_e_Sleep_wakeUp_2 (by assumption)) ?_; rintro ⟨_, _, _, _, _⟩ _; try dsimp only)
    | with_reducible refine po_cond (fun _ => ?_) (fun _ => ?_)
    | with_reducible refine po_bind_cond (fun _ => ?_) (fun _ => ?_)
    | with_reducible refine po_bl (fun _ _ => ?_))
theorem ck_e_Sleep_goTill_119 {n : Nat} {P : Nat → Nat → Nat} {F : Nat → Nat → Int32} {A : Nat → Nat → Nat → Int32} {J : Nat → Nat → Nat → Int64}  (h : CK F0 A0 F A) : po (e_Sleep_goTill_119 n P F A J) (fun r => CK F0 A0 r.2.2.1 r.2.2.2.1) := by
  unfold e_Sleep_goTill_119
  repeat' (first
    | with_reducible exact po_some (by assumption)
    | (with_reducible refine ck_pf (by assumption) (by decide) ?_; intro _ _)
    | (with_reducible refine ck_st (by assumption) (by decide) ?_; intro _ _)
    | (with_reducible refine ck_st (by assumption) (ck_no (by assumption)) ?_; intro _ _)
    | (with_reducible refine ck_st (by assumption) (by simp) ?_; intro _ _)
    | with_reducible exact ck_e_Sleep_wakeUp (by assumption)
    | (with_reducible refine po_call (ck_e_Sleep_wakeUp (by assumption)) ?_; rintro ⟨_, _, _, _, _⟩ _; try dsimp only)
    | with_reducible refine po_cond (fun _ => ?_) (fun _ => ?_)
    | with_reducible refine po_bind_cond (fun _ => ?_) (fun _ => ?_)
    | with_reducible refine po_bl (fun _ _ => ?_))
theorem ck_e_Sleep_finishAll_122 {K2 : (Nat → Nat → Nat) → (Nat → Nat → Int32) → (Nat → Nat → Nat → Int32) → (Nat → Nat → Nat → Int64) → Int32 → Int32 → Option (Unit × (Nat → Nat → Nat) × (Nat → Nat → Int32) × (Nat → Nat → Nat → Int32) × (Nat → Nat → Nat → Int64))} {n : Nat} {P : Nat → Nat → Nat} {F : Nat → Nat → Int32} {A : Nat → Nat → Nat → Int32} {J : Nat → Nat → Nat → Int64} {x1 : Int32} {x2 : Int32} (hK2 : ∀ (a0 : Nat → Nat → Nat) (a1 : Nat → Nat → Int32) (a2 : Nat → Nat → Nat → Int32) (a3 : Nat → Nat → Nat → Int64) (a4 : Int32) (a5 : Int32), CK F0 A0 a1 a2 → po (K2 a0 a1 a2 a3 a4 a5) (fun r => CK F0 A0 r.2.2.1 r.2.2.2.1)) (h : CK F0 A0 F A) : po (e_Sleep_finishAll_122 K2 n P F A J x1 x2) (fun r => CK F0 A0 r.2.2.1 r.2.2.2.1) := by
  unfold e_Sleep_finishAll_122
  repeat' (first
    | with_reducible exact po_some (by assumption)
    | (with_reducible refine ck_pf (by assumption) (by decide) ?_; intro _ _)
    | (with_reducible refine ck_st (by assumption) (by decide) ?_; intro _ _)
    | (with_reducible refine ck_st (by assumption) (ck_no (by assumption)) ?_; intro _ _)
    | (with_reducible refine ck_st (by assumption) (by simp) ?_; intro _ _)
    | with_reducible exact hK2 _ _ _ _ _ _ (by assumption)
    | (intros; with_reducible exact hK2 _ _ _ _ _ _ (by assumption))
    | with_reducible refine po_cond (fun _ => ?_) (fun _ => ?_)
    | with_reducible refine po_bind_cond (fun _ => ?_) (fun _ => ?_)
    | with_reducible refine po_bl (fun _ _ => ?_))
theorem ck_e_House_finish {P : Nat → Nat → Nat} {F : Nat → Nat → Int32} {A : Nat → Nat → Nat → Int32} {J : Nat → Nat → Nat → Int64} {r0 : Nat} {r1 : Nat} {x2 : Int32} {x3 : Int32}  (h : CK F0 A0 F A) : po (e_House_finish P F A J r0 r1 x2 x3) (fun r => CK F0 A0 r.2.2.1 r.2.2.2.1) := by
  unfold e_House_finish
  repeat' (first
    | with_reducible exact po_some (by assumption)
    | (with_reducible refine ck_pf (by assumption) (by decide) ?_; intro _ _)
    | (with_reducible refine ck_st (by assumption) (by decide) ?_; intro _ _)
    | (with_reducible refine ck_st (by assumption) (ck_no (by assumption)) ?_; intro _ _)
    | (with_reducible refine ck_st (by assumption) (by simp) ?_; intro _ _)
    | with_reducible refine po_cond (fun _ => ?_) (fun _ => ?_)
    | with_reducible refine po_bind_cond (fun _ => ?_) (fun _ => ?_)
    | with_reducible refine po_bl (fun _ _ => ?_))
theorem ck_e_Sleep_finishAll_97 {K2 : (Nat → Nat → Nat) → (Nat → Nat → Int32) → (Nat → Nat → Nat → Int32) → (Nat → Nat → Nat → Int64) → Int32 → Int32 → Option (Unit × (Nat → Nat → Nat) × (Nat → Nat → Int32) × (Nat → Nat → Nat → Int32) × (Nat → Nat → Nat → Int64))} {n : Nat} {P : Nat → Nat → Nat} {F : Nat → Nat → Int32} {A : Nat → Nat → Nat → Int32} {J : Nat → Nat → Nat → Int64} {x1 : Int32} {x2 : Int32} {x4 : Int32} (hK2 : ∀ (a0 : Nat → Nat → Nat) (a1 : Nat → Nat → Int32) (a2 : Nat → Nat → Nat → Int32) (a3 : Nat → Nat → Nat → Int64) (a4 : Int32) (a5 : Int32), CK F0 A0 a1 a2 → po (K2 a0 a1 a2 a3 a4 a5) (fun r => CK F0 A0 r.2.2.1 r.2.2.2.1)) (h : CK F0 A0 F A) : po (e_Sleep_finishAll_97 K2 n P F A J x1 x2 x4) (fun r => CK F0 A0 r.2.2.1 r.2.2.2.1) := by
  unfold e_Sleep_finishAll_97
  repeat' (first
    | with_reducible exact po_some (by assumption)
    | (with_reducible refine ck_pf (by assumption) (by decide) ?_; intro _ _)
    | (with_reducible refine ck_st (by assumption) (by decide) ?_; intro _ _)
    | (with_reducible refine ck_st (by assumption) (ck_no (by assumption)) ?_; intro _ _)
    | (with_reducible refine ck_st (by assumption) (by simp) ?_; intro _ _)
    | with_reducible exact hK2 _ _ _ _ _ _ (by assumption)
    | (intros; with_reducible exact hK2 _ _ _ _ _ _ (by assumption))
    | with_reducible refine po_cond (fun _ => ?_) (fun _ => ?_)
    | with_reducible refine po_bind_cond (fun _ => ?_) (fun _ => ?_)
    | with_reducible refine po_bl (fun _ _ => ?_))
theorem ck_e_Sleep_finishAll_2   : ∀ {n : Nat} {P : Nat → Nat → Nat} {F : Nat → Nat → Int32} {A : Nat → Nat → Nat → Int32} {J : Nat → Nat → Nat → Int64} {x1 : Int32} {x2 : Int32}, CK F0 A0 F A → po (e_Sleep_finishAll_2  n P F A J x1 x2) (fun r => CK F0 A0 r.2.2.1 r.2.2.2.1) := by
  intro n
  induction n with
  | zero => intro P F A J x1 x2 _ r hr; cases hr
  | succ n ih =>
    intro P F A J x1 x2 h
    unfold e_Sleep_finishAll_2
    repeat' (first
      | with_reducible exact po_some (by assumption)
      | (with_reducible refine ck_pf (by assumption) (by decide) ?_; intro _ _)
      | (with_reducible refine ck_st (by assumption) (by decide) ?_; intro _ _)
      | (with_reducible refine ck_st (by assumption) (ck_no (by assumption)) ?_; intro _ _)
      | (with_reducible refine ck_st (by assumption) (by simp) ?_; intro _ _)
      | with_reducible refine ck_e_Sleep_finishAll_122 ?_ (by assumption)
      | (with_reducible refine po_call (ck_e_Sleep_finishAll_122 ?_ (by assumption)) ?_)
      | with_reducible exact ck_e_House_finish (by assumption)
      | (with_reducible refine po_call (ck_e_House_finish (by assumption)) ?_; rintro ⟨_, _, _, _, _⟩ _; try dsimp only)
      | with_reducible refine ck_e_Sleep_finishAll_97 ?_ (by assumption)
      | (with_reducible refine po_call (ck_e_Sleep_finishAll_97 ?_ (by assumption)) ?_)
      | with_reducible exact ih (by assumption)
      | (with_reducible refine po_call (ih (by assumption)) ?_; rintro ⟨_, _, _, _, _⟩ _; try dsimp only)
      | (intros; with_reducible exact ih (by assumption))
      | with_reducible refine po_cond (fun _ => ?_) (fun _ => ?_)
      | with_reducible refine po_bind_cond (fun _ => ?_) (fun _ => ?_)
      | with_reducible refine po_bl (fun _ _ => ?_))
theorem ck_e_Sleep_finishAll {n : Nat} {P : Nat → Nat → Nat} {F : Nat → Nat → Int32} {A : Nat → Nat → Nat → Int32} {J : Nat → Nat → Nat → Int64} {x1 : Int32}  (h : CK F0 A0 F A) : po (e_Sleep_finishAll n P F A J x1) (fun r => CK F0 A0 r.2.2.1 r.2.2.2.1) := by
  unfold e_Sleep_finishAll
  repeat' (first
    | with_reducible exact po_some (by assumption)
    | (with_reducible refine ck_pf (by assumption) (by decide) ?_; intro _ _)
    | (with_reducible refine ck_st (by assumption) (by decide) ?_; intro _ _)
    | (with_reducible refine ck_st (by assumption) (ck_no (by assumption)) ?_; intro _ _)
    | (with_reducible refine ck_st (by assumption) (by simp) ?_; intro _ _)
    | with_reducible exact ck_e_Sleep_finishAll_2 (by assumption)
    | (with_reducible refine po_call (ck_e_Sleep_finishAll_2 (by assumption)) ?_; rintro ⟨_, _, _, _, _⟩ _; try dsimp only)
    | with_reducible refine po_cond (fun _ => ?_) (fun _ => ?_)
    | with_reducible refine po_bind_cond (fun _ => ?_) (fun _ => ?_)
    | with_reducible refine po_bl (fun _ _ => ?_))
theorem ck_e_Sleep_goTill_111 {K31 : (Nat → Nat → Nat) → (Nat → Nat → Int32) → (Nat → Nat → Nat → Int32) → (Nat → Nat → Nat → Int64) → Int32 → Int32 → Int32 → Option (Unit × (Nat → Nat → Nat) × (Nat → Nat → Int32) × (Nat → Nat → Nat → Int32) × (Nat → Nat → Nat → Int64))} {n : Nat} {P : Nat → Nat → Nat} {F : Nat → Nat → Int32} {A : Nat → Nat → Nat → Int32} {J : Nat → Nat → Nat → Int64} {x1 : Int32} {x5 : Int32} {s0 : Int32} (hK31 : ∀ (a0 : Nat → Nat → Nat) (a1 : Nat → Nat → Int32) (a2 : Nat → Nat → Nat → Int32) (a3 : Nat → Nat → Nat → Int64) (a4 : Int32) (a5 : Int32) (a6 : Int32), CK F0 A0 a1 a2 → po (K31 a0 a1 a2 a3 a4 a5 a6) (fun r => CK F0 A0 r.2.2.1 r.2.2.2.1)) (h : CK F0 A0 F A) : po (e_Sleep_goTill_111 K31 n P F A J x1 x5 s0) (fun r => CK F0 A0 r.2.2.1 r.2.2.2.1) := by
  unfold e_Sleep_goTill_111
  repeat' (first
    | with_reducible exact po_some (by assumption)
    | (with_reducible refine ck_pf (by assumption) (by decide) ?_; intro _ _)
    | (with_reducible refine ck_st (by assumption) (by decide) ?_; intro _ _)
    | (with_reducible refine ck_st (by assumption) (ck_no (by assumption)) ?_; intro _ _)
    | (with_reducible refine ck_st (by assumption) (by simp) ?_; intro _ _)
    | with_reducible exact hK31 _ _ _ _ _ _ _ (by assumption)
    | (intros; with_reducible exact hK31 _ _ _ _ _ _ _ (by assumption))
    | with_reducible refine po_cond (fun _ => ?_) (fun _ => ?_)
    | with_reducible refine po_bind_cond (fun _ => ?_) (fun _ => ?_)
    | with_reducible refine po_bl (fun _ _ => ?_))
theorem ck_e_Sleep_nextMinute_5   : ∀ {n : Nat} {P : Nat → Nat → Nat} {F : Nat → Nat → Int32} {A : Nat → Nat → Nat → Int32} {J : Nat → Nat → Nat → Int64} {x1 : Int32} {x2 : Int32}, CK F0 A0 F A → po (e_Sleep_nextMinute_5  n P F A J x1 x2) (fun r => CK F0 A0 r.2.2.1 r.2.2.2.1) := by
  intro n
  induction n with
  | zero => intro P F A J x1 x2 _ r hr; cases hr
  | succ n ih =>
    intro P F A J x1 x2 h
    unfold e_Sleep_nextMinute_5
    repeat' (first
      | with_reducible exact po_some (by assumption)
      | (with_reducible refine ck_pf (by assumption) (by decide) ?_; intro _ _)
      | (with_reducible refine ck_st (by assumption) (by decide) ?_; intro _ _)
      | (with_reducible refine ck_st (by assumption) (ck_no (by assumption)) ?_; intro _ _)
      | (with_reducible refine ck_st (by assumption) (by simp) ?_; intro _ _)
      | with_reducible exact ih (by assumption)
      | (with_reducible refine po_call (ih (by assumption)) ?_; rintro ⟨_, _, _, _, _⟩ _; try dsimp only)
      | (intros; with_reducible exact ih (by assumption))
      | with_reducible refine po_cond (fun _ => ?_) (fun _ => ?_)
      | with_reducible refine po_bind_cond (fun _ => ?_) (fun _ => ?_)
      | with_reducible refine po_bl (fun _ _ => ?_))
theorem ck_e_Sleep_nextMinute {n : Nat} {P : Nat → Nat → Nat} {F : Nat → Nat → Int32} {A : Nat → Nat → Nat → Int32} {J : Nat → Nat → Nat → Int64}  (h : CK F0 A0 F A) : po (e_Sleep_nextMinute n P F A J) (fun r => CK F0 A0 r.2.2.1 r.2.2.2.1) := by
  unfold e_Sleep_nextMinute
  repeat' (first
    | with_reducible exact po_some (by assumption)
    | (with_reducible refine ck_pf (by assumption) (by decide) ?_; intro _ _)
    | (with_reducible refine ck_st (by assumption) (by decide) ?_; intro _ _)
    | (with_reducible refine ck_st (by assumption) (ck_no (by assumption)) ?_; intro _ _)
    | (with_reducible refine ck_st (by assumption) (by simp) ?_; intro _ _)
    | with_reducible exact ck_e_Sleep_nextMinute_5 (by assumption)
    | (with_reducible refine po_call (ck_e_Sleep_nextMinute_5 (by assumption)) ?_; rintro ⟨_, _, _, _, _⟩ _; try dsimp only)
    | with_reducible refine po_cond (fun _ => ?_) (fun _ => ?_)
    | with_reducible refine po_bind_cond (fun _ => ?_) (fun _ => ?_)
    | with_reducible refine po_bl (fun _ _ => ?_))
theorem ck_e_Sleep_goTill_96 {K31 : (Nat → Nat → Nat) → (Nat → Nat → Int32) → (Nat → Nat → Nat → Int32) → (Nat → Nat → Nat → Int64) → Int32 → Int32 → Int32 → Option (Unit × (Nat → Nat → Nat) × (Nat → Nat → Int32) × (Nat → Nat → Nat → Int32) × (Nat → Nat → Nat → Int64))} {n : Nat} {P : Nat → Nat → Nat} {F : Nat → Nat → Int32} {A : Nat → Nat → Nat → Int32} {J : Nat → Nat → Nat → Int64} {x1 : Int32} {x4 : Int32} {x5 : Int32} (hK31 : ∀ (a0 : Nat → Nat → Nat) (a1 : Nat → Nat → Int32) (a2 : Nat → Nat → Nat → Int32) (a3 : Nat → Nat → Nat → Int64) (a4 : Int32) (a5 : Int32) (a6 : Int32), CK F0 A0 a1 a2 → po (K31 a0 a1 a2 a3 a4 a5 a6) (fun r => CK F0 A0 r.2.2.1 r.2.2.2.1)) (h : CK F0 A0 F A) : po (e_Sleep_goTill_96 K31 n P F A J x1 x4 x5) (fun r => CK F0 A0 r.2.2.1 r.2.2.2.1) := by
  unfold e_Sleep_goTill_96
  repeat' (first
    | with_reducible exact po_some (by assumption)
    | (with_reducible refine ck_pf (by assumption) (by decide) ?_; intro _ _)
    | (with_reducible refine ck_st (by assumption) (by decide) ?_; intro _ _)
    | (with_reducible refine ck_st (by assumption) (ck_no (by assumption)) ?_; intro _ _)
    | (with_reducible refine ck_st (by assumption) (by simp) ?_; intro _ _)
    | with_reducible refine ck_e_Sleep_goTill_111 ?_ (by assumption)
    | (with_reducible refine po_call (ck_e_Sleep_goTill_111 ?_ (by assumption)) ?_)
    | with_reducible exact ck_e_Sleep_nextMinute (by assumption)
    | (with_reducible refine po_call (ck_e_Sleep_nextMinute (by assumption)) ?_; rintro ⟨_, _, _, _, _⟩ _; try dsimp only)
    | with_reducible exact hK31 _ _ _ _ _ _ _ (by assumption)
    | (intros; with_reducible exact hK31 _ _ _ _ _ _ _ (by assumption))
    | with_reducible refine po_cond (fun _ => ?_) (fun _ => ?_)
    | with_reducible refine po_bind_cond (fun _ => ?_) (fun _ => ?_)
    | with_reducible refine po_bl (fun _ _ => ?_))
theorem ck_e_Sleep_goTill_90 {K31 : (Nat → Nat → Nat) → (Nat → Nat → Int32) → (Nat → Nat → Nat → Int32) → (Nat → Nat → Nat → Int64) → Int32 → Int32 → Int32 → Option (Unit × (Nat → Nat → Nat) × (Nat → Nat → Int32) × (Nat → Nat → Nat → Int32) × (Nat → Nat → Nat → Int64))} {K52 : (Nat → Nat → Nat) → (Nat → Nat → Int32) → (Nat → Nat → Nat → Int32) → (Nat → Nat → Nat → Int64) → Int32 → Int32 → Int32 → Int32 → Option (Unit × (Nat → Nat → Nat) × (Nat → Nat → Int32) × (Nat → Nat → Nat → Int32) × (Nat → Nat → Nat → Int64))} {n : Nat} {P : Nat → Nat → Nat} {F : Nat → Nat → Int32} {A : Nat → Nat → Nat → Int32} {J : Nat → Nat → Nat → Int64} {x1 : Int32} {x4 : Int32} {x5 : Int32} {x6 : Int32} (hK31 : ∀ (a0 : Nat → Nat → Nat) (a1 : Nat → Nat → Int32) (a2 : Nat → Nat → Nat → Int32) (a3 : Nat → Nat → Nat → Int64) (a4 : Int32) (a5 : Int32) (a6 : Int32), CK F0 A0 a1 a2 → po (K31 a0 a1 a2 a3 a4 a5 a6) (fun r => CK F0 A0 r.2.2.1 r.2.2.2.1)) (hK52 : ∀ (a0 : Nat → Nat → Nat) (a1 : Nat → Nat → Int32) (a2 : Nat → Nat → Nat → Int32) (a3 : Nat → Nat → Nat → Int64) (a4 : Int32) (a5 : Int32) (a6 : Int32) (a7 : Int32), CK F0 A0 a1 a2 → po (K52 a0 a1 a2 a3 a4 a5 a6 a7) (fun r => CK F0 A0 r.2.2.1 r.2.2.2.1)) (h : CK F0 A0 F A) : po (e_Sleep_goTill_90 K31 K52 n P F A J x1 x4 x5 x6) (fun r => CK F0 A0 r.2.2.1 r.2.2.2.1) := by
  unfold e_Sleep_goTill_90
  repeat' (first
    | with_reducible exact po_some (by assumption)
    | (with_reducible refine ck_pf (by assumption) (by decide) ?_; intro _ _)
    | (with_reducible refine ck_st (by assumption) (by decide) ?_; intro _ _)
    | (with_reducible refine ck_st (by assumption) (ck_no (by assumption)) ?_; intro _ _)
    | (with_reducible refine ck_st (by assumption) (by simp) ?_; intro _ _)
    | with_reducible exact hK31 _ _ _ _ _ _ _ (by assumption)
    | (intros; with_reducible exact hK31 _ _ _ _ _ _ _ (by assumption))
    | with_reducible exact hK52 _ _ _ _ _ _ _ _ (by assumption)
    | (intros; with_reducible exact hK52 _ _ _ _ _ _ _ _ (by assumption))
    | with_reducible refine po_cond (fun _ => ?_) (fun _ => ?_)
    | with_reducible refine po_bind_cond (fun _ => ?_) (fun _ => ?_)
    | with_reducible refine po_bl (fun _ _ => ?_))
theorem ck_e_Sleep_lieDown {P : Nat → Nat → Nat} {F : Nat → Nat → Int32} {A : Nat → Nat → Nat → Int32} {J : Nat → Nat → Nat → Int64} {x1 : Int32} {x2 : Int32}  (h : CK F0 A0 F A) : po (e_Sleep_lieDown P F A J x1 x2) (fun r => CK F0 A0 r.2.2.1 r.2.2.2.1) := by
  unfold e_Sleep_lieDown
  repeat' (first
    | with_reducible exact po_some (by assumption)
    | (with_reducible refine ck_pf (by assumption) (by decide) ?_; intro _ _)
    | (with_reducible refine ck_st (by assumption) (by decide) ?_; intro _ _)
    | (with_reducible refine ck_st (by assumption) (ck_no (by assumption)) ?_; intro _ _)
    | (with_reducible refine ck_st (by assumption) (by simp) ?_; intro _ _)
    | with_reducible refine po_cond (fun _ => ?_) (fun _ => ?_)
    | with_reducible refine po_bind_cond (fun _ => ?_) (fun _ => ?_)
    | with_reducible refine po_bl (fun _ _ => ?_))
theorem ck_e_Sleep_begin_59 {n : Nat} {P : Nat → Nat → Nat} {F : Nat → Nat → Int32} {A : Nat → Nat → Nat → Int32} {J : Nat → Nat → Nat → Int64} {x1 : Int32} {x2 : Int32} {s1 : Int32} {s2 : Int32}  (h : CK F0 A0 F A) : po (e_Sleep_begin_59 n P F A J x1 x2 s1 s2) (fun r => CK F0 A0 r.2.2.1 r.2.2.2.1) := by
  unfold e_Sleep_begin_59
  repeat' (first
    | with_reducible exact po_some (by assumption)
    | (with_reducible refine ck_pf (by assumption) (by decide) ?_; intro _ _)
    | (with_reducible refine ck_st (by assumption) (by decide) ?_; intro _ _)
    | (with_reducible refine ck_st (by assumption) (ck_no (by assumption)) ?_; intro _ _)
    | (with_reducible refine ck_st (by assumption) (by simp) ?_; intro _ _)
    | with_reducible exact ck_e_Sleep_lieDown (by assumption)
    | (with_reducible refine po_call (ck_e_Sleep_lieDown (by assumption)) ?_; rintro ⟨_, _, _, _, _⟩ _; try dsimp only)
    | with_reducible refine po_cond (fun _ => ?_) (fun _ => ?_)
    | with_reducible refine po_bind_cond (fun _ => ?_) (fun _ => ?_)
    | with_reducible refine po_bl (fun _ _ => ?_))
theorem ck_e_Sleep_begin_44 {n : Nat} {P : Nat → Nat → Nat} {F : Nat → Nat → Int32} {A : Nat → Nat → Nat → Int32} {J : Nat → Nat → Nat → Int64} {x1 : Int32} {x2 : Int32} {x4 : Int32}  (h : CK F0 A0 F A) : po (e_Sleep_begin_44 n P F A J x1 x2 x4) (fun r => CK F0 A0 r.2.2.1 r.2.2.2.1) := by
  unfold e_Sleep_begin_44
  repeat' (first
    | with_reducible exact po_some (by assumption)
    | (with_reducible refine ck_pf (by assumption) (by decide) ?_; intro _ _)
    | (with_reducible refine ck_st (by assumption) (by decide) ?_; intro _ _)
    | (with_reducible refine ck_st (by assumption) (ck_no (by assumption)) ?_; intro _ _)
    | (with_reducible refine ck_st (by assumption) (by simp) ?_; intro _ _)
    | with_reducible exact ck_e_Sleep_begin_59 (by assumption)
    | (with_reducible refine po_call (ck_e_Sleep_begin_59 (by assumption)) ?_; rintro ⟨_, _, _, _, _⟩ _; try dsimp only)
    | with_reducible refine po_cond (fun _ => ?_) (fun _ => ?_)
    | with_reducible refine po_bind_cond (fun _ => ?_) (fun _ => ?_)
    | with_reducible refine po_bl (fun _ _ => ?_))
theorem ck_e_Laws_tellsTo_233 {n : Nat} {P : Nat → Nat → Nat} {F : Nat → Nat → Int32} {A : Nat → Nat → Nat → Int32} {J : Nat → Nat → Nat → Int64} {r0 : Nat}  (h : CK F0 A0 F A) : po (e_Laws_tellsTo_233 n P F A J r0) (fun r => CK F0 A0 r.2.2.1 r.2.2.2.1) := by
  unfold e_Laws_tellsTo_233
  repeat' (first
    | with_reducible exact po_some (by assumption)
    | (with_reducible refine ck_pf (by assumption) (by decide) ?_; intro _ _)
    | (with_reducible refine ck_st (by assumption) (by decide) ?_; intro _ _)
    | (with_reducible refine ck_st (by assumption) (ck_no (by assumption)) ?_; intro _ _)
    | (with_reducible refine ck_st (by assumption) (by simp) ?_; intro _ _)
    | with_reducible refine po_cond (fun _ => ?_) (fun _ => ?_)
    | with_reducible refine po_bind_cond (fun _ => ?_) (fun _ => ?_)
    | with_reducible refine po_bl (fun _ _ => ?_))
theorem ck_e_Laws_tellsTo_227 {K13 : (Nat → Nat → Nat) → (Nat → Nat → Int32) → (Nat → Nat → Nat → Int32) → (Nat → Nat → Nat → Int64) → Nat → Int32 → Int32 → Int32 → Option (Int32 × (Nat → Nat → Nat) × (Nat → Nat → Int32) × (Nat → Nat → Nat → Int32) × (Nat → Nat → Nat → Int64))} {n : Nat} {P : Nat → Nat → Nat} {F : Nat → Nat → Int32} {A : Nat → Nat → Nat → Int32} {J : Nat → Nat → Nat → Int64} {r0 : Nat} {x3 : Int32} {x4 : Int32} {x5 : Int32} (hK13 : ∀ (a0 : Nat → Nat → Nat) (a1 : Nat → Nat → Int32) (a2 : Nat → Nat → Nat → Int32) (a3 : Nat → Nat → Nat → Int64) (a4 : Nat) (a5 : Int32) (a6 : Int32) (a7 : Int32), CK F0 A0 a1 a2 → po (K13 a0 a1 a2 a3 a4 a5 a6 a7) (fun r => CK F0 A0 r.2.2.1 r.2.2.2.1)) (h : CK F0 A0 F A) : po (e_Laws_tellsTo_227 K13 n P F A J r0 x3 x4 x5) (fun r => CK F0 A0 r.2.2.1 r.2.2.2.1) := by
  unfold e_Laws_tellsTo_227
  repeat' (first
    | with_reducible exact po_some (by assumption)
    | (with_reducible refine ck_pf (by assumption) (by decide) ?_; intro _ _)
    | (with_reducible refine ck_st (by assumption) (by decide) ?_; intro _ _)
    | (with_reducible refine ck_st (by assumption) (ck_no (by assumption)) ?_; intro _ _)
    | (with_reducible refine ck_st (by assumption) (by simp) ?_; intro _ _)
    | with_reducible exact hK13 _ _ _ _ _ _ _ _ (by assumption)
    | (intros; with_reducible exact hK13 _ _ _ _ _ _ _ _ (by assumption))
    | with_reducible refine po_cond (fun _ => ?_) (fun _ => ?_)
    | with_reducible refine po_bind_cond (fun _ => ?_) (fun _ => ?_)
    | with_reducible refine po_bl (fun _ _ => ?_))
theorem ck_e_Laws_tellsTo_126 {K13 : (Nat → Nat → Nat) → (Nat → Nat → Int32) → (Nat → Nat → Nat → Int32) → (Nat → Nat → Nat → Int64) → Nat → Int32 → Int32 → Int32 → Option (Int32 × (Nat → Nat → Nat) × (Nat → Nat → Int32) × (Nat → Nat → Nat → Int32) × (Nat → Nat → Nat → Int64))} {n : Nat} {P : Nat → Nat → Nat} {F : Nat → Nat → Int32} {A : Nat → Nat → Nat → Int32} {J : Nat → Nat → Nat → Int64} {r0 : Nat} {x3 : Int32} {x4 : Int32} {x5 : Int32} {rs0 : Nat} {s1 : Int32} {s2 : Int32} (hK13 : ∀ (a0 : Nat → Nat → Nat) (a1 : Nat → Nat → Int32) (a2 : Nat → Nat → Nat → Int32) (a3 : Nat → Nat → Nat → Int64) (a4 : Nat) (a5 : Int32) (a6 : Int32) (a7 : Int32), CK F0 A0 a1 a2 → po (K13 a0 a1 a2 a3 a4 a5 a6 a7) (fun r => CK F0 A0 r.2.2.1 r.2.2.2.1)) (h : CK F0 A0 F A) : po (e_Laws_tellsTo_126 K13 n P F A J r0 x3 x4 x5 rs0 s1 s2) (fun r => CK F0 A0 r.2.2.1 r.2.2.2.1) := by
  unfold e_Laws_tellsTo_126
  repeat' (first
    | with_reducible exact po_some (by assumption)
    | (with_reducible refine ck_pf (by assumption) (by decide) ?_; intro _ _)
    | (with_reducible refine ck_st (by assumption) (by decide) ?_; intro _ _)
    | (with_reducible refine ck_st (by assumption) (ck_no (by assumption)) ?_; intro _ _)
    | (with_reducible refine ck_st (by assumption) (by simp) ?_; intro _ _)
    | with_reducible refine ck_e_Laws_tellsTo_227 ?_ (by assumption)
    | (with_reducible refine po_call (ck_e_Laws_tellsTo_227 ?_ (by assumption)) ?_)
    | with_reducible exact hK13 _ _ _ _ _ _ _ _ (by assumption)
    | (intros; with_reducible exact hK13 _ _ _ _ _ _ _ _ (by assumption))
    | with_reducible refine po_cond (fun _ => ?_) (fun _ => ?_)
    | with_reducible refine po_bind_cond (fun _ => ?_) (fun _ => ?_)
    | with_reducible refine po_bl (fun _ _ => ?_))
theorem ck_e_Laws_tellsTo_88 {K13 : (Nat → Nat → Nat) → (Nat → Nat → Int32) → (Nat → Nat → Nat → Int32) → (Nat → Nat → Nat → Int64) → Nat → Int32 → Int32 → Int32 → Option (Int32 × (Nat → Nat → Nat) × (Nat → Nat → Int32) × (Nat → Nat → Nat → Int32) × (Nat → Nat → Nat → Int64))} {n : Nat} {P : Nat → Nat → Nat} {F : Nat → Nat → Int32} {A : Nat → Nat → Nat → Int32} {J : Nat → Nat → Nat → Int64} {r0 : Nat} {x3 : Int32} {x4 : Int32} {x5 : Int32} {x6 : Int32} {x7 : Int32} (hK13 : ∀ (a0 : Nat → Nat → Nat) (a1 : Nat → Nat → Int32) (a2 : Nat → Nat → Nat → Int32) (a3 : Nat → Nat → Nat → Int64) (a4 : Nat) (a5 : Int32) (a6 : Int32) (a7 : Int32), CK F0 A0 a1 a2 → po (K13 a0 a1 a2 a3 a4 a5 a6 a7) (fun r => CK F0 A0 r.2.2.1 r.2.2.2.1)) (h : CK F0 A0 F A) : po (e_Laws_tellsTo_88 K13 n P F A J r0 x3 x4 x5 x6 x7) (fun r => CK F0 A0 r.2.2.1 r.2.2.2.1) := by
  unfold e_Laws_tellsTo_88
  repeat' (first
    | with_reducible exact po_some (by assumption)
    | (with_reducible refine ck_pf (by assumption) (by decide) ?_; intro _ _)
    | (with_reducible refine ck_st (by assumption) (by decide) ?_; intro _ _)
    | (with_reducible refine ck_st (by assumption) (ck_no (by assumption)) ?_; intro _ _)
    | (with_reducible refine ck_st (by assumption) (by simp) ?_; intro _ _)
    | with_reducible refine ck_e_Laws_tellsTo_227 ?_ (by assumption)
    | (with_reducible refine po_call (ck_e_Laws_tellsTo_227 ?_ (by assumption)) ?_)
    | with_reducible refine ck_e_Laws_tellsTo_126 ?_ (by assumption)
    | (with_reducible refine po_call (ck_e_Laws_tellsTo_126 ?_ (by assumption)) ?_)
    | with_reducible exact hK13 _ _ _ _ _ _ _ _ (by assumption)
    | (intros; with_reducible exact hK13 _ _ _ _ _ _ _ _ (by assumption))
    | with_reducible refine po_cond (fun _ => ?_) (fun _ => ?_)
    | with_reducible refine po_bind_cond (fun _ => ?_) (fun _ => ?_)
    | with_reducible refine po_bl (fun _ _ => ?_))
theorem ck_e_Laws_tellsTo_153 {n : Nat} {P : Nat → Nat → Nat} {F : Nat → Nat → Int32} {A : Nat → Nat → Nat → Int32} {J : Nat → Nat → Nat → Int64} {r0 : Nat}  (h : CK F0 A0 F A) : po (e_Laws_tellsTo_153 n P F A J r0) (fun r => CK F0 A0 r.2.2.1 r.2.2.2.1) := by
  unfold e_Laws_tellsTo_153
  repeat' (first
    | with_reducible exact po_some (by assumption)
    | (with_reducible refine ck_pf (by assumption) (by decide) ?_; intro _ _)
    | (with_reducible refine ck_st (by assumption) (by decide) ?_; intro _ _)
    | (with_reducible refine ck_st (by assumption) (ck_no (by assumption)) ?_; intro _ _)
    | (with_reducible refine ck_st (by assumption) (by simp) ?_; intro _ _)
    | with_reducible refine po_cond (fun _ => ?_) (fun _ => ?_)
    | with_reducible refine po_bind_cond (fun _ => ?_) (fun _ => ?_)
    | with_reducible refine po_bl (fun _ _ => ?_))
theorem ck_e_Laws_tellsTo_192 {K13 : (Nat → Nat → Nat) → (Nat → Nat → Int32) → (Nat → Nat → Nat → Int32) → (Nat → Nat → Nat → Int64) → Nat → Int32 → Int32 → Int32 → Option (Int32 × (Nat → Nat → Nat) × (Nat → Nat → Int32) × (Nat → Nat → Nat → Int32) × (Nat → Nat → Nat → Int64))} {n : Nat} {P : Nat → Nat → Nat} {F : Nat → Nat → Int32} {A : Nat → Nat → Nat → Int32} {J : Nat → Nat → Nat → Int64} {r0 : Nat} {x4 : Int32} {x5 : Int32} {s0 : Int32} (hK13 : ∀ (a0 : Nat → Nat → Nat) (a1 : Nat → Nat → Int32) (a2 : Nat → Nat → Nat → Int32) (a3 : Nat → Nat → Nat → Int64) (a4 : Nat) (a5 : Int32) (a6 : Int32) (a7 : Int32), CK F0 A0 a1 a2 → po (K13 a0 a1 a2 a3 a4 a5 a6 a7) (fun r => CK F0 A0 r.2.2.1 r.2.2.2.1)) (h : CK F0 A0 F A) : po (e_Laws_tellsTo_192 K13 n P F A J r0 x4 x5 s0) (fun r => CK F0 A0 r.2.2.1 r.2.2.2.1) := by
  unfold e_Laws_tellsTo_192
  repeat' (first
    | with_reducible exact po_some (by assumption)
    | (with_reducible refine ck_pf (by assumption) (by decide) ?_; intro _ _)
    | (with_reducible refine ck_st (by assumption) (by decide) ?_; intro _ _)
    | (with_reducible refine ck_st (by assumption) (ck_no (by assumption)) ?_; intro _ _)
    | (with_reducible refine ck_st (by assumption) (by simp) ?_; intro _ _)
    | with_reducible refine ck_e_Laws_tellsTo_227 ?_ (by assumption)
    | (with_reducible refine po_call (ck_e_Laws_tellsTo_227 ?_ (by assumption)) ?_)
    | with_reducible exact hK13 _ _ _ _ _ _ _ _ (by assumption)
    | (intros; with_reducible exact hK13 _ _ _ _ _ _ _ _ (by assumption))
    | with_reducible refine po_cond (fun _ => ?_) (fun _ => ?_)
    | with_reducible refine po_bind_cond (fun _ => ?_) (fun _ => ?_)
    | with_reducible refine po_bl (fun _ _ => ?_))
theorem ck_e_Laws_tellsTo_157 {K13 : (Nat → Nat → Nat) → (Nat → Nat → Int32) → (Nat → Nat → Nat → Int32) → (Nat → Nat → Nat → Int64) → Nat → Int32 → Int32 → Int32 → Option (Int32 × (Nat → Nat → Nat) × (Nat → Nat → Int32) × (Nat → Nat → Nat → Int32) × (Nat → Nat → Nat → Int64))} {n : Nat} {P : Nat → Nat → Nat} {F : Nat → Nat → Int32} {A : Nat → Nat → Nat → Int32} {J : Nat → Nat → Nat → Int64} {r0 : Nat} {x3 : Int32} {x4 : Int32} {x5 : Int32} {x6 : Int32} {x7 : Int32} (hK13 : ∀ (a0 : Nat → Nat → Nat) (a1 : Nat → Nat → Int32) (a2 : Nat → Nat → Nat → Int32) (a3 : Nat → Nat → Nat → Int64) (a4 : Nat) (a5 : Int32) (a6 : Int32) (a7 : Int32), CK F0 A0 a1 a2 → po (K13 a0 a1 a2 a3 a4 a5 a6 a7) (fun r => CK F0 A0 r.2.2.1 r.2.2.2.1)) (h : CK F0 A0 F A) : po (e_Laws_tellsTo_157 K13 n P F A J r0 x3 x4 x5 x6 x7) (fun r => CK F0 A0 r.2.2.1 r.2.2.2.1) := by
  unfold e_Laws_tellsTo_157
  repeat' (first
    | with_reducible exact po_some (by assumption)
    | (with_reducible refine ck_pf (by assumption) (by decide) ?_; intro _ _)
    | (with_reducible refine ck_st (by assumption) (by decide) ?_; intro _ _)
    | (with_reducible refine ck_st (by assumption) (ck_no (by assumption)) ?_; intro _ _)
    | (with_reducible refine ck_st (by assumption) (by simp) ?_; intro _ _)
    | with_reducible refine ck_e_Laws_tellsTo_192 ?_ (by assumption)
    | (with_reducible refine po_call (ck_e_Laws_tellsTo_192 ?_ (by assumption)) ?_)
    | with_reducible exact hK13 _ _ _ _ _ _ _ _ (by assumption)
    | (intros; with_reducible exact hK13 _ _ _ _ _ _ _ _ (by assumption))
    | with_reducible refine po_cond (fun _ => ?_) (fun _ => ?_)
    | with_reducible refine po_bind_cond (fun _ => ?_) (fun _ => ?_)
    | with_reducible refine po_bl (fun _ _ => ?_))
theorem ck_e_Laws_tellsTo_13   : ∀ {n : Nat} {P : Nat → Nat → Nat} {F : Nat → Nat → Int32} {A : Nat → Nat → Nat → Int32} {J : Nat → Nat → Nat → Int64} {r0 : Nat} {x3 : Int32} {x4 : Int32} {x5 : Int32}, CK F0 A0 F A → po (e_Laws_tellsTo_13  n P F A J r0 x3 x4 x5) (fun r => CK F0 A0 r.2.2.1 r.2.2.2.1) := by
  intro n
  induction n with
  | zero => intro P F A J r0 x3 x4 x5 _ r hr; cases hr
  | succ n ih =>
    intro P F A J r0 x3 x4 x5 h
    unfold e_Laws_tellsTo_13
    repeat' (first
      | with_reducible exact po_some (by assumption)
      | (with_reducible refine ck_pf (by assumption) (by decide) ?_; intro _ _)
      | (with_reducible refine ck_st (by assumption) (by decide) ?_; intro _ _)
      | (with_reducible refine ck_st (by assumption) (ck_no (by assumption)) ?_; intro _ _)
      | (with_reducible refine ck_st (by assumption) (by simp) ?_; intro _ _)
      | with_reducible exact ck_e_Laws_tellsTo_233 (by assumption)
      | (with_reducible refine po_call (ck_e_Laws_tellsTo_233 (by assumption)) ?_; rintro ⟨_, _, _, _, _⟩ _; try dsimp only)
      | with_reducible refine ck_e_Laws_tellsTo_88 ?_ (by assumption)
      | (with_reducible refine po_call (ck_e_Laws_tellsTo_88 ?_ (by assumption)) ?_)
      | with_reducible exact ck_e_Laws_tellsTo_153 (by assumption)
      | (with_reducible refine po_call (ck_e_Laws_tellsTo_153 (by assumption)) ?_; rintro ⟨_, _, _, _, _⟩ _; try dsimp only)
      | with_reducible refine ck_e_Laws_tellsTo_157 ?_ (by assumption)
      | (with_reducible refine po_call (ck_e_Laws_tellsTo_157 ?_ (by assumption)) ?_)
      | with_reducible exact ih (by assumption)
      | (with_reducible refine po_call (ih (by assumption)) ?_; rintro ⟨_, _, _, _, _⟩ _; try dsimp only)
      | (intros; with_reducible exact ih (by assumption))
      | with_reducible refine po_cond (fun _ => ?_) (fun _ => ?_)
      | with_reducible refine po_bind_cond (fun _ => ?_) (fun _ => ?_)
      | with_reducible refine po_bl (fun _ _ => ?_))
theorem ck_e_Laws_tellsTo {n : Nat} {P : Nat → Nat → Nat} {F : Nat → Nat → Int32} {A : Nat → Nat → Nat → Int32} {J : Nat → Nat → Nat → Int64} {r0 : Nat} {x1 : Int32}  (h : CK F0 A0 F A) : po (e_Laws_tellsTo n P F A J r0 x1) (fun r => CK F0 A0 r.2.2.1 r.2.2.2.1) := by
  unfold e_Laws_tellsTo
  repeat' (first
    | with_reducible exact po_some (by assumption)
    | (with_reducible refine ck_pf (by assumption) (by decide) ?_; intro _ _)
    | (with_reducible refine ck_st (by assumption) (by decide) ?_; intro _ _)
    | (with_reducible refine ck_st (by assumption) (ck_no (by assumption)) ?_; intro _ _)
    | (with_reducible refine ck_st (by assumption) (by simp) ?_; intro _ _)
    | with_reducible exact ck_e_Laws_tellsTo_13 (by assumption)
    | (with_reducible refine po_call (ck_e_Laws_tellsTo_13 (by assumption)) ?_; rintro ⟨_, _, _, _, _⟩ _; try dsimp only)
    | with_reducible refine po_cond (fun _ => ?_) (fun _ => ?_)
    | with_reducible refine po_bind_cond (fun _ => ?_) (fun _ => ?_)
    | with_reducible refine po_bl (fun _ _ => ?_))
theorem ck_e_Sleep_chosenStep {n : Nat} {P : Nat → Nat → Nat} {F : Nat → Nat → Int32} {A : Nat → Nat → Nat → Int32} {J : Nat → Nat → Nat → Int64} {x1 : Int32} {x2 : Int32} {x3 : Int32}  (h : CK F0 A0 F A) : po (e_Sleep_chosenStep n P F A J x1 x2 x3) (fun r => CK F0 A0 r.2.2.1 r.2.2.2.1) := by
  unfold e_Sleep_chosenStep
  repeat' (first
    | with_reducible exact po_some (by assumption)
    | (with_reducible refine ck_pf (by assumption) (by decide) ?_; intro _ _)
    | (with_reducible refine ck_st (by assumption) (by decide) ?_; intro _ _)
    | (with_reducible refine ck_st (by assumption) (ck_no (by assumption)) ?_; intro _ _)
    | (with_reducible refine ck_st (by assumption) (by simp) ?_; intro _ _)
    | with_reducible exact ck_e_Laws_tellsTo (by assumption)
    | (with_reducible refine po_call (ck_e_Laws_tellsTo (by assumption)) ?_; rintro ⟨_, _, _, _, _⟩ _; try dsimp only)
    | with_reducible refine po_cond (fun _ => ?_) (fun _ => ?_)
    | with_reducible refine po_bind_cond (fun _ => ?_) (fun _ => ?_)
    | with_reducible refine po_bl (fun _ _ => ?_))
theorem ck_e_Sleep_begin_168 {n : Nat} {P : Nat → Nat → Nat} {F : Nat → Nat → Int32} {A : Nat → Nat → Nat → Int32} {J : Nat → Nat → Nat → Int64} {x1 : Int32} {x2 : Int32} {x3 : Int32} {x5 : Int32}  (h : CK F0 A0 F A) : po (e_Sleep_begin_168 n P F A J x1 x2 x3 x5) (fun r => CK F0 A0 r.2.2.1 r.2.2.2.1) := by
  unfold e_Sleep_begin_168
  repeat' (first
    | with_reducible exact po_some (by assumption)
    | (with_reducible refine ck_pf (by assumption) (by decide) ?_; intro _ _)
    | (with_reducible refine ck_st (by assumption) (by decide) ?_; intro _ _)
    | (with_reducible refine ck_st (by assumption) (ck_no (by assumption)) ?_; intro _ _)
    | (with_reducible refine ck_st (by assumption) (by simp) ?_; intro _ _)
    | with_reducible refine po_cond (fun _ => ?_) (fun _ => ?_)
    | with_reducible refine po_bind_cond (fun _ => ?_) (fun _ => ?_)
    | with_reducible refine po_bl (fun _ _ => ?_))
theorem ck_e_Sleep_begin_140 {n : Nat} {P : Nat → Nat → Nat} {F : Nat → Nat → Int32} {A : Nat → Nat → Nat → Int32} {J : Nat → Nat → Nat → Int64} {x1 : Int32} {x2 : Int32} {x3 : Int32} {x5 : Int32} {x6 : Int32}  (h : CK F0 A0 F A) : po (e_Sleep_begin_140 n P F A J x1 x2 x3 x5 x6) (fun r => CK F0 A0 r.2.2.1 r.2.2.2.1) := by
  unfold e_Sleep_begin_140
  repeat' (first
    | with_reducible exact po_some (by assumption)
    | (with_reducible refine ck_pf (by assumption) (by decide) ?_; intro _ _)
    | (with_reducible refine ck_st (by assumption) (by decide) ?_; intro _ _)
    | (with_reducible refine ck_st (by assumption) (ck_no (by assumption)) ?_; intro _ _)
    | (with_reducible refine ck_st (by assumption) (by simp) ?_; intro _ _)
    | with_reducible refine po_cond (fun _ => ?_) (fun _ => ?_)
    | with_reducible refine po_bind_cond (fun _ => ?_) (fun _ => ?_)
    | with_reducible refine po_bl (fun _ _ => ?_))
theorem ck_e_Sleep_begin {n : Nat} {P : Nat → Nat → Nat} {F : Nat → Nat → Int32} {A : Nat → Nat → Nat → Int32} {J : Nat → Nat → Nat → Int64} {x1 : Int32} {x2 : Int32}  (h : CK F0 A0 F A) : po (e_Sleep_begin n P F A J x1 x2) (fun r => CK F0 A0 r.2.2.1 r.2.2.2.1) := by
  unfold e_Sleep_begin
  repeat' (first
    | with_reducible exact po_some (by assumption)
    | (with_reducible refine ck_pf (by assumption) (by decide) ?_; intro _ _)
    | (with_reducible refine ck_st (by assumption) (by decide) ?_; intro _ _)
    | (with_reducible refine ck_st (by assumption) (ck_no (by assumption)) ?_; intro _ _)
    | (with_reducible refine ck_st (by assumption) (by simp) ?_; intro _ _)
    | with_reducible exact ck_e_Sleep_begin_44 (by assumption)
    | (with_reducible refine po_call (ck_e_Sleep_begin_44 (by assumption)) ?_; rintro ⟨_, _, _, _, _⟩ _; try dsimp only)
    | with_reducible exact ck_e_Sleep_chosenStep (by assumption)
    | (with_reducible refine po_call (ck_e_Sleep_chosenStep (by assumption)) ?_; rintro ⟨_, _, _, _, _⟩ _; try dsimp only)
    | with_reducible exact ck_e_Sleep_begin_168 (by assumption)
    | (with_reducible refine po_call (ck_e_Sleep_begin_168 (by assumption)) ?_; rintro ⟨_, _, _, _, _⟩ _; try dsimp only)
    | with_reducible exact ck_e_Sleep_begin_140 (by assumption)
    | (with_reducible refine po_call (ck_e_Sleep_begin_140 (by assumption)) ?_; rintro ⟨_, _, _, _, _⟩ _; try dsimp only)
    | with_reducible exact ck_e_Sleep_lieDown (by assumption)
    | (with_reducible refine po_call (ck_e_Sleep_lieDown (by assumption)) ?_; rintro ⟨_, _, _, _, _⟩ _; try dsimp only)
    | with_reducible refine po_cond (fun _ => ?_) (fun _ => ?_)
    | with_reducible refine po_bind_cond (fun _ => ?_) (fun _ => ?_)
    | with_reducible refine po_bl (fun _ _ => ?_))
theorem ck_e_Sleep_goTill_52 {K31 : (Nat → Nat → Nat) → (Nat → Nat → Int32) → (Nat → Nat → Nat → Int32) → (Nat → Nat → Nat → Int64) → Int32 → Int32 → Int32 → Option (Unit × (Nat → Nat → Nat) × (Nat → Nat → Int32) × (Nat → Nat → Nat → Int32) × (Nat → Nat → Nat → Int64))} (hK31 : ∀ (a0 : Nat → Nat → Nat) (a1 : Nat → Nat → Int32) (a2 : Nat → Nat → Nat → Int32) (a3 : Nat → Nat → Nat → Int64) (a4 : Int32) (a5 : Int32) (a6 : Int32), CK F0 A0 a1 a2 → po (K31 a0 a1 a2 a3 a4 a5 a6) (fun r => CK F0 A0 r.2.2.1 r.2.2.2.1)) : ∀ {n : Nat} {P : Nat → Nat → Nat} {F : Nat → Nat → Int32} {A : Nat → Nat → Nat → Int32} {J : Nat → Nat → Nat → Int64} {x1 : Int32} {x4 : Int32} {x5 : Int32} {x6 : Int32}, CK F0 A0 F A → po (e_Sleep_goTill_52 K31 n P F A J x1 x4 x5 x6) (fun r => CK F0 A0 r.2.2.1 r.2.2.2.1) := by
  intro n
  induction n with
  | zero => intro P F A J x1 x4 x5 x6 _ r hr; cases hr
  | succ n ih =>
    intro P F A J x1 x4 x5 x6 h
    unfold e_Sleep_goTill_52
    repeat' (first
      | with_reducible exact po_some (by assumption)
      | (with_reducible refine ck_pf (by assumption) (by decide) ?_; intro _ _)
      | (with_reducible refine ck_st (by assumption) (by decide) ?_; intro _ _)
      | (with_reducible refine ck_st (by assumption) (ck_no (by assumption)) ?_; intro _ _)
      | (with_reducible refine ck_st (by assumption) (by simp) ?_; intro _ _)
      | with_reducible refine ck_e_Sleep_goTill_96 ?_ (by assumption)
      | (with_reducible refine po_call (ck_e_Sleep_goTill_96 ?_ (by assumption)) ?_)
      | with_reducible refine ck_e_Sleep_goTill_90 ?_ ?_ (by assumption)
      | (with_reducible refine po_call (ck_e_Sleep_goTill_90 ?_ ?_ (by assumption)) ?_)
      | with_reducible exact ck_e_Sleep_begin (by assumption)
      | (with_reducible refine po_call (ck_e_Sleep_begin (by assumption)) ?_; rintro ⟨_, _, _, _, _⟩ _; try dsimp only)
      | with_reducible exact hK31 _ _ _ _ _ _ _ (by assumption)
      | (intros; with_reducible exact hK31 _ _ _ _ _ _ _ (by assumption))
      | with_reducible exact ih (by assumption)
      | (with_reducible refine po_call (ih (by assumption)) ?_; rintro ⟨_, _, _, _, _⟩ _; try dsimp only)
      | (intros; with_reducible exact ih (by assumption))
      | with_reducible refine po_cond (fun _ => ?_) (fun _ => ?_)
      | with_reducible refine po_bind_cond (fun _ => ?_) (fun _ => ?_)
      | with_reducible refine po_bl (fun _ _ => ?_))
theorem ck_e_Sleep_goTill_31   : ∀ {n : Nat} {P : Nat → Nat → Nat} {F : Nat → Nat → Int32} {A : Nat → Nat → Nat → Int32} {J : Nat → Nat → Nat → Int64} {x1 : Int32} {x4 : Int32} {x5 : Int32}, CK F0 A0 F A → po (e_Sleep_goTill_31  n P F A J x1 x4 x5) (fun r => CK F0 A0 r.2.2.1 r.2.2.2.1) := by
  intro n
  induction n with
  | zero => intro P F A J x1 x4 x5 _ r hr; cases hr
  | succ n ih =>
    intro P F A J x1 x4 x5 h
    unfold e_Sleep_goTill_31
    repeat' (first
      | with_reducible exact po_some (by assumption)
      | (with_reducible refine ck_pf (by assumption) (by decide) ?_; intro _ _)
      | (with_reducible refine ck_st (by assumption) (by decide) ?_; intro _ _)
      | (with_reducible refine ck_st (by assumption) (ck_no (by assumption)) ?_; intro _ _)
      | (with_reducible refine ck_st (by assumption) (by simp) ?_; intro _ _)
      | with_reducible exact ck_e_Sleep_goTill_119 (by assumption)
      | (with_reducible refine po_call (ck_e_Sleep_goTill_119 (by assumption)) ?_; rintro ⟨_, _, _, _, _⟩ _; try dsimp only)
      | with_reducible exact ck_e_Sleep_finishAll (by assumption)
      | (with_reducible refine po_call (ck_e_Sleep_finishAll (by assumption)) ?_; rintro ⟨_, _, _, _, _⟩ _; try dsimp only)
      | with_reducible refine ck_e_Sleep_goTill_52 ?_ (by assumption)
      | (with_reducible refine po_call (ck_e_Sleep_goTill_52 ?_ (by assumption)) ?_)
      | with_reducible exact ih (by assumption)
      | (with_reducible refine po_call (ih (by assumption)) ?_; rintro ⟨_, _, _, _, _⟩ _; try dsimp only)
      | (intros; with_reducible exact ih (by assumption))
      | with_reducible refine po_cond (fun _ => ?_) (fun _ => ?_)
      | with_reducible refine po_bind_cond (fun _ => ?_) (fun _ => ?_)
      | with_reducible refine po_bl (fun _ _ => ?_))
end H9f4
section G9f4
variable {h q : Nat} {P P' P1 : Nat → Nat → Nat} {F F' F1 : Nat → Nat → Int32} {A A' A1 : Nat → Nat → Nat → Int32} {J : Nat → Nat → Nat → Int64}
/-- the cache is right, the house as it was -/
def WHx (h : Nat) (F0 : Nat → Nat → Int32) (A0 : Nat → Nat → Nat → Int32) (F : Nat → Nat → Int32) (A : Nat → Nat → Nat → Int32) : Prop := WCx h F A ∧ (∀ k, F h k = F0 h k) ∧ ∀ o, o ≠ 17 → A h o = A0 h o
theorem WHx.rfl' (W : WCx h F A) : WHx h F A F A := ⟨W, fun _ => rfl, fun _ _ => rfl⟩
theorem WHx.tr (W : WHx h F A F1 A1) (V : WHx h F1 A1 F' A') : WHx h F A F' A' := ⟨V.1, fun k => (V.2.1 k).trans (W.2.1 k), fun o ho => (V.2.2 o ho).trans (W.2.2 o ho)⟩
theorem w_between {n : Nat} {sh x3 x4 : Int32} (W : WCx h F A) (h36 : h ≠ 36) : po (e_Ways_between n P F A J h sh x3 x4) (fun r => r.2.1 = P ∧ WHx h F A r.2.2.1 r.2.2.2.1) := by
  unfold e_Ways_between
  refine po_cond (fun c => ?_) (fun c => ?_)
  · unfold e_Ways_between_27
    exact po_bl (fun v hv => po_some ⟨rfl, WHx.rfl' W⟩)
  · refine po_bl (fun a ha => ?_)
    have wa := wf_e_Ways_takeDoors WFx.rfl' a ha
    obtain ⟨u, P3, F4, A5, J6⟩ := a
    obtain ⟨rfl, rfl, a5⟩ := wa
    dsimp only at a5 ⊢
    refine po_bl (fun b hb => ?_)
    have wb := wf_e_Ways_joinWays (P0 := P3) (F0 := F4) (A0 := A) ⟨rfl, rfl, a5⟩ b hb
    obtain ⟨u', P8, F9, A10, J11⟩ := b
    obtain ⟨rfl, rfl, a10⟩ := wb
    dsimp only at a10 ⊢
    refine po_bl (fun F12 h12 => po_bl (fun v hv => po_some ⟨rfl, ?_⟩))
    have u := gg_cpf h12
    have run : wrun n n P8 F9 A J h sh = some (u', P8, F9, A10, J11) := by
      unfold wrun
      rw [ha]
      exact hb
    refine ⟨.inr ⟨n, n, P8, F9, A, J, (u', P8, F9, A10, J11), fun k => (u.2 h k (fun e => h36 e.1)).symm, fun o ho => (a10 h o (fun e => h36 e.1)).symm, ?_, rfl⟩, fun k => u.2 h k (fun e => h36 e.1), fun o _ => a10 h o (fun e => h36 e.1)⟩
    show wrun n n P8 F9 A J h (F12 36 101) = _
    rw [u.1]
    exact run
theorem WCx.st {r o : Nat} {i v : Int} (W : WCx h F A) (U : CUm A A' r o i v) (hn : r ≠ 36 ∨ o ≠ 2) (hh : r ≠ h ∨ o = 17) : WCx h F A' := W.cg (fun _ => rfl) (fun o' ho => U.2.2 h o' (by omega)) rfl (U.2.2 36 2 (by omega))
theorem WCx.pf {r k : Nat} {x : Int32} (W : WCx h F A) (U : FUm F F' r k x) (hn : r ≠ 36) (hh : r ≠ h) : WCx h F' A := W.cg (fun k' => U.2 h k' (by omega)) (fun _ _ => rfl) (U.2 36 101 (by omega)) rfl
theorem WHx.st {r o : Nat} {i v : Int} (W : WHx h F1 A1 F A) (U : CUm A A' r o i v) (hn : r ≠ 36 ∨ o ≠ 2) (hh : r ≠ h ∨ o = 17) : WHx h F1 A1 F A' := ⟨W.1.st U hn hh, W.2.1, fun o' ho => (U.2.2 h o' (by omega)).trans (W.2.2 o' ho)⟩
theorem w_getUp_2 (hk : c_kind h = 6) : ∀ {n : Nat} {P : Nat → Nat → Nat} {F : Nat → Nat → Int32} {A : Nat → Nat → Nat → Int32} {J : Nat → Nat → Nat → Int64} {x1 : Int32}, P 36 8 = h → WHx h F1 A1 F A → po (e_Sleep_getUp_2 n P F A J x1) (fun r => r.2.1 = P ∧ WHx h F1 A1 r.2.2.1 r.2.2.2.1) := by
  have n36 : h ≠ 36 := fun e => absurd hk (by rw [e]; decide)
  have n2 : ∀ {p r : Nat}, c_chk 2 p = some r → r ≠ 36 ∧ r ≠ h := fun e => by
    have g := gg_chk e
    rw [← g.2] at g
    exact ⟨fun e => absurd g.1 (by rw [e]; decide), fun e => absurd g.1 (by rw [e, hk]; decide)⟩
  intro n
  induction n with
  | zero => intro P F A J x1 _ _ r hr; cases hr
  | succ n ih =>
    intro P F A J x1 e8 W
    unfold e_Sleep_getUp_2
    refine po_bl (fun q1 _ => ?_)
    refine po_cond (fun _ => po_some ⟨rfl, W⟩) (fun _ => ?_)
    refine po_bl (fun q3 _ => po_bl (fun v4 _ => po_bl (fun A5 h5 => po_bl (fun A6 h6 => po_bl (fun A7 h7 => po_bl (fun A8 h8 => po_bl (fun q9 e9 => po_bl (fun A10 h10 => ?_))))))))
    have W5 := W.st (gg_cst h5).2.2 (.inr (by decide)) (.inl (Ne.symm n36))
    have W6 := W5.st (gg_cst h6).2.2 (.inr (by decide)) (.inl (Ne.symm n36))
    have W7 := W6.st (gg_cst h7).2.2 (.inr (by decide)) (.inl (Ne.symm n36))
    have W8 := W7.st (gg_cst h8).2.2 (.inr (by decide)) (.inl (Ne.symm n36))
    have W10 := W8.st (gg_cst h10).2.2 (.inl (n2 e9).1) (.inl (n2 e9).2)
    refine po_cond (fun _ => ?_) (fun _ => ?_)
    · unfold e_Sleep_getUp_145
      exact ih e8 W10
    · refine po_bl (fun v12 _ => po_bl (fun A13 h13 => po_bl (fun q14 _ => po_bl (fun v15 _ => po_bl (fun v16 _ => po_bl (fun q17 e17 => po_bl (fun q18 _ => po_bl (fun q19 _ => po_bl (fun v20 _ => ?_)))))))))
      have W13 := W10.st (gg_cst h13).2.2 (.inr (by decide)) (.inl (Ne.symm n36))
      have k17 : q17 = h := (gg_chk e17).2.trans e8
      rw [k17]
      refine po_call (w_between W13.1 n36) ?_
      rintro ⟨v21, P22, F23, A24, J25⟩ ⟨g1, g2⟩
      dsimp only at g1 g2 ⊢
      subst g1
      refine po_bl (fun A26 h26 => po_bl (fun v27 _ => ?_))
      have W26 := (W13.tr g2).st (gg_cst h26).2.2 (.inr (by decide)) (.inl (Ne.symm n36))
      refine po_cond (fun _ => ?_) (fun _ => ?_)
      · unfold e_Sleep_getUp_145
        exact ih e8 W26
      · refine po_bl (fun q29 e29 => po_bl (fun A30 h30 => ?_))
        exact ih e8 (W26.st (gg_cst h30).2.2 (.inl (n2 e29).1) (.inl (n2 e29).2))
/-- a night of the class: the cache stays right, the house as it is -/
theorem w_goTill {n : Nat} {x1 : Int32} (hk : c_kind h = 6) (W : WCx h F A) : po (e_Sleep_goTill n P F A J x1 h q) (fun r => (∀ k, r.2.2.1 h k = F h k) → (∀ o, o ≠ 17 → r.2.2.2.1 h o = A h o) → WCx h r.2.2.1 r.2.2.2.1) := by
  have n36 : h ≠ 36 := fun e => absurd hk (by rw [e]; decide)
  unfold e_Sleep_goTill
  refine po_bl (fun P1 h1 => po_bl (fun P2 h2 => po_bl (fun A3 h3 => ?_)))
  have u1 := gg_cpp h1
  have u2 := gg_cpp h2
  have u3 := gg_cfi h3
  have e8 : P2 36 8 = h := (u2.2 36 8 (by simp)).trans u1.1
  have W3 : WHx h F A F A3 := ⟨W.cg (fun _ => rfl) (fun o _ => u3 h o (fun e => n36 e.1)) rfl (u3 36 2 (by simp)), fun _ => rfl, fun o _ => u3 h o (fun e => n36 e.1)⟩
  unfold e_Sleep_getUp
  refine po_call (w_getUp_2 hk e8 W3) ?_
  rintro ⟨u, P5, F6, A7, J8⟩ ⟨-, g2⟩
  dsimp only at g2 ⊢
  refine po_call (ck_e_Sleep_nextMinute (F0 := F6) (A0 := A7) CK.rfl') ?_
  rintro ⟨v9, P10, F11, A12, J13⟩ k9
  dsimp only at k9 ⊢
  refine po_mono (ck_e_Sleep_goTill_31 (F0 := F6) (A0 := A7) k9) (fun r k f a => g2.1.cg (fun k' => (f k').trans (g2.2.1 k').symm) (fun o ho => (a o ho).trans (g2.2.2 o ho).symm) k.1 k.2)
/-- what tries leave of what is kept -/
def SFr (F F' : Nat → Nat → Int32) (A A' : Nat → Nat → Nat → Int32) : Prop := (∀ r, c_kind r = 2 → r ≠ 3 → r ≠ 33 → (∀ o, A' r o = A r o) ∧ ∀ k, F' r k = F r k) ∧ (∀ o, A' 25 o = A 25 o) ∧ ∀ k, F' 25 k = F 25 k
theorem SFr.rfl' : SFr F F A A := ⟨fun _ _ _ _ => ⟨fun _ => rfl, fun _ => rfl⟩, fun _ => rfl, fun _ => rfl⟩
theorem SFr.tr (h : SFr F F1 A A1) (k : SFr F1 F' A1 A') : SFr F F' A A' := ⟨fun r a b c => ⟨fun o => ((k.1 r a b c).1 o).trans ((h.1 r a b c).1 o), fun i => ((k.1 r a b c).2 i).trans ((h.1 r a b c).2 i)⟩, fun o => (k.2.1 o).trans (h.2.1 o), fun i => (k.2.2 i).trans (h.2.2 i)⟩
/-- a try: quiet, all that is kept as it was, the ways' cache right -/
def QFc (P P' : Nat → Nat → Nat) (F F' : Nat → Nat → Int32) (A A' : Nat → Nat → Nat → Int32) : Prop := QKc P P' F F' A A' ∧ SFr F F' A A' ∧ (c_kind (P 0 8) = 6 → WCx (P 0 8) F A → WCx (P 0 8) F' A')
theorem QFc.g (q : QFc P P' F F' A A') (G : Gc P F A) : Gc P' F' A' := q.1.g G
theorem QFc.rfl' (R : Rc F A) : QFc P P F F A A := ⟨QKc.rfl' R, SFr.rfl', fun _ w => w⟩
theorem QFc.tr {P1 : Nat → Nat → Nat} (h : QFc P P1 F F1 A A1) (k : QFc P1 P' F1 F' A1 A') : QFc P P' F F' A A' := ⟨h.1.tr k.1, h.2.1.tr k.2.1, fun c w => by
  have e : P1 0 8 = P 0 8 := h.1.1 0 8 (by decide)
  have w1 := h.2.2 c w
  have w2 := k.2.2
  rw [e] at w2
  exact w2 c w1⟩
abbrev tg (r o : Nat) : Prop := c_kind r ≠ 6 ∧ (c_kind r = 2 → r = 3 ∨ r = 33) ∧ r ≠ 36 ∧ r ≠ 25
abbrev pg (r k : Nat) : Prop := (c_kind r ≠ 6 ∧ r ≠ 4 ∧ (r ≠ 0 ∨ k ≠ 10) ∧ r ≠ 1) ∧ (c_kind r = 2 → r = 3 ∨ r = 33) ∧ r ≠ 36 ∧ r ≠ 25
theorem tg33 : tg 33 3 := by decide
theorem tg33' : tg 33 4 := by decide
theorem QFc.st {r o : Nat} {i v : Int} (k : QFc P P' F F' A A1) (U : CUm A1 A' r o i v) (hv : rRc (c_kind r) o v) (t : tg r o) : QFc P P' F F' A A' := ⟨k.1.st U hv ⟨fun e => absurd e t.1, fun e => .inr (t.2.1 e)⟩, k.2.1.tr ⟨fun r' a b c => ⟨fun o' => U.2.2 r' o' (fun e => by
    have := t.2.1 (by rw [← e.1]; exact a)
    omega), fun _ => rfl⟩, fun o' => U.2.2 25 o' (fun e => t.2.2.2 e.1.symm), fun _ => rfl⟩, fun c w => (k.2.2 c w).st U (.inl t.2.2.1) (.inl (fun e => t.1 (by rw [e]; exact c)))⟩
theorem QFc.pf {r k : Nat} {x : Int32} (q : QFc P P' F F1 A A') (U : FUm F1 F' r k x) (hv : rFc (c_kind r) k x.toInt) (t : pg r k) : QFc P P' F F' A A' := ⟨q.1.pf U hv t.1, q.2.1.tr ⟨fun r' a b c => ⟨fun _ => rfl, fun k' => U.2 r' k' (fun e => by
    have := t.2.1 (by rw [← e.1]; exact a)
    omega)⟩, fun _ => rfl, fun k' => U.2 25 k' (fun e => t.2.2.2 e.1.symm)⟩, fun c w => (q.2.2 c w).pf U t.2.2.1 (fun e => t.1.1 (by rw [e]; exact c))⟩
theorem fq_trial (G : Gc P F A) : ok (e_State_copy P F A J 33 2) (fun r => r.2.1 = P ∧ QFc P r.2.1 F r.2.2.1 A r.2.2.2.1 ∧ LVc r.2.2.2.1 (P 0 8) 33 ∧ (∀ k, r.2.2.1 32 k = F 32 k)) := by
  refine ok_mono (ok_and (q_trial (J := J) G) (v_copy (P := P) (F := F) (A := A) (J := J) (r0 := 33) (r1 := 2) (by decide))) ?_
  rintro r ⟨⟨a, b, c, d⟩, -, v2, v3, -⟩
  exact ⟨a, ⟨b, ⟨fun r' _ _ c => ⟨fun o => v3 r' o c, fun k => v2 r' k c⟩, fun o => v3 25 o (by decide), fun k => v2 25 k (by decide)⟩, fun k6 w => w.cg (fun k => v2 _ k G.n33) (fun o _ => v3 _ o G.n33) (v2 36 101 (by decide)) (v3 36 2 (by decide))⟩, c, d⟩
theorem fq_goTill {n : Nat} {x1 : Int32} (G : Gc P F A) (L : LVc A (P 0 8) 33) (h1 : x1.toInt ≤ 600) (hn : 1400 ≤ n) : ok (e_Sleep_goTill n P F A J x1 (P 32 4) 33) (fun r => QFc P r.2.1 F r.2.2.1 A r.2.2.2.1 ∧ (∀ k, r.2.2.1 32 k = F 32 k)) := by
  have qq := q_goTill (J := J) G L h1 hn
  have ms := s_goTill (J := J) (P := P) G.k08 (by decide) G.1 G.2.2.2.1 L h1 hn
  rw [G.2.2.1] at qq ⊢
  have n36 : P 0 8 ≠ 36 := fun e => absurd G.k08 (by rw [e]; decide)
  have g33 := G.n33
  by_cases w0 : WCx (P 0 8) F A
  · refine ok_mono (ok_and (ok_and qq ms.po) (w_goTill (J := J) (P := P) (q := 33) (n := n) (x1 := x1) G.k08 w0)) ?_
    rintro r ⟨⟨⟨a, b⟩, -, -, -, m3, m4, -⟩, w⟩
    have hf : ∀ k, r.2.2.1 (P 0 8) k = F (P 0 8) k := fun k => m4 _ k (fun e => n36 e.1)
    have ha : ∀ o, o ≠ 17 → r.2.2.2.1 (P 0 8) o = A (P 0 8) o := fun o ho => m3 _ o n36 g33 (fun _ => ho)
    exact ⟨⟨a, ⟨fun r' a b c => ⟨fun o => m3 r' o (k2ne a) c (fun e => absurd e.symm (k62 G.k08 a)), fun k => m4 r' k (fun e => k2ne a e.1)⟩, fun o => m3 25 o (by decide) (by decide) (fun e => absurd G.k08 (by rw [← e]; decide)), fun k => m4 25 k (by simp)⟩, fun _ _ => w hf ha⟩, b⟩
  · refine ok_mono (ok_and qq ms.po) ?_
    rintro r ⟨⟨a, b⟩, -, -, -, m3, m4, -⟩
    exact ⟨⟨a, ⟨fun r' a b c => ⟨fun o => m3 r' o (k2ne a) c (fun e => absurd e.symm (k62 G.k08 a)), fun k => m4 r' k (fun e => k2ne a e.1)⟩, fun o => m3 25 o (by decide) (by decide) (fun e => absurd G.k08 (by rw [← e]; decide)), fun k => m4 25 k (by simp)⟩, fun _ w => absurd w w0⟩, b⟩
theorem fq_between {n : Nat} {x2 x3 x4 : Int32} (G : Gc P F A) (h3 : 0 ≤ x3.toInt ∧ x3.toInt ≤ 7) (h4 : 0 ≤ x4.toInt ∧ x4.toInt ≤ 7) (hn : 70 ≤ n) : ok (e_Ways_between n P F A J (P 0 8) x2 x3 x4) (fun r => r.2.1 = P ∧ QFc P r.2.1 F r.2.2.1 A r.2.2.2.1) := by
  have n36 : P 0 8 ≠ 36 := fun e => absurd G.k08 (by rw [e]; decide)
  have bs := s_between (J := J) (P := P) (x2 := x2) G.k08 G.1 G.2.2.2.1 h3 h4 hn
  have mk : ∀ r : Int32 × (Nat → Nat → Nat) × (Nat → Nat → Int32) × (Nat → Nat → Nat → Int32) × (Nat → Nat → Nat → Int64), BWc P F A r → (c_kind (P 0 8) = 6 → WCx (P 0 8) F A → WCx (P 0 8) r.2.2.1 r.2.2.2.1) → r.2.1 = P ∧ QFc P r.2.1 F r.2.2.1 A r.2.2.2.1 := by
    rintro ⟨v, P2, F2, A2, J2⟩ ⟨g1, g2, g3, g4⟩ w
    dsimp only at g1 g2 g3 g4 w ⊢
    subst g1
    exact ⟨rfl, ⟨fun _ _ _ => rfl, g4, ⟨fun q hq => ⟨fun k => g2 q k (by omega), fun o _ => g3 q o (by omega)⟩, fun r a _ _ => g3 r 3 (by simp), fun k => g2 4 k (by simp), g2 0 10 (by simp), fun k => g2 1 k (by simp)⟩⟩, ⟨fun r a b c => ⟨fun o => g3 r o (fun e => k2ne a e.1), fun k => g2 r k (fun e => k2ne a e.1)⟩, fun o => g3 25 o (by simp), fun k => g2 25 k (by simp)⟩, w⟩
  by_cases w0 : WCx (P 0 8) F A
  · exact ok_mono (ok_and bs (w_between (J := J) (P := P) (n := n) (sh := x2) (x3 := x3) (x4 := x4) w0 n36)) (fun r h => mk r h.1 (fun _ _ => h.2.2.1))
  · exact ok_mono bs (fun r h => mk r h (fun _ w => absurd w w0))
theorem fq0 {v : Int32} (G : Gc P F A) : ok (some (v, P, F, A, J)) (fun r => QFc P r.2.1 F r.2.2.1 A r.2.2.2.1) := ok_some (QFc.rfl' G.1)
end G9f4
end Qz150
