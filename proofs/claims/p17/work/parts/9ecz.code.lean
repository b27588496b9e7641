/-! what both sides write of a term: the class's instructions beside the reference's codes -/
section B3z
variable {d n : Nat} {p c h D sg pt st u i x o : Int} {w : Int → Int} {P : Nat → Nat → Nat} {F F' : Nat → Nat → Int32} {A A' A0 : Nat → Nat → Nat → Int32} {J : Nat → Nat → Nat → Int64} {Fm Fm' : Nat → Int32} {Am Am' Am0 : Nat → Nat → Int32} {Jm : Nat → Nat → Int64} {x1 x2 : Int32} {k49 : Int32 × Int32}
/-- the class's sign for the reference's -/
def chx (x : Int) : Int := if x = 8 then 43 else if x = 9 then 45 else if x = 10 then 42 else if x = 15 then 47 else 0
/-- the reference's code for its sign -/
def opx (x : Int) : Int := if x = 8 then 2 else if x = 9 then 3 else if x = 10 then 4 else 5
def ns (x : Int) : Int := if x = 0 then 0 else 1
theorem ns_0 : ns 0 = 0 := rfl
theorem ns_b (x : Int) : 0 ≤ ns x ∧ ns x ≤ 1 := by unfold ns; split <;> omega
theorem ns_1 (h : x ≠ 0) : ns x = 1 := if_neg h
/-- an instruction of the class beside a code of the reference -/
def CEq (a v k z : Int) : Prop := (a = 1 ∧ k = 0 ∧ v = z) ∨ (a = 2 ∧ k = 1 ∧ v = z) ∨ (a = 43 ∧ k = 2) ∨ (a = 45 ∧ k = 3) ∨ (a = 42 ∧ k = 4) ∨ (a = 47 ∧ k = 5)
theorem CEq.op {v z : Int} (hx : x = 8 ∨ x = 9 ∨ x = 10 ∨ x = 15) : CEq (chx x) v (opx x) z := by
  rcases hx with rfl | rfl | rfl | rfl
  · exact .inr (.inr (.inl ⟨rfl, rfl⟩))
  · exact .inr (.inr (.inr (.inl ⟨rfl, rfl⟩)))
  · exact .inr (.inr (.inr (.inr (.inl ⟨rfl, rfl⟩))))
  · exact .inr (.inr (.inr (.inr (.inr ⟨rfl, rfl⟩))))
/-- l instructions from p on beside l codes from c on -/
def SGx (d : Nat) (A : Nat → Nat → Nat → Int32) (Am : Nat → Nat → Int32) (p c l : Int) : Prop := 0 ≤ l ∧ (∀ i, 0 ≤ i → i < l → CEq (ci A d 15 (p + i)) (ci A d 16 (p + i)) (ai Am 42 (c + i)) (ai Am 43 (c + i)) ∧ (2 ≤ ai Am 42 (c + i) → 2 ≤ dpm Am c i.toNat)) ∧ (∀ i, 0 ≤ i → i ≤ l → dpm Am c i.toNat ≤ 16)
/-- what was there before -/
def CBx (p c : Int) (d : Nat) (A0 A : Nat → Nat → Nat → Int32) (Am0 Am : Nat → Nat → Int32) : Prop := (∀ i, 0 ≤ i → i < p → ci A d 15 i = ci A0 d 15 i ∧ ci A d 16 i = ci A0 d 16 i) ∧ (∀ i, 0 ≤ i → i < c → ai Am 42 i = ai Am0 42 i ∧ ai Am 43 i = ai Am0 43 i) ∧ (∀ q, 34 ≤ q → q ≤ 41 → Am q = Am0 q) ∧ A d 14 = A0 d 14
/-- both sides within a term: waiting signs sg and pt above h; st: how many of them the class has written; u: 1 behind a unit -/
def CR (A0 : Nat → Nat → Nat → Int32) (Am0 : Nat → Nat → Int32) (k49 : Int32 × Int32) (p c h D : Int) (w : Int → Int) (sg pt st u : Int) (d : Nat) (F : Nat → Nat → Int32) (A : Nat → Nat → Nat → Int32) (Fm : Nat → Int32) (Am : Nat → Nat → Int32) : Prop := (0 ≤ p ∧ 0 ≤ c ∧ 0 ≤ h ∧ 0 ≤ D ∧ D ≤ 14 ∧ 0 ≤ u ∧ u ≤ 1 ∧ D + ns sg + ns pt + u ≤ 16) ∧ ((sg = 0 ∨ sg = 8 ∨ sg = 9) ∧ (pt = 0 ∨ pt = 10 ∨ pt = 15)) ∧ ((Fm 60).toInt = h + ns sg + ns pt ∧ (∀ i, 0 ≤ i → i < h → ai Am 44 i = w i) ∧ (sg ≠ 0 → ai Am 44 h = sg) ∧ (pt ≠ 0 → ai Am 44 (h + ns sg) = pt)) ∧ SGx d A Am p c ((Fm 56).toInt - c) ∧ dpm Am c ((Fm 56).toInt - c).toNat = D + ns sg + ns pt + u ∧ ((F d 1304).toInt = p + ((Fm 56).toInt - c) + (if 1 ≤ st then ns pt else 0) + (if 2 ≤ st then ns sg else 0) ∧ (1 ≤ st → pt ≠ 0 → ci A d 15 (p + ((Fm 56).toInt - c)) = chx pt) ∧ (2 ≤ st → sg ≠ 0 → ci A d 15 (p + ((Fm 56).toInt - c) + ns pt) = chx sg) ∧ (F d 1304).toInt + (if 1 ≤ st then 0 else ns pt) + (if 2 ≤ st then 0 else ns sg) + D + 3 ≤ (Fm 11).toInt) ∧ CBx p c d A0 A Am0 Am ∧ (Fm 49, Fm 19) = k49
theorem CBx.rfl' : CBx p c d A A Am Am := ⟨fun _ _ _ => ⟨rfl, rfl⟩, fun _ _ _ => ⟨rfl, rfl⟩, fun _ _ _ => rfl, rfl⟩
theorem SGx.fr {l : Int} (S : SGx d A Am p c l) (h15 : ∀ i, p ≤ i → i < p + l → ci A' d 15 i = ci A d 15 i ∧ ci A' d 16 i = ci A d 16 i) (h42 : ∀ i, c ≤ i → i < c + l → ai Am' 42 i = ai Am 42 i ∧ ai Am' 43 i = ai Am 43 i) : SGx d A' Am' p c l := by
  have hd : ∀ k : Nat, c + k ≤ c + l → dpm Am' c k = dpm Am c k := dpm_rg (fun i a b => (h42 i a b).1)
  refine ⟨S.1, fun i i0 i1 => ?_, fun i i0 i1 => ?_⟩
  · rw [(h15 (p + i) (by omega) (by omega)).1, (h15 (p + i) (by omega) (by omega)).2, (h42 (c + i) (by omega) (by omega)).1, (h42 (c + i) (by omega) (by omega)).2, hd i.toNat (by omega)]
    exact S.2.1 i i0 i1
  · rw [hd i.toNat (by omega)]
    exact S.2.2 i i0 i1
/-- nothing that matters changes, tokens are taken -/
theorem CR.fr (C : CR A0 Am0 k49 p c h D w sg pt st u d F A Fm Am) (f : F' d 1304 = F d 1304) (a15 : A' d 15 = A d 15) (a16 : A' d 16 = A d 16) (a14 : A' d 14 = A d 14) (f60 : Fm' 60 = Fm 60) (f56 : Fm' 56 = Fm 56) (f49 : (Fm' 49, Fm' 19) = (Fm 49, Fm 19)) (f11 : (Fm 11).toInt ≤ (Fm' 11).toInt) (m : ∀ q, 34 ≤ q → q ≤ 44 → Am' q = Am q) : CR A0 Am0 k49 p c h D w sg pt st u d F' A' Fm' Am' := by
  obtain ⟨c1, c2, c3, c4, c5, ⟨c6, c7, c8, c9⟩, ⟨c10, c11, c12, c13⟩, c14⟩ := C
  unfold CR
  rw [f, f60, f56, f49, ai_fr (m 44 (by decide) (by decide)), ci_fr a15, dpm_fr (m 42 (by decide) (by decide))]
  refine ⟨c1, c2, c3, c4.fr (fun i _ _ => by rw [ci_fr a15, ci_fr a16]; exact ⟨rfl, rfl⟩) (fun i _ _ => by rw [ai_fr (m 42 (by decide) (by decide)), ai_fr (m 43 (by decide) (by decide))]; exact ⟨rfl, rfl⟩), c5, ⟨c6, c7, c8, by omega⟩, ⟨?_, ?_, fun q h1 h2 => (m q h1 (by omega)).trans (c12 q h1 h2), a14.trans c13⟩, c14⟩
  · rw [ci_fr a15, ci_fr a16]; exact c10
  · rw [ai_fr (m 42 (by decide) (by decide)), ai_fr (m 43 (by decide) (by decide))]; exact c11
theorem CR.v (C : CR A0 Am0 k49 p c h D w sg pt st u d F A Fm Am) (hd : d ≠ 37) (fc : FrC F F') (fm : FrM Fm Fm') (f11 : (Fm 11).toInt ≤ (Fm' 11).toInt) : CR A0 Am0 k49 p c h D w sg pt st u d F' A Fm' Am :=
  C.fr (fc d 1304 (fun e => hd e.1)) rfl rfl rfl (fm 60 (by decide) (by decide) (by decide) (by decide) (by decide)) (fm 56 (by decide) (by decide) (by decide) (by decide) (by decide)) (by rw [fm 49 (by decide) (by decide) (by decide) (by decide) (by decide), fm 19 (by decide) (by decide) (by decide) (by decide) (by decide)]) f11 (fun _ _ _ => rfl)
/-- one pair more -/
theorem SGx.add {l : Int} (S : SGx d A Am p c l) (h15 : ∀ i, p ≤ i → i < p + l → ci A' d 15 i = ci A d 15 i ∧ ci A' d 16 i = ci A d 16 i) (h42 : ∀ i, c ≤ i → i < c + l → ai Am' 42 i = ai Am 42 i ∧ ai Am' 43 i = ai Am 43 i) (e : CEq (ci A' d 15 (p + l)) (ci A' d 16 (p + l)) (ai Am' 42 (c + l)) (ai Am' 43 (c + l))) (h2 : 2 ≤ ai Am' 42 (c + l) → 2 ≤ dpm Am c l.toNat) (h16 : dpm Am c l.toNat ≤ 15 ∨ 2 ≤ ai Am' 42 (c + l)) : SGx d A' Am' p c (l + 1) ∧ dpm Am' c (l + 1).toNat = (if ai Am' 42 (c + l) < 2 then dpm Am c l.toNat + 1 else dpm Am c l.toNat - 1) := by
  have S2 := S.fr h15 h42
  have hd : ∀ k : Nat, c + k ≤ c + l → dpm Am' c k = dpm Am c k := dpm_rg (fun i a b => (h42 i a b).1)
  have l0 := S.1
  have s16 := S.2.2 l l0 (Int.le_refl _)
  have en : (l + 1).toNat = l.toNat + 1 := by omega
  have ec : c + ((l.toNat : Nat) : Int) = c + l := by omega
  have st : dpm Am' c (l + 1).toNat = (if ai Am' 42 (c + l) < 2 then dpm Am c l.toNat + 1 else dpm Am c l.toNat - 1) := by
    rw [en]
    show (if ai Am' 42 (c + ((l.toNat : Nat) : Int)) < 2 then dpm Am' c l.toNat + 1 else dpm Am' c l.toNat - 1) = _
    rw [ec, hd l.toNat (by omega)]
  refine ⟨⟨by omega, fun i i0 i1 => ?_, fun i i0 i1 => ?_⟩, st⟩
  · by_cases e2 : i = l
    · subst e2
      exact ⟨e, fun h => by rw [hd i.toNat (by omega)]; exact h2 h⟩
    · exact S2.2.1 i i0 (by omega)
  · by_cases e2 : i = l + 1
    · rw [e2, st]
      split
      · omega
      · omega
    · exact S2.2.2 i i0 (by omega)
/-- the class writes an instruction -/
theorem add_v (h0 : 0 ≤ (F d 1304).toInt) (h1 : (F d 1304).toInt < 400) : po (e_Laws_add P F A J d x1 x2) (fun r => ∃ v F' A', r = (v, P, F', A', J) ∧ FrL d F F' A A' ∧ v = F d 1304 ∧ (F' d 1304).toInt = (F d 1304).toInt + 1 ∧ ci A' d 15 (F d 1304).toInt = x1.toInt ∧ ci A' d 16 (F d 1304).toInt = x2.toInt ∧ (∀ i, 0 ≤ i → i ≠ (F d 1304).toInt → ci A' d 15 i = ci A d 15 i ∧ ci A' d 16 i = ci A d 16 i)) := by
  unfold e_Laws_add
  refine po_cond (fun c => ?_) (fun _ => ?_)
  · rw [i_ge, show (400 : Int32).toInt = 400 by decide] at c
    omega
  refine po_bl (fun A2 e2 => po_bl (fun A3 e3 => po_bl (fun F4 e4 => po_some ?_)))
  have a2 := (gg_cst e2).2.2
  have a3 := (gg_cst e3).2.2
  have u4 := gg_cpf e4
  have s4 : (F4 d 1304).toInt = (F d 1304).toInt + 1 := by rw [u4.1, i_add (by rw [i_1]; omega) (by rw [i_1]; omega), i_1]
  refine ⟨_, F4, A3, rfl, ⟨fun r k h => u4.2 r k h, fun r o h => by rw [a3.2.2 r o (fun e => h ⟨e.1, .inr e.2⟩), a2.2.2 r o (fun e => h ⟨e.1, .inl e.2⟩)]⟩, i_ext (by rw [i_sub (by rw [s4, i_1]; omega) (by rw [s4, i_1]; omega), s4, i_1]; omega), s4, ?_, a3.1, fun i i0 hi => ⟨?_, ?_⟩⟩
  · rw [ci_fr (a3.2.2 d 15 (fun e => absurd e.2 (by decide)))]; exact a2.1
  · rw [ci_fr (a3.2.2 d 15 (fun e => absurd e.2 (by decide)))]; exact a2.2.1 i i0 hi
  · rw [a3.2.1 i i0 hi, ci_fr (a2.2.2 d 16 (fun e => absurd e.2 (by decide)))]
/-- the reference writes a code -/
theorem emit_v : po (d_emit Fm Am Jm x1 x2) (fun r => ∃ F' A', r = ((), F', A', Jm) ∧ FrN Fm F' Am A' ∧ 0 ≤ (Fm 56).toInt ∧ (F' 56).toInt = (Fm 56).toInt + 1 ∧ F' 60 = Fm 60 ∧ A' 44 = Am 44 ∧ ai A' 42 (Fm 56).toInt = x1.toInt ∧ ai A' 43 (Fm 56).toInt = x2.toInt ∧ (∀ i, 0 ≤ i → i ≠ (Fm 56).toInt → ai A' 42 i = ai Am 42 i ∧ ai A' 43 i = ai Am 43 i)) := by
  unfold d_emit
  refine po_bl (fun A2 e2 => po_bl (fun A3 e3 => po_bl (fun F4 e4 => po_some ?_)))
  have a2 := gg_st e2
  have a3 := gg_st e3
  have u4 := gg_pf e4
  refine ⟨F4, A3, rfl, ⟨fun q h _ => u4.2 q h, fun q h h' _ => by rw [a3.2.2.1 q h', a2.2.2.1 q h]⟩, a2.1, by rw [u4.1, i_add (by rw [i_1]; omega) (by rw [i_1]; omega), i_1], u4.2 60 (by decide), by rw [a3.2.2.1 44 (by decide), a2.2.2.1 44 (by decide)], ?_, a3.2.2.2.1, fun i i0 hi => ⟨?_, ?_⟩⟩
  · rw [ai_fr (a3.2.2.1 42 (by decide))]; exact a2.2.2.2.1
  · rw [ai_fr (a3.2.2.1 42 (by decide))]; exact a2.2.2.2.2 i i0 hi
  · rw [a3.2.2.2.2 i i0 hi, ai_fr (a2.2.2.1 43 (by decide))]
/-- a unit: both have written -/
theorem CR.unit {v1 v2 y1 y2 : Int32} (C : CR A0 Am0 k49 p c h D w 0 0 st 0 d F A Fm Am) (fl : (F' d 1304).toInt = (F d 1304).toInt + 1) (l15 : ci A' d 15 (F d 1304).toInt = v1.toInt) (l16 : ci A' d 16 (F d 1304).toInt = v2.toInt) (lo : ∀ i, 0 ≤ i → i ≠ (F d 1304).toInt → ci A' d 15 i = ci A d 15 i ∧ ci A' d 16 i = ci A d 16 i) (l14 : A' d 14 = A d 14) (fn : (Fm' 56).toInt = (Fm 56).toInt + 1) (f60 : Fm' 60 = Fm 60) (f49 : (Fm' 49, Fm' 19) = (Fm 49, Fm 19)) (f11 : (Fm' 11).toInt = (Fm 11).toInt + 1) (n42 : ai Am' 42 (Fm 56).toInt = y1.toInt) (n43 : ai Am' 43 (Fm 56).toInt = y2.toInt) (no : ∀ i, 0 ≤ i → i ≠ (Fm 56).toInt → ai Am' 42 i = ai Am 42 i ∧ ai Am' 43 i = ai Am 43 i) (m44 : Am' 44 = Am 44) (m : ∀ q, 34 ≤ q → q ≤ 41 → Am' q = Am q) (e : (v1.toInt = 1 ∧ y1.toInt = 0 ∨ v1.toInt = 2 ∧ y1.toInt = 1) ∧ v2.toInt = y2.toInt) : CR A0 Am0 k49 p c h D w 0 0 2 1 d F' A' Fm' Am' := by
  obtain ⟨c1, c2, c3, c4, c5, ⟨c6, c7, c8, c9⟩, ⟨c10, c11, c12, c13⟩, c14⟩ := C
  have z0 := ns_0
  have ifz : ∀ {q : Prop} [Decidable q], (if q then ns 0 else 0) = 0 := by intro q _; split <;> rfl
  have ifz' : ∀ {q : Prop} [Decidable q], (if q then 0 else ns 0) = 0 := by intro q _; split <;> rfl
  rw [ifz, ifz] at c6
  rw [ifz', ifz'] at c9
  obtain ⟨l, hl⟩ : ∃ l, l = (Fm 56).toInt - c := ⟨_, rfl⟩
  rw [← hl] at c4 c5 c6
  have l0 := c4.1
  have e56 : (Fm 56).toInt = c + l := by omega
  have eL : (F d 1304).toInt = p + l := by omega
  rw [e56] at n42 n43 no fn
  rw [eL] at l15 l16 lo fl
  have el : (Fm' 56).toInt - c = l + 1 := by omega
  have add := c4.add (A' := A') (Am' := Am') (fun i a b => lo i (by omega) (by omega)) (fun i a b => no i (by omega) (by omega)) (by
    rw [l15, l16, n42, n43]
    rcases e.1 with h | h
    · exact .inl ⟨h.1, h.2, e.2⟩
    · exact .inr (.inl ⟨h.1, h.2, e.2⟩)) (fun h => by rw [n42] at h; omega) (.inl (by omega))
  have hd := add.2
  rw [n42, if_pos (by omega)] at hd
  unfold CR
  rw [f60, f49, el, ai_fr m44]
  refine ⟨by omega, c2, c3, add.1, by omega, ⟨?_, fun _ h => absurd rfl h, fun _ h => absurd rfl h, ?_⟩, ⟨fun i a b => ?_, fun i a b => ?_, fun q h1 h2 => (m q h1 h2).trans (c12 q h1 h2), l14.trans c13⟩, c14⟩
  · rw [ifz, ifz]; omega
  · rw [ifz', ifz']; omega
  · rw [(lo i a (by omega)).1, (lo i a (by omega)).2]; exact c10 i a b
  · rw [(no i a (by omega)).1, (no i a (by omega)).2]; exact c11 i a b
/-- the class writes the sign that waits for its second part -/
theorem CR.s1 (C : CR A0 Am0 k49 p c h D w sg pt 0 1 d F A Fm Am) (hp : pt ≠ 0) {v1 : Int32} (fl : (F' d 1304).toInt = (F d 1304).toInt + 1) (l15 : ci A' d 15 (F d 1304).toInt = v1.toInt) (lo : ∀ i, 0 ≤ i → i ≠ (F d 1304).toInt → ci A' d 15 i = ci A d 15 i ∧ ci A' d 16 i = ci A d 16 i) (l14 : A' d 14 = A d 14) (e : v1.toInt = chx pt) : CR A0 Am0 k49 p c h D w sg pt 1 1 d F' A' Fm Am := by
  obtain ⟨c1, c2, c3, c4, c5, ⟨c6, c7, c8, c9⟩, ⟨c10, c11, c12, c13⟩, c14⟩ := C
  rw [if_neg (by decide), if_neg (by decide)] at c6
  rw [if_neg (by decide), if_neg (by decide)] at c9
  have n1 := ns_1 hp
  have l0 := c4.1
  refine ⟨c1, c2, c3, c4.fr (fun i a b => lo i (by omega) (by omega)) (fun _ _ _ => ⟨rfl, rfl⟩), c5, ⟨?_, fun _ _ => ?_, fun h => absurd h (by decide), ?_⟩, ⟨fun i a b => ?_, c11, c12, l14.trans c13⟩, c14⟩
  · rw [if_pos (by decide), if_neg (by decide)]; omega
  · rw [← e, ← l15]
    congr 1
    omega
  · rw [if_pos (by decide), if_neg (by decide)]; omega
  · rw [(lo i a (by omega)).1, (lo i a (by omega)).2]; exact c10 i a b
theorem CR.s1z (C : CR A0 Am0 k49 p c h D w sg 0 0 1 d F A Fm Am) : CR A0 Am0 k49 p c h D w sg 0 1 1 d F A Fm Am := by
  obtain ⟨c1, c2, c3, c4, c5, ⟨c6, c7, c8, c9⟩, cb⟩ := C
  rw [if_neg (by decide), if_neg (by decide)] at c6
  rw [if_neg (by decide), if_neg (by decide)] at c9
  have z := ns_0
  refine ⟨c1, c2, c3, c4, c5, ⟨?_, fun _ h => absurd rfl h, fun h => absurd h (by decide), ?_⟩, cb⟩
  · rw [if_pos (by decide), if_neg (by decide)]; omega
  · rw [if_pos (by decide), if_neg (by decide)]; omega
theorem CR.s2 (C : CR A0 Am0 k49 p c h D w sg pt 1 1 d F A Fm Am) (hp : sg ≠ 0) {v1 : Int32} (fl : (F' d 1304).toInt = (F d 1304).toInt + 1) (l15 : ci A' d 15 (F d 1304).toInt = v1.toInt) (lo : ∀ i, 0 ≤ i → i ≠ (F d 1304).toInt → ci A' d 15 i = ci A d 15 i ∧ ci A' d 16 i = ci A d 16 i) (l14 : A' d 14 = A d 14) (e : v1.toInt = chx sg) : CR A0 Am0 k49 p c h D w sg pt 2 1 d F' A' Fm Am := by
  obtain ⟨c1, c2, c3, c4, c5, ⟨c6, c7, c8, c9⟩, ⟨c10, c11, c12, c13⟩, c14⟩ := C
  rw [if_pos (by decide), if_neg (by decide)] at c6
  rw [if_pos (by decide), if_neg (by decide)] at c9
  have n1 := ns_1 hp
  have np := ns_b pt
  have l0 := c4.1
  refine ⟨c1, c2, c3, c4.fr (fun i a b => lo i (by omega) (by omega)) (fun _ _ _ => ⟨rfl, rfl⟩), c5, ⟨?_, fun _ h => ?_, fun _ _ => ?_, ?_⟩, ⟨fun i a b => ?_, c11, c12, l14.trans c13⟩, c14⟩
  · rw [if_pos (by decide), if_pos (by decide)]; omega
  · rw [(lo _ (by omega) (by have := ns_1 h; omega)).1]; exact c7 (by decide) h
  · rw [← e, ← l15]
    congr 1
    omega
  · rw [if_pos (by decide), if_pos (by decide)]; omega
  · rw [(lo i a (by omega)).1, (lo i a (by omega)).2]; exact c10 i a b
theorem CR.s2z (C : CR A0 Am0 k49 p c h D w 0 pt 1 1 d F A Fm Am) : CR A0 Am0 k49 p c h D w 0 pt 2 1 d F A Fm Am := by
  obtain ⟨c1, c2, c3, c4, c5, ⟨c6, c7, c8, c9⟩, cb⟩ := C
  rw [if_pos (by decide), if_neg (by decide)] at c6
  rw [if_pos (by decide), if_neg (by decide)] at c9
  have z := ns_0
  refine ⟨c1, c2, c3, c4, c5, ⟨?_, fun _ h => c7 (by decide) h, fun _ h => absurd rfl h, ?_⟩, cb⟩
  · rw [if_pos (by decide), if_pos (by decide)]; omega
  · rw [if_pos (by decide), if_pos (by decide)]; omega
/-- the signs that wait, as what a unit stands on -/
def wx (h sg pt : Int) (w : Int → Int) : Int → Int := fun i => if i < h then w i else if sg ≠ 0 ∧ i = h then sg else pt
theorem CR.base (C : CR A0 Am0 k49 p c h D w sg pt 0 0 d F A Fm Am) (hD : D + ns sg + ns pt ≤ 14) : CR A0 Am0 k49 p c (h + ns sg + ns pt) (D + ns sg + ns pt) (wx h sg pt w) 0 0 0 0 d F A Fm Am := by
  obtain ⟨c1, c2, ⟨c3, w1, w2, w3⟩, c4, c5, ⟨c6, c7, c8, c9⟩, cb⟩ := C
  have z := ns_0
  have b1 := ns_b sg
  have b2 := ns_b pt
  rw [if_neg (by decide), if_neg (by decide)] at c6
  rw [if_neg (by decide), if_neg (by decide)] at c9
  refine ⟨by omega, ⟨.inl rfl, .inl rfl⟩, ⟨by omega, fun i i0 i1 => ?_, fun h => absurd rfl h, fun h => absurd rfl h⟩, c4, by omega, ⟨?_, fun h => absurd h (by decide), fun h => absurd h (by decide), ?_⟩, cb⟩
  · unfold wx
    by_cases e : i < h
    · rw [if_pos e]; exact w1 i i0 e
    · rw [if_neg e]
      by_cases e2 : sg ≠ 0 ∧ i = h
      · rw [if_pos e2, e2.2]; exact w2 e2.1
      · rw [if_neg e2]
        by_cases e3 : sg = 0
        · have n0 : ns sg = 0 := by rw [e3]; rfl
          have hp : pt ≠ 0 := fun e4 => absurd (show ns pt = 0 by rw [e4]; rfl) (by omega)
          have := w3 hp
          rw [show i = h + ns sg by omega]; exact this
        · have n1 := ns_1 e3
          have ne : i ≠ h := fun e4 => e2 ⟨e3, e4⟩
          have hp : pt ≠ 0 := fun e4 => absurd (show ns pt = 0 by rw [e4]; rfl) (by omega)
          have := w3 hp
          rw [show i = h + ns sg by omega]; exact this
  · rw [if_neg (by decide), if_neg (by decide)]; omega
  · rw [if_neg (by decide), if_neg (by decide)]; omega
theorem CR.unbase (C : CR A0 Am0 k49 p c (h + ns sg + ns pt) (D + ns sg + ns pt) (wx h sg pt w) 0 0 2 1 d F A Fm Am) (h0 : 0 ≤ h) (D0 : 0 ≤ D) (hs : (sg = 0 ∨ sg = 8 ∨ sg = 9) ∧ (pt = 0 ∨ pt = 10 ∨ pt = 15)) : CR A0 Am0 k49 p c h D w sg pt 0 1 d F A Fm Am := by
  obtain ⟨c1, c2, ⟨c3, w1, -, -⟩, c4, c5, ⟨c6, c7, c8, c9⟩, cb⟩ := C
  have z := ns_0
  have b1 := ns_b sg
  have b2 := ns_b pt
  have ifz : ∀ {q : Prop} [Decidable q], (if q then ns 0 else 0) = 0 := by intro q _; split <;> rfl
  have ifz' : ∀ {q : Prop} [Decidable q], (if q then 0 else ns 0) = 0 := by intro q _; split <;> rfl
  rw [ifz, ifz] at c6
  rw [ifz', ifz'] at c9
  refine ⟨by omega, hs, ⟨by omega, fun i i0 i1 => ?_, fun e => ?_, fun e => ?_⟩, c4, by omega, ⟨?_, fun h => absurd h (by decide), fun h => absurd h (by decide), ?_⟩, cb⟩
  · rw [w1 i i0 (by omega)]
    unfold wx
    exact if_pos i1
  · have n1 := ns_1 e
    rw [w1 h h0 (by omega)]
    unfold wx
    rw [if_neg (by omega)]
    exact if_pos ⟨e, rfl⟩
  · have n1 := ns_1 e
    rw [w1 (h + ns sg) (by omega) (by omega)]
    unfold wx
    rw [if_neg (by omega)]
    refine if_neg (fun e2 => ?_)
    have := ns_1 e2.1
    omega
  · rw [if_neg (by decide), if_neg (by decide)]; omega
  · rw [if_neg (by decide), if_neg (by decide)]; omega
/-- a bracket opens -/
theorem CR.opn (C : CR A0 Am0 k49 p c h D w 0 0 0 0 d F A Fm Am) (f60 : (Fm' 60).toInt = (Fm 60).toInt + 1) (f56 : Fm' 56 = Fm 56) (f49 : (Fm' 49, Fm' 19) = (Fm 49, Fm 19)) (f11 : (Fm 11).toInt ≤ (Fm' 11).toInt) (n44 : ai Am' 44 (Fm 60).toInt = 6) (no : ∀ i, 0 ≤ i → i ≠ (Fm 60).toInt → ai Am' 44 i = ai Am 44 i) (m : ∀ q, q ≠ 44 → Am' q = Am q) : CR A0 Am0 k49 p c (h + 1) D (fun i => if i = h then 6 else w i) 0 0 0 0 d F A Fm' Am' := by
  obtain ⟨c1, c2, ⟨c3, w1, -, -⟩, c4, c5, ⟨c6, c7, c8, c9⟩, ⟨c10, c11, c12, c13⟩, c14⟩ := C
  have z := ns_0
  rw [show (Fm 60).toInt = h by omega] at n44 no f60
  unfold CR
  rw [f56, f49, dpm_fr (m 42 (by decide))]
  refine ⟨by omega, c2, ⟨by omega, fun i i0 i1 => ?_, fun h => absurd rfl h, fun h => absurd rfl h⟩, c4.fr (fun _ _ _ => ⟨rfl, rfl⟩) (fun i _ _ => by rw [ai_fr (m 42 (by decide)), ai_fr (m 43 (by decide))]; exact ⟨rfl, rfl⟩), c5, ⟨c6, c7, c8, by omega⟩, ⟨c10, ?_, fun q h1 h2 => (m q (by omega)).trans (c12 q h1 h2), c13⟩, c14⟩
  · by_cases e : i = h
    · show ai Am' 44 i = if i = h then 6 else w i
      rw [if_pos e, e]; exact n44
    · show ai Am' 44 i = if i = h then 6 else w i
      rw [if_neg e, no i i0 e]; exact w1 i i0 (by omega)
  · rw [ai_fr (m 42 (by decide)), ai_fr (m 43 (by decide))]; exact c11
theorem CR.cls (C : CR A0 Am0 k49 p c (h + 1) D (fun i => if i = h then 6 else w i) 0 0 2 1 d F A Fm Am) (h0 : 0 ≤ h) (f60 : (Fm' 60).toInt = (Fm 60).toInt - 1) (f56 : Fm' 56 = Fm 56) (f49 : (Fm' 49, Fm' 19) = (Fm 49, Fm 19)) (f11 : (Fm 11).toInt ≤ (Fm' 11).toInt) : CR A0 Am0 k49 p c h D w 0 0 2 1 d F A Fm' Am := by
  obtain ⟨c1, c2, ⟨c3, w1, -, -⟩, c4, c5, ⟨c6, c7, c8, c9⟩, cb, c14⟩ := C
  have z := ns_0
  unfold CR
  rw [f56, f49]
  refine ⟨by omega, c2, ⟨by omega, fun i i0 i1 => ?_, fun h => absurd rfl h, fun h => absurd rfl h⟩, c4, c5, ⟨c6, c7, c8, by omega⟩, cb, c14⟩
  rw [w1 i i0 (by omega)]
  exact if_neg (by omega)
/-- a sign is pushed -/
theorem CR.psh {z : Int} (C : CR A0 Am0 k49 p c h D w sg 0 st 1 d F A Fm Am) (hz : (z = 10 ∨ z = 15) ∧ st = 1 ∨ (z = 8 ∨ z = 9) ∧ sg = 0) (f60 : (Fm' 60).toInt = (Fm 60).toInt + 1) (f56 : Fm' 56 = Fm 56) (f49 : (Fm' 49, Fm' 19) = (Fm 49, Fm 19)) (f11 : (Fm' 11).toInt = (Fm 11).toInt + 1) (n44 : ai Am' 44 (Fm 60).toInt = z) (no : ∀ i, 0 ≤ i → i ≠ (Fm 60).toInt → ai Am' 44 i = ai Am 44 i) (m : ∀ q, q ≠ 44 → Am' q = Am q) : CR A0 Am0 k49 p c h D w (if z = 10 ∨ z = 15 then sg else z) (if z = 10 ∨ z = 15 then z else 0) 0 0 d F A Fm' Am' := by
  obtain ⟨c1, c2, ⟨c3, w1, w2, -⟩, c4, c5, ⟨c6, c7, c8, c9⟩, ⟨c10, c11, c12, c13⟩, c14⟩ := C
  have zn := ns_0
  have b1 := ns_b sg
  have ifz : ∀ {q : Prop} [Decidable q], (if q then ns 0 else 0) = 0 := by intro q _; split <;> rfl
  have ifz' : ∀ {q : Prop} [Decidable q], (if q then 0 else ns 0) = 0 := by intro q _; split <;> rfl
  rw [ifz] at c6
  rw [ifz'] at c9
  rw [show (Fm 60).toInt = h + ns sg by omega] at n44 no f60
  have nz : ns z = 1 := ns_1 (by omega)
  have sgx : SGx d A Am' p c ((Fm' 56).toInt - c) := by
    rw [f56]
    exact c4.fr (fun _ _ _ => ⟨rfl, rfl⟩) (fun i _ _ => by rw [ai_fr (m 42 (by decide)), ai_fr (m 43 (by decide))]; exact ⟨rfl, rfl⟩)
  have cb : CBx p c d A0 A Am0 Am' := ⟨c10, by rw [ai_fr (m 42 (by decide)), ai_fr (m 43 (by decide))]; exact c11, fun q h1 h2 => (m q (by omega)).trans (c12 q h1 h2), c13⟩
  have dd : dpm Am' c ((Fm' 56).toInt - c).toNat = D + ns sg + ns 0 + 1 := by rw [f56, dpm_fr (m 42 (by decide))]; exact c5
  have r1 : ∀ i, 0 ≤ i → i < h → ai Am' 44 i = w i := fun i i0 i1 => by rw [no i i0 (by omega)]; exact w1 i i0 i1
  rcases hz with ⟨hz, hst⟩ | ⟨hz, hsg⟩
  · rw [if_pos hz, if_pos hz]
    subst hst
    rw [if_neg (by decide)] at c6
    rw [if_neg (by decide)] at c9
    refine ⟨by omega, ⟨c2.1, by omega⟩, ⟨by omega, r1, fun e => ?_, fun e => ?_⟩, sgx, by omega, ⟨?_, fun h => absurd h (by decide), fun h => absurd h (by decide), ?_⟩, cb, f49.trans c14⟩
    · have := ns_1 e
      rw [no h (by omega) (by omega)]; exact w2 e
    · exact n44
    · rw [if_neg (by decide), if_neg (by decide), f56]; omega
    · rw [if_neg (by decide), if_neg (by decide)]; omega
  · rw [if_neg (by omega), if_neg (by omega)]
    subst hsg
    rw [ifz] at c6
    rw [ifz'] at c9
    refine ⟨by omega, ⟨by omega, .inl rfl⟩, ⟨by omega, r1, fun e => ?_, fun e => absurd rfl e⟩, sgx, by omega, ⟨?_, fun h => absurd h (by decide), fun h => absurd h (by decide), ?_⟩, cb, f49.trans c14⟩
    · rw [← n44]; congr 1; omega
    · rw [if_neg (by decide), if_neg (by decide), f56]; omega
    · rw [if_neg (by decide), if_neg (by decide)]; omega
/-- what a term stands on: nothing, or a bracket -/
def GBx (h : Int) (w : Int → Int) : Prop := h = 0 ∨ w (h - 1) = 6
/-- the reference takes a sign down -/
theorem out_pop {Q : (Unit × (Nat → Int32) × (Nat → Nat → Int32) × (Nat → Nat → Int64)) → Prop} (h0 : 0 < (Fm 60).toInt) (hw : ai Am 44 ((Fm 60).toInt - 1) = x) (hx : x = 8 ∨ x = 9 ∨ x = 10 ∨ x = 15) (hs : x1.toInt = 0 ∨ (x = 10 ∨ x = 15)) (k : ∀ F' A', FrN Fm F' Am A' → 0 ≤ (Fm 56).toInt → (F' 56).toInt = (Fm 56).toInt + 1 → (F' 60).toInt = (Fm 60).toInt - 1 → A' 44 = Am 44 → ai A' 42 (Fm 56).toInt = opx x → (∀ i, 0 ≤ i → i ≠ (Fm 56).toInt → ai A' 42 i = ai Am 42 i ∧ ai A' 43 i = ai Am 43 i) → po (d_comesOut_0 n F' A' Jm x1) Q) : po (d_comesOut_0 (n + 1) Fm Am Jm x1) Q := by
  have l6 : (6 : Int32).toInt = 6 := by decide
  have l8 : (8 : Int32).toInt = 8 := by decide
  have l9 : (9 : Int32).toInt = 9 := by decide
  have l10 : (10 : Int32).toInt = 10 := by decide
  have e1 := i_sub (x := Fm 60) (y := 1) (by rw [i_1]; omega) (by rw [i_1]; have := i_rng (Fm 60); omega)
  rw [i_1] at e1
  unfold d_comesOut_0
  refine po_cond (fun c => ?_) (fun _ => ?_)
  · rw [i_le, i_0] at c; omega
  refine po_bl (fun v2 e2 => ?_)
  have v2e : v2.toInt = x := by rw [(gg_ld e2).2.2, e1]; exact hw
  have z : po (d_comesOut_42 (d_comesOut_0 n) n Fm Am Jm x1 v2) Q := by
    unfold d_comesOut_42
    refine po_bl (fun F7 e7 => ?_)
    have u7 := gg_pf e7
    have y : ∀ {s1 : Int32}, s1.toInt = opx x → po (d_comesOut_84 (d_comesOut_0 n) n F7 Am Jm x1 s1) Q := by
      intro s1 hs1
      unfold d_comesOut_84
      refine po_call emit_v ?_
      rintro _ ⟨F8, A8, rfl, f8, g0, g1, g2, g3, g4, g5, g6⟩
      dsimp only
      have e56 : F7 56 = Fm 56 := u7.2 56 (by decide)
      rw [e56] at g0 g1 g4 g6
      refine k F8 A8 ⟨fun q h h' => (f8.1 q h h').trans (u7.2 q h'), f8.2⟩ g0 g1 (by rw [g2, u7.1, e1]) g3 (g4.trans hs1) g6
    refine po_cond (fun c => ?_) (fun c => ?_)
    · rw [i_ne, l8, v2e] at c
      refine po_cond (fun c2 => ?_) (fun c2 => ?_)
      · rw [i_ne, l9, v2e] at c2
        refine po_cond (fun c3 => ?_) (fun c3 => ?_)
        · rw [i_ne, l10, v2e] at c3
          refine y ?_
          unfold opx
          rw [if_neg c, if_neg c2, if_neg c3]
          decide
        · rw [i_nne, l10, v2e] at c3
          refine y ?_
          rw [c3]; decide
      · rw [i_nne, l9, v2e] at c2
        refine y ?_
        rw [c2]; decide
    · rw [i_nne, l8, v2e] at c
      refine y ?_
      rw [c]; decide
  refine po_cond (fun c => ?_) (fun _ => ?_)
  · rw [i_eq, l6, v2e] at c; omega
  refine po_cond (fun _ => z) (fun c => ?_)
  rw [i_neq, i_0] at c
  refine po_cond (fun c2 => ?_) (fun _ => ?_)
  · rw [i_eq, l8, v2e] at c2; omega
  refine po_cond (fun _ => z) (fun c2 => ?_)
  rw [i_nne, l9, v2e] at c2
  omega
theorem out_stop {Q : (Unit × (Nat → Int32) × (Nat → Nat → Int32) × (Nat → Nat → Int64)) → Prop} (hs : (Fm 60).toInt ≤ 0 ∨ ai Am 44 ((Fm 60).toInt - 1) = 6 ∨ (x1.toInt ≠ 0 ∧ (ai Am 44 ((Fm 60).toInt - 1) = 8 ∨ ai Am 44 ((Fm 60).toInt - 1) = 9))) (k : Q ((), Fm, Am, Jm)) : po (d_comesOut_0 n Fm Am Jm x1) Q := by
  have l6 : (6 : Int32).toInt = 6 := by decide
  have l8 : (8 : Int32).toInt = 8 := by decide
  have l9 : (9 : Int32).toInt = 9 := by decide
  cases n with
  | zero => intro r hr; cases hr
  | succ n =>
    unfold d_comesOut_0
    refine po_cond (fun _ => po_some k) (fun c => ?_)
    rw [i_nle, i_0] at c
    have e1 := i_sub (x := Fm 60) (y := 1) (by rw [i_1]; omega) (by rw [i_1]; have := i_rng (Fm 60); omega)
    rw [i_1] at e1
    refine po_bl (fun v2 e2 => ?_)
    have v2e : v2.toInt = ai Am 44 ((Fm 60).toInt - 1) := by rw [(gg_ld e2).2.2, e1]; rfl
    refine po_cond (fun _ => po_some k) (fun c1 => ?_)
    rw [i_neq, l6, v2e] at c1
    refine po_cond (fun c2 => ?_) (fun c2 => ?_)
    · rw [i_eq, i_0] at c2; omega
    rw [i_neq, i_0] at c2
    refine po_cond (fun _ => po_some k) (fun c3 => ?_)
    rw [i_neq, l8, v2e] at c3
    refine po_cond (fun c4 => ?_) (fun _ => po_some k)
    rw [i_ne, l9, v2e] at c4
    omega
/-- a sign has been taken down -/
theorem CR.pop1 (C : CR A0 Am0 k49 p c h D w sg pt st 1 d F A Fm Am) (hst : 1 ≤ st) (hp : pt ≠ 0) (f : FrN Fm Fm' Am Am') (g1 : (Fm' 56).toInt = (Fm 56).toInt + 1) (g2 : (Fm' 60).toInt = (Fm 60).toInt - 1) (g3 : Am' 44 = Am 44) (g4 : ai Am' 42 (Fm 56).toInt = opx pt) (g6 : ∀ i, 0 ≤ i → i ≠ (Fm 56).toInt → ai Am' 42 i = ai Am 42 i ∧ ai Am' 43 i = ai Am 43 i) : CR A0 Am0 k49 p c h D w sg 0 st 1 d F A Fm' Am' := by
  obtain ⟨c1, c2, ⟨c3, w1, w2, w3⟩, c4, c5, ⟨c6, c7, c8, c9⟩, ⟨c10, c11, c12, c13⟩, c14⟩ := C
  have zn := ns_0
  have b1 := ns_b sg
  have n1 := ns_1 hp
  have ifz : ∀ {q : Prop} [Decidable q], (if q then ns 0 else 0) = 0 := by intro q _; split <;> rfl
  have ifz' : ∀ {q : Prop} [Decidable q], (if q then 0 else ns 0) = 0 := by intro q _; split <;> rfl
  rw [if_pos hst] at c6
  rw [if_pos hst] at c9
  obtain ⟨l, hl⟩ : ∃ l, l = (Fm 56).toInt - c := ⟨_, rfl⟩
  rw [← hl] at c4 c5 c6 c7 c8
  have l0 := c4.1
  have e56 : (Fm 56).toInt = c + l := by omega
  rw [e56] at g1 g4 g6
  have el : (Fm' 56).toInt - c = l + 1 := by omega
  have o2 : 2 ≤ opx pt := by
    unfold opx
    repeat' split
    all_goals omega
  have add := c4.add (A' := A) (Am' := Am') (fun _ _ _ => ⟨rfl, rfl⟩) (fun i a b => g6 i (by omega) (by omega)) (by
    rw [c7 hst hp, g4]
    exact CEq.op (by omega)) (fun _ => by omega) (.inr (by omega))
  have hd := add.2
  rw [g4, if_neg (by omega)] at hd
  unfold CR
  rw [el, ai_fr g3, f.1 49 (by decide) (by decide), f.1 19 (by decide) (by decide), f.1 11 (by decide) (by decide)]
  refine ⟨by omega, ⟨c2.1, .inl rfl⟩, ⟨by omega, w1, w2, fun h => absurd rfl h⟩, add.1, by omega, ⟨?_, fun _ h => absurd rfl h, fun a b => ?_, ?_⟩, ⟨c10, fun i a b => ?_, fun q h1 h2 => (f.2 q (by omega) (by omega) (by omega)).trans (c12 q h1 h2), c13⟩, c14⟩
  · rw [ifz]; omega
  · rw [← c8 a b]; congr 1; omega
  · rw [ifz']; omega
  · rw [(g6 i a (by omega)).1, (g6 i a (by omega)).2]; exact c11 i a b
theorem CR.pop2 (C : CR A0 Am0 k49 p c h D w sg 0 st 1 d F A Fm Am) (hst : 2 ≤ st) (hp : sg ≠ 0) (f : FrN Fm Fm' Am Am') (g1 : (Fm' 56).toInt = (Fm 56).toInt + 1) (g2 : (Fm' 60).toInt = (Fm 60).toInt - 1) (g3 : Am' 44 = Am 44) (g4 : ai Am' 42 (Fm 56).toInt = opx sg) (g6 : ∀ i, 0 ≤ i → i ≠ (Fm 56).toInt → ai Am' 42 i = ai Am 42 i ∧ ai Am' 43 i = ai Am 43 i) : CR A0 Am0 k49 p c h D w 0 0 st 1 d F A Fm' Am' := by
  obtain ⟨c1, c2, ⟨c3, w1, w2, w3⟩, c4, c5, ⟨c6, c7, c8, c9⟩, ⟨c10, c11, c12, c13⟩, c14⟩ := C
  have zn := ns_0
  have n1 := ns_1 hp
  have ifz : ∀ {q : Prop} [Decidable q], (if q then ns 0 else 0) = 0 := by intro q _; split <;> rfl
  have ifz' : ∀ {q : Prop} [Decidable q], (if q then 0 else ns 0) = 0 := by intro q _; split <;> rfl
  rw [ifz, if_pos hst] at c6
  rw [ifz', if_pos hst] at c9
  obtain ⟨l, hl⟩ : ∃ l, l = (Fm 56).toInt - c := ⟨_, rfl⟩
  rw [← hl] at c4 c5 c6 c7 c8
  have l0 := c4.1
  have e56 : (Fm 56).toInt = c + l := by omega
  rw [e56] at g1 g4 g6
  have el : (Fm' 56).toInt - c = l + 1 := by omega
  have o2 : 2 ≤ opx sg := by
    unfold opx
    repeat' split
    all_goals omega
  have c8' : ci A d 15 (p + l) = chx sg := by rw [← c8 hst hp]; congr 1; omega
  have add := c4.add (A' := A) (Am' := Am') (fun _ _ _ => ⟨rfl, rfl⟩) (fun i a b => g6 i (by omega) (by omega)) (by
    rw [c8', g4]
    exact CEq.op (by omega)) (fun _ => by omega) (.inr (by omega))
  have hd := add.2
  rw [g4, if_neg (by omega)] at hd
  unfold CR
  rw [el, ai_fr g3, f.1 49 (by decide) (by decide), f.1 19 (by decide) (by decide), f.1 11 (by decide) (by decide)]
  refine ⟨by omega, ⟨.inl rfl, .inl rfl⟩, ⟨by omega, w1, fun h => absurd rfl h, fun h => absurd rfl h⟩, add.1, by omega, ⟨?_, fun _ h => absurd rfl h, fun _ h => absurd rfl h, ?_⟩, ⟨c10, fun i a b => ?_, fun q h1 h2 => (f.2 q (by omega) (by omega) (by omega)).trans (c12 q h1 h2), c13⟩, c14⟩
  · rw [ifz, ifz]; omega
  · rw [ifz', ifz']; omega
  · rw [(g6 i a (by omega)).1, (g6 i a (by omega)).2]; exact c11 i a b
/-- what comes out ahead of '*' and '/' -/
theorem out_S (C : CR A0 Am0 k49 p c h D w sg pt 1 1 d F A Fm Am) (G : GBx h w) : po (d_comesOut n Fm Am Jm 1) (fun r => ∃ F' A', r = ((), F', A', Jm) ∧ FrN Fm F' Am A' ∧ CR A0 Am0 k49 p c h D w sg 0 1 1 d F A F' A') := by
  have zn := ns_0
  have l1 : ((1 : Int32)).toInt ≠ 0 := by decide
  have stop : ∀ {n : Nat} {Fm : Nat → Int32} {Am : Nat → Nat → Int32} {Q : (Unit × (Nat → Int32) × (Nat → Nat → Int32) × (Nat → Nat → Int64)) → Prop}, CR A0 Am0 k49 p c h D w sg 0 1 1 d F A Fm Am → Q ((), Fm, Am, Jm) → po (d_comesOut_0 n Fm Am Jm 1) Q := by
    intro n Fm Am Q C k
    obtain ⟨c1, c2, ⟨c3, w1, w2, w3⟩, -⟩ := C
    refine out_stop ?_ k
    by_cases e : sg = 0
    · subst e
      rcases G with g | g
      · exact .inl (by omega)
      · by_cases e0 : h = 0
        · exact .inl (by omega)
        · refine .inr (.inl ?_)
          rw [show (Fm 60).toInt - 1 = h - 1 by omega, w1 (h - 1) (by omega) (by omega)]
          exact g
    · have n1 := ns_1 e
      refine .inr (.inr ⟨l1, ?_⟩)
      rw [show (Fm 60).toInt - 1 = h by omega, w2 e]
      omega
  unfold d_comesOut
  by_cases e : pt = 0
  · subst e
    exact stop C ⟨Fm, Am, rfl, FrN.rfl', C⟩
  · cases n with
    | zero => intro r hr; cases hr
    | succ n =>
      have n1 := ns_1 e
      have hh := C
      obtain ⟨c1, c2, ⟨c3, w1, w2, w3⟩, -⟩ := hh
      have b1 := ns_b sg
      refine out_pop (x := pt) (by omega) (by rw [show (Fm 60).toInt - 1 = h + ns sg by omega]; exact w3 e) (by omega) (.inr (by omega)) (fun F' A' f g0 g1 g2 g3 g4 g6 => ?_)
      have C2 := C.pop1 (by decide) e f g1 g2 g3 g4 g6
      exact stop C2 ⟨F', A', rfl, f, C2⟩
/-- what comes out ahead of '+' and '-', and behind a term -/
theorem out_W (C : CR A0 Am0 k49 p c h D w sg pt 2 1 d F A Fm Am) (G : GBx h w) : po (d_comesOut n Fm Am Jm 0) (fun r => ∃ F' A', r = ((), F', A', Jm) ∧ FrN Fm F' Am A' ∧ CR A0 Am0 k49 p c h D w 0 0 2 1 d F A F' A') := by
  have zn := ns_0
  have stop : ∀ {n : Nat} {Fm : Nat → Int32} {Am : Nat → Nat → Int32} {Q : (Unit × (Nat → Int32) × (Nat → Nat → Int32) × (Nat → Nat → Int64)) → Prop}, CR A0 Am0 k49 p c h D w 0 0 2 1 d F A Fm Am → Q ((), Fm, Am, Jm) → po (d_comesOut_0 n Fm Am Jm 0) Q := by
    intro n Fm Am Q C k
    obtain ⟨c1, c2, ⟨c3, w1, w2, w3⟩, -⟩ := C
    refine out_stop ?_ k
    rcases G with g | g
    · exact .inl (by omega)
    · by_cases e0 : h = 0
      · exact .inl (by omega)
      · refine .inr (.inl ?_)
        rw [show (Fm 60).toInt - 1 = h - 1 by omega, w1 (h - 1) (by omega) (by omega)]
        exact g
  have two : ∀ {n : Nat} {Fm : Nat → Int32} {Am : Nat → Nat → Int32}, CR A0 Am0 k49 p c h D w sg 0 2 1 d F A Fm Am → po (d_comesOut_0 n Fm Am Jm 0) (fun r => ∃ F' A', r = ((), F', A', Jm) ∧ FrN Fm F' Am A' ∧ CR A0 Am0 k49 p c h D w 0 0 2 1 d F A F' A') := by
    intro n Fm Am C
    by_cases e : sg = 0
    · subst e
      exact stop C ⟨Fm, Am, rfl, FrN.rfl', C⟩
    · cases n with
      | zero => intro r hr; cases hr
      | succ n =>
        have n1 := ns_1 e
        have hh := C
        obtain ⟨c1, c2, ⟨c3, w1, w2, w3⟩, -⟩ := hh
        refine out_pop (x := sg) (by omega) (by rw [show (Fm 60).toInt - 1 = h by omega]; exact w2 e) (by omega) (.inl rfl) (fun F' A' f g0 g1 g2 g3 g4 g6 => ?_)
        have C2 := C.pop2 (by decide) e f g1 g2 g3 g4 g6
        exact stop C2 ⟨F', A', rfl, f, C2⟩
  unfold d_comesOut
  by_cases e : pt = 0
  · subst e
    exact two C
  · cases n with
    | zero => intro r hr; cases hr
    | succ n =>
      have n1 := ns_1 e
      have hh := C
      obtain ⟨c1, c2, ⟨c3, w1, w2, w3⟩, -⟩ := hh
      have b1 := ns_b sg
      refine out_pop (x := pt) (by omega) (by rw [show (Fm 60).toInt - 1 = h + ns sg by omega]; exact w3 e) (by omega) (.inl rfl) (fun F' A' f g0 g1 g2 g3 g4 g6 => ?_)
      have C2 := C.pop1 (by decide) e f g1 g2 g3 g4 g6
      refine po_mono (two C2) ?_
      rintro _ ⟨F2, A2, rfl, f2, C3⟩
      exact ⟨F2, A2, rfl, f.tr f2, C3⟩
end B3z
