/-! a law is told -/
def CSm (F : Nat → Int32) (s : Int) : Prop := 420 * s ≤ (F 56).toInt ∧ (F 56).toInt ≤ 420 * s + (F 11).toInt + 1 ∧ (1 ≤ (F 13).toInt ∨ ((F 12).toInt = 0 ∧ (F 56).toInt ≤ 420 * s + (F 11).toInt))
def LUm (A : Nat → Nat → Int32) (s b : Int) : Prop := LWm A b ∧ 420 * s ≤ ai A 39 b ∧ (ai A 36 b = 1 → 420 * s ≤ ai A 37 b)
def LBm (F : Nat → Int32) (A : Nat → Nat → Int32) (s : Int) : Prop := ∀ b, 50 * s ≤ b → b < (F 49).toInt → LUm A s b ∧ ai A 40 b ≤ (F 56).toInt
def LLm (F : Nat → Int32) (A : Nat → Nat → Int32) (s : Int) : Prop := ∀ m, 0 ≤ m → m < 6 → ∀ b, ai A 34 (6 * s + m) ≤ b → b < ai A 35 (6 * s + m) → 50 * s ≤ b ∧ b < (F 49).toInt
def TMm (F : Nat → Int32) (A : Nat → Nat → Int32) (s : Int) (r : Unit × (Nat → Int32) × (Nat → Nat → Int32) × (Nat → Nat → Int64)) : Prop := IFm r.2.1 ∧ IAm r.2.2.1 ∧ (∀ q, q ∉ ([11, 12, 13, 14, 49, 56, 60] : List Nat) → r.2.1 q = F q) ∧ (∀ q, q ∉ ([39, 40, 42, 43, 44] : List Nat) → r.2.2.1 q = A q) ∧ OBm A r.2.2.1 (F 56).toInt s ∧ (∀ i, 0 ≤ i → i ≠ (F 49).toInt → ai r.2.2.1 39 i = ai A 39 i ∧ ai r.2.2.1 40 i = ai A 40 i) ∧ (F 11).toInt ≤ (r.2.1 11).toInt ∧ (1 ≤ (F 13).toInt → 1 ≤ (r.2.1 13).toInt) ∧ (r.2.1 49).toInt = (F 49).toInt + 1 ∧ CSm r.2.1 s ∧ (F 56).toInt ≤ (r.2.1 56).toInt ∧ (1 ≤ (r.2.1 13).toInt ∨ (ai r.2.2.1 39 (F 49).toInt = (F 56).toInt ∧ ai r.2.2.1 40 (F 49).toInt = (r.2.1 56).toInt ∧ WFm r.2.2.1 (F 56).toInt (r.2.1 56).toInt))
section LW
variable {F F' F0 : Nat → Int32} {A A' A0 : Nat → Nat → Int32} {J : Nat → Nat → Int64} {l s c : Int} {n : Nat}
theorem LSm.ob (h : LSm l A0 A) (o : ∀ q, q ∉ ([42, 43, 44] : List Nat) → A' q = A q) (ob : OBm A A' c s) (hc : 420 * s ≤ c) (hl : 0 ≤ l) (hs : 0 ≤ s ∧ s = 1 - l) : LSm l A0 A' := fun q p a b => by
  by_cases e : q ∈ ([42, 43, 44] : List Nat)
  · have e' : q = 42 ∨ q = 43 ∨ q = 44 := by simpa using e
    rcases e' with rfl | rfl | rfl
    · change 420 * l ≤ p at a
      change p < 420 * l + 420 at b
      rw [(ob p (by omega) (by omega)).1]
      exact h 42 p a b
    · change 420 * l ≤ p at a
      change p < 420 * l + 420 at b
      rw [(ob p (by omega) (by omega)).2]
      exact h 43 p a b
    · change 0 * l ≤ p at a
      change p < 0 * l + 0 at b
      omega
  · rw [ai_fr (o q e)]
    exact h q p a b
theorem LWm.bl {b : Int} (w : LWm A b) (h40 : ai A 40 b ≤ c) (hr : ∀ q, q = 36 ∨ q = 37 ∨ q = 38 ∨ q = 39 ∨ q = 40 → ai A' q b = ai A q b) (h : ∀ i, 0 ≤ i → i < c → ai A' 42 i = ai A 42 i ∧ ai A' 43 i = ai A 43 i) : LWm A' b := by
  unfold LWm
  rw [hr 36 (by omega), hr 37 (by omega), hr 38 (by omega), hr 39 (by omega), hr 40 (by omega)]
  have w2 := w.2.2.1
  refine ⟨fun e => ?_, w.2.bl (fun i p q => h i p (by omega))⟩
  obtain ⟨w3, w4⟩ := w.1 e
  have w5 := w4.2.1
  exact ⟨w3.bl (fun i p q => h i p (by omega)), w4.bl (fun i p q => h i p (by omega))⟩
theorem LUm.bl {b : Int} (w : LUm A s b) (h40 : ai A 40 b ≤ c) (hr : ∀ q, q = 36 ∨ q = 37 ∨ q = 38 ∨ q = 39 ∨ q = 40 → ai A' q b = ai A q b) (h : ∀ i, 0 ≤ i → i < c → ai A' 42 i = ai A 42 i ∧ ai A' 43 i = ai A 43 i) : LUm A' s b := by
  refine ⟨w.1.bl h40 hr h, ?_⟩
  rw [hr 36 (by omega), hr 37 (by omega), hr 39 (by omega)]
  exact w.2
theorem LBm.nw {r : Unit × (Nat → Int32) × (Nat → Nat → Int32) × (Nat → Nat → Int64)} (h : LBm F A s) (hs : 0 ≤ s) (T : TMm F A s r) (z : ¬ 1 ≤ (r.2.1 13).toInt) (h56 : 420 * s ≤ (F 56).toInt) (w : ai A 36 (F 49).toInt = 1 → 420 * s ≤ ai A 37 (F 49).toInt ∧ WFm A (ai A 37 (F 49).toInt) (ai A 38 (F 49).toInt) ∧ WFm A (ai A 38 (F 49).toInt) (F 56).toInt) : LBm r.2.1 r.2.2.1 s := by
  obtain ⟨t1, t2, t3, t4, t5, t6, t7, t8, t9, t10, t11, t12⟩ := T
  obtain ⟨u1, u2, u3⟩ := t12.resolve_left z
  have k36 := ai_fr (t4 36 (by decide))
  have k37 := ai_fr (t4 37 (by decide))
  have k38 := ai_fr (t4 38 (by decide))
  intro b h0 h1
  by_cases e : b = (F 49).toInt
  · subst e
    refine ⟨⟨⟨fun q => ?_, by rw [u1, u2]; exact u3⟩, by rw [u1]; exact h56, fun q => by rw [k36] at q; rw [k37]; exact (w q).1⟩, by omega⟩
    rw [k36] at q
    obtain ⟨_, w1, w2⟩ := w q
    have w3 := w2.2.1
    rw [k37, k38, u1]
    exact ⟨w1.bl (fun i p q => t5 i p (.inl (by omega))), w2.bl (fun i p q => t5 i p (.inl q))⟩
  · obtain ⟨g1, g2⟩ := h b h0 (by omega)
    refine ⟨g1.bl g2 (fun q hq => ?_) (fun i p q => t5 i p (.inl q)), by rw [(t6 b (by omega) e).2]; omega⟩
    rcases hq with rfl | rfl | rfl | rfl | rfl
    · rw [k36]
    · rw [k37]
    · rw [k38]
    · exact (t6 b (by omega) e).1
    · exact (t6 b (by omega) e).2
theorem s_d_term (hs : 0 ≤ s ∧ s ≤ 1) (hF : IFm F) (hA : IAm A) (C : CSm F s) (h49 : (F 49).toInt ≤ 99) (hn : 610 ≤ n) : ok (d_term n F A J) (TMm F A s) := by
  have r49 : 0 ≤ (F 49).toInt ∧ (F 49).toInt ≤ 100 := hF 49
  have r56 : 0 ≤ (F 56).toInt ∧ (F 56).toInt ≤ 840 := hF 56
  have r13 : 0 ≤ (F 13).toInt ∧ (F 13).toInt ≤ 5 := hF 13
  have l1 : (1 : Int32).toInt = 1 := by decide
  have l0 : (0 : Int32).toInt = 0 := by decide
  obtain ⟨C1, C2, C3⟩ := C
  unfold d_term
  refine ok_st (j := 39) hA (by omega) (by omega) (show 0 ≤ (F 56).toInt ∧ (F 56).toInt ≤ 840 from r56) ?_
  intro A1 a1 o1 s1 n1
  refine ok_cond (fun c1 => ?_) (fun c1 => ?_)
  · rw [i_ne] at c1
    unfold d_term_24
    refine ok_st (j := 40) a1 (by omega) (by omega) (show 0 ≤ (F 56).toInt ∧ (F 56).toInt ≤ 840 from r56) ?_
    intro A2 a2 o2 s2 n2
    have e := i_add (x := F 49) (y := 1) (by omega) (by omega)
    refine ok_pf hF (show 0 ≤ (F 49 + 1).toInt ∧ (F 49 + 1).toInt ≤ 100 by omega) ?_
    intro F3 hF3 k3 o3
    have g11 : F3 11 = F 11 := o3 11 (by decide)
    have g13 : F3 13 = F 13 := o3 13 (by decide)
    have g56 : F3 56 = F 56 := o3 56 (by decide)
    have z13 : 1 ≤ (F3 13).toInt := by rw [g13]; omega
    refine ok_some ⟨hF3, a2, fun q hq => o3 q (fun e => hq (by rw [e]; decide)), fun q hq => (o2 q (fun e => hq (by rw [e]; decide))).trans (o1 q (fun e => hq (by rw [e]; decide))), OBm.fr ((o2 42 (by decide)).trans (o1 42 (by decide))) ((o2 43 (by decide)).trans (o1 43 (by decide))), fun i p q => ⟨?_, ?_⟩, ?_, fun _ => z13, ?_, ⟨?_, ?_, .inl z13⟩, ?_, .inl z13⟩
    · show ai A2 39 i = _
      rw [ai_fr (o2 39 (by decide)), n1 i p q]
    · show ai A2 40 i = _
      rw [n2 i p q, ai_fr (o1 40 (by decide))]
    · show (F 11).toInt ≤ (F3 11).toInt
      rw [g11]; omega
    · show (F3 49).toInt = _
      rw [k3]; omega
    · show _ ≤ (F3 56).toInt
      rw [g56]; exact C1
    · show (F3 56).toInt ≤ 420 * s + (F3 11).toInt + 1
      rw [g56, g11]; exact C2
    · show _ ≤ (F3 56).toInt
      rw [g56]; omega
  · rw [i_nne] at c1
    refine ok_call (s_d_expression hs hF a1 ⟨C1, C2⟩ C3 hn) ?_
    rintro ⟨u, F2, A2, J2⟩ ⟨h1, h2, B, e1, e2, e3⟩
    dsimp only at h1 h2 B e1 e2 e3 ⊢
    obtain ⟨b1, b2, b3, b4, b5⟩ := B
    have g49 : F2 49 = F 49 := b1 49 (by decide)
    have q56 : 0 ≤ (F2 56).toInt ∧ (F2 56).toInt ≤ 840 := h1 56
    refine ok_st (j := 40) h2 (by rw [g49]; omega) (by rw [g49]; omega) (show 0 ≤ (F2 56).toInt ∧ (F2 56).toInt ≤ 840 from q56) ?_
    intro A3 a3 o3 s3 n3
    rw [g49] at s3 n3
    have e := i_add (x := F2 49) (y := 1) (by rw [g49]; omega) (by rw [g49]; omega)
    rw [g49] at e
    refine ok_pf h1 (show 0 ≤ (F2 49 + 1).toInt ∧ (F2 49 + 1).toInt ≤ 100 by rw [g49]; omega) ?_
    intro F3 hF3 k3 p3
    have g11 : F3 11 = F2 11 := p3 11 (by decide)
    have g13 : F3 13 = F2 13 := p3 13 (by decide)
    have g12 : F3 12 = F2 12 := p3 12 (by decide)
    have g56 : F3 56 = F2 56 := p3 56 (by decide)
    have k39 : A3 39 = A1 39 := (o3 39 (by decide)).trans (b2 39 (by decide))
    have ob : OBm A A3 (F 56).toInt s := OBm.tr (OBm.fr (o1 42 (by decide)) (o1 43 (by decide))) (b3.tr (OBm.fr (o3 42 (by decide)) (o3 43 (by decide))))
    refine ok_some ⟨hF3, a3, fun q hq => (p3 q (fun e => hq (by rw [e]; decide))).trans (b1 q (fun e => hq ((by decide : ∀ x, x ∈ ([11, 12, 13, 14, 56, 60] : List Nat) → x ∈ ([11, 12, 13, 14, 49, 56, 60] : List Nat)) q e))), fun q hq => (o3 q (fun e => hq (by rw [e]; decide))).trans ((b2 q (fun e => hq ((by decide : ∀ x, x ∈ ([42, 43, 44] : List Nat) → x ∈ ([39, 40, 42, 43, 44] : List Nat)) q e))).trans (o1 q (fun e => hq (by rw [e]; decide)))), ob, fun i p q => ⟨?_, ?_⟩, ?_, ?_, ?_, ⟨?_, ?_, ?_⟩, ?_, ?_⟩
    · show ai A3 39 i = _
      rw [ai_fr k39, n1 i p q]
    · show ai A3 40 i = _
      rw [n3 i p q, ai_fr (b2 40 (by decide)), ai_fr (o1 40 (by decide))]
    · show (F 11).toInt ≤ (F3 11).toInt
      rw [g11]; exact b4
    · show 1 ≤ (F 13).toInt → 1 ≤ (F3 13).toInt
      rw [g13]; exact b5
    · show (F3 49).toInt = _
      rw [k3, g49]; omega
    · show _ ≤ (F3 56).toInt
      rw [g56]; omega
    · show (F3 56).toInt ≤ 420 * s + (F3 11).toInt + 1
      rw [g56, g11]; exact e2
    · show 1 ≤ (F3 13).toInt ∨ ((F3 12).toInt = 0 ∧ (F3 56).toInt ≤ 420 * s + (F3 11).toInt)
      rw [g13, g12, g56, g11]; omega
    · show _ ≤ (F3 56).toInt
      rw [g56]; exact e1
    · show 1 ≤ (F3 13).toInt ∨ (ai A3 39 (F 49).toInt = (F 56).toInt ∧ ai A3 40 (F 49).toInt = (F3 56).toInt ∧ WFm A3 (F 56).toInt (F3 56).toInt)
      rw [g13, g56]
      rcases e3 with h | ⟨h, h', h''⟩
      · exact .inl h
      · exact .inr ⟨by rw [ai_fr k39]; exact s1, s3, h''.fr (o3 42 (by decide)) (o3 43 (by decide))⟩
end LW
/-- while a law is told: at a branch's head -/
def LHm (l s : Int) (F0 F : Nat → Int32) (A0 A : Nat → Nat → Int32) (k : Int) : Prop := IFm F ∧ IAm A ∧ (∀ q, q ∉ ([11, 12, 13, 14, 15, 16, 49, 56, 60] : List Nat) → F q = F0 q) ∧ (∀ q, q ∉ ([36, 37, 38, 39, 40, 42, 43, 44] : List Nat) → A q = A0 q) ∧ LSm l A0 A ∧ (F0 11).toInt ≤ (F 11).toInt ∧ (1 ≤ (F0 13).toInt → 1 ≤ (F 13).toInt) ∧ (1 ≤ (F0 15).toInt → 1 ≤ (F 15).toInt) ∧ CSm F s ∧ (F 49).toInt = (F0 49).toInt + k ∧ (1 ≤ (F 13).toInt ∨ LBm F A s)
/-- what a law leaves -/
def LPm (l s : Int) (F0 : Nat → Int32) (A0 : Nat → Nat → Int32) (r : Unit × (Nat → Int32) × (Nat → Nat → Int32) × (Nat → Nat → Int64)) : Prop := IFm r.2.1 ∧ IAm r.2.2.1 ∧ (∀ q, q ∉ ([11, 12, 13, 14, 15, 16, 49, 56, 60] : List Nat) → r.2.1 q = F0 q) ∧ (∀ q, q ∉ ([33, 34, 35, 36, 37, 38, 39, 40, 42, 43, 44] : List Nat) → r.2.2.1 q = A0 q) ∧ LSm l A0 r.2.2.1 ∧ (F0 11).toInt ≤ (r.2.1 11).toInt ∧ (1 ≤ (F0 13).toInt → 1 ≤ (r.2.1 13).toInt) ∧ (1 ≤ (F0 15).toInt → 1 ≤ (r.2.1 15).toInt) ∧ CSm r.2.1 s ∧ (1 ≤ (r.2.1 13).toInt ∨ (LBm r.2.1 r.2.2.1 s ∧ (F0 49).toInt ≤ (r.2.1 49).toInt ∧ (r.2.1 49).toInt ≤ (F0 49).toInt + 5 ∧ ai r.2.2.1 33 s = ai A0 33 s + 1 ∧ (LLm F0 A0 s → LLm r.2.1 r.2.2.1 s)))
section LH
variable {F F' F0 : Nat → Int32} {A A' A0 : Nat → Nat → Int32} {J : Nat → Nat → Int64} {l s k : Int} {n : Nat}
theorem LHm.q (h : LHm l s F0 F A0 A k) (q : QCm F F' A A') : LHm l s F0 F' A0 A' k := by
  have e := q.eq
  subst e
  obtain ⟨h1, h2, h3, h4, h5, h6, h7, h8, ⟨c1, c2, c3⟩, h10, h11⟩ := h
  obtain ⟨q1, q2, q3, q4, q5, q6, q7⟩ := q
  have g12 : F' 12 = F 12 := q3 12 (by decide)
  have g49 : F' 49 = F 49 := q3 49 (by decide)
  have g56 : F' 56 = F 56 := q3 56 (by decide)
  refine ⟨q1, h2, fun p hp => (q3 p (fun e => hp ((by decide : ∀ x, x ∈ ([11, 13, 14, 15, 16] : List Nat) → x ∈ ([11, 12, 13, 14, 15, 16, 49, 56, 60] : List Nat)) p e))).trans (h3 p hp), h4, h5, by omega, fun p => q6 (h7 p), fun p => q7 (h8 p), ⟨by rw [g56]; exact c1, by rw [g56]; omega, ?_⟩, by rw [g49]; exact h10, ?_⟩
  · rw [g12, g56]
    rcases c3 with h | h
    · exact .inl (q6 h)
    · exact .inr ⟨h.1, by omega⟩
  · rcases h11 with h | h
    · exact .inl (q6 h)
    · refine .inr (fun b p r => ?_)
      rw [g49] at r
      rw [g56]
      exact h b p r
/-- a branch's term -/
theorem lh_term (hs : 0 ≤ s ∧ s ≤ 1 ∧ s = 1 - l) (hn : 610 ≤ n) (h : LHm l s F0 F A0 A k) (hb : 50 * s ≤ (F 49).toInt ∧ (F 49).toInt ≤ 50 * s + 48)
    (w : 1 ≤ (F 13).toInt ∨ (ai A 36 (F 49).toInt = 1 → 420 * s ≤ ai A 37 (F 49).toInt ∧ WFm A (ai A 37 (F 49).toInt) (ai A 38 (F 49).toInt) ∧ WFm A (ai A 38 (F 49).toInt) (F 56).toInt)) : ok (d_term n F A J) (fun r => LHm l s F0 r.2.1 A0 r.2.2.1 (k + 1)) := by
  obtain ⟨a1, a2, a3, a4, a5, a6, a7, a8, a9, a10, a11⟩ := h
  refine ok_mono (s_d_term ⟨hs.1, hs.2.1⟩ a1 a2 a9 (by omega) hn) ?_
  rintro ⟨u2, F2, A2, J2⟩ T
  dsimp only at T ⊢
  have T' := T
  obtain ⟨t1, t2, t3, t4, t5, t6, t7, t8, t9, t10, t11, t12⟩ := T'
  dsimp only at t1 t2 t3 t4 t5 t6 t7 t8 t9 t10 t11 t12
  have L2 : LSm l A0 A2 := by
    intro j i p q
    by_cases e39 : j = 39
    · subst e39
      change 50 * l ≤ i at p
      change i < 50 * l + 50 at q
      rw [(t6 i (by omega) (by omega)).1]
      exact a5 39 i p q
    · by_cases e40 : j = 40
      · subst e40
        change 50 * l ≤ i at p
        change i < 50 * l + 50 at q
        rw [(t6 i (by omega) (by omega)).2]
        exact a5 40 i p q
      · by_cases e42 : j = 42
        · subst e42
          change 420 * l ≤ i at p
          change i < 420 * l + 420 at q
          have := a9.1
          rw [(t5 i (by omega) (by omega)).1]
          exact a5 42 i p q
        · by_cases e43 : j = 43
          · subst e43
            change 420 * l ≤ i at p
            change i < 420 * l + 420 at q
            have := a9.1
            rw [(t5 i (by omega) (by omega)).2]
            exact a5 43 i p q
          · by_cases e44 : j = 44
            · subst e44
              change 0 * l ≤ i at p
              change i < 0 * l + 0 at q
              omega
            · rw [ai_fr (t4 j (by simp [e39, e40, e42, e43, e44]))]
              exact a5 j i p q
  refine ⟨t1, t2, fun q hq => (t3 q (fun e => hq ((by decide : ∀ x, x ∈ ([11, 12, 13, 14, 49, 56, 60] : List Nat) → x ∈ ([11, 12, 13, 14, 15, 16, 49, 56, 60] : List Nat)) q e))).trans (a3 q hq), fun q hq => (t4 q (fun e => hq ((by decide : ∀ x, x ∈ ([39, 40, 42, 43, 44] : List Nat) → x ∈ ([36, 37, 38, 39, 40, 42, 43, 44] : List Nat)) q e))).trans (a4 q hq), L2, by omega, fun p => t8 (a7 p), fun p => by rw [t3 15 (by decide)]; exact a8 p, t10, by omega, ?_⟩
  by_cases z : 1 ≤ (F2 13).toInt
  · exact .inl z
  · have z1 : ¬ 1 ≤ (F 13).toInt := fun h => z (t8 h)
    exact .inr ((a11.resolve_left z1).nw hs.1 T z a9.1 (w.resolve_left z1))
/-- a branch's term behind its test -/
theorem s_d_tellLaw_116 {x1 x2 x3 : Int32} {Q : Unit × (Nat → Int32) × (Nat → Nat → Int32) × (Nat → Nat → Int64) → Prop} {K18 : (Nat → Int32) → (Nat → Nat → Int32) → (Nat → Nat → Int64) → Int32 → Int32 → Int32 → Option (Unit × (Nat → Int32) × (Nat → Nat → Int32) × (Nat → Nat → Int64))} (hs : 0 ≤ s ∧ s ≤ 1 ∧ s = 1 - l) (hn : 610 ≤ n) (h : LHm l s F0 F A0 A k) (hb : 50 * s ≤ (F 49).toInt ∧ (F 49).toInt ≤ 50 * s + 48)
    (w : 1 ≤ (F 13).toInt ∨ (ai A 36 (F 49).toInt = 1 → 420 * s ≤ ai A 37 (F 49).toInt ∧ WFm A (ai A 37 (F 49).toInt) (ai A 38 (F 49).toInt) ∧ WFm A (ai A 38 (F 49).toInt) (F 56).toInt))
    (hK : ∀ F A J, LHm l s F0 F A0 A (k + 1) → ok (K18 F A J x1 x2 x3) Q) : ok (d_tellLaw_116 K18 n F A J x1 x2 x3) Q := by
  unfold d_tellLaw_116
  refine ok_call (q_must h.1 h.2.1) ?_
  rintro ⟨u1, F1, A1, J1⟩ q1
  dsimp only at q1 ⊢
  have h1 := h.q q1
  have e := q1.eq
  subst e
  have g49 : F1 49 = F 49 := q1.2.2.1 49 (by decide)
  have g56 : F1 56 = F 56 := q1.2.2.1 56 (by decide)
  rw [← g49] at hb
  rw [← g49, ← g56] at w
  refine ok_call (lh_term hs hn h1 hb (w.imp q1.2.2.2.2.2.1 id)) ?_
  rintro ⟨u2, F2, A2, J2⟩ H2
  dsimp only at H2 ⊢
  refine ok_call (q_must H2.1 H2.2.1) ?_
  rintro ⟨u3, F3, A3, J3⟩ q3
  dsimp only at q3 ⊢
  exact hK F3 A3 J3 (H2.q q3)
/-- the last branch -/
theorem s_d_tellLaw_135 {x1 x2 : Int32} (hs : 0 ≤ s ∧ s ≤ 1 ∧ s = 1 - l) (hn : 610 ≤ n) (h19 : (F0 19).toInt = s) (h : LHm l s F0 F A0 A k) (hb : 50 * s ≤ (F0 49).toInt ∧ (F0 49).toInt ≤ 50 * s + 40) (hk : 0 ≤ k ∧ k ≤ 4) (hx1 : -1 ≤ x1.toInt ∧ x1.toInt ≤ 5) (hx2 : x2.toInt = (F0 49).toInt) (h33 : ai A0 33 s < 8) : ok (d_tellLaw_135 n F A J x1 x2) (LPm l s F0 A0) := by
  have l0 : (0 : Int32).toInt = 0 := by decide
  have l1 : (1 : Int32).toInt = 1 := by decide
  have nb : (vp_nar .boolean 0).toInt = 0 := by decide
  obtain ⟨a1, a2, a3, a4, a5, a6, a7, a8, a9, a10, a11⟩ := h
  unfold d_tellLaw_135
  refine ok_st (j := 36) a2 (by omega) (by omega) (show 0 ≤ (vp_nar .boolean 0).toInt ∧ (vp_nar .boolean 0).toInt ≤ 1 by decide) ?_
  intro A1 b1 o1 s1 n1
  have L1 : LSm l A0 A1 := a5.st (by omega) 50 rfl o1 n1 ⟨by omega, by omega⟩ (by omega)
  have H1 : LHm l s F0 F A0 A1 k := by
    refine ⟨a1, b1, a3, fun q hq => (o1 q (fun e => hq (by rw [e]; decide))).trans (a4 q hq), L1, a6, a7, a8, a9, a10, a11.imp id (fun h b p r => ?_)⟩
    obtain ⟨g1, g2⟩ := h b p r
    rw [ai_fr (o1 40 (by decide))]
    refine ⟨g1.bl g2 (fun q hq => ?_) (fun i _ _ => by rw [ai_fr (o1 42 (by decide)), ai_fr (o1 43 (by decide))]; exact ⟨rfl, rfl⟩), g2⟩
    by_cases e : q = 36
    · subst e; exact n1 b (by omega) (by omega)
    · rw [ai_fr (o1 q e)]
  refine ok_call (lh_term hs hn H1 (by omega) (.inr (fun e => absurd (s1.symm.trans e) (by rw [nb]; decide)))) ?_
  rintro ⟨u2, F2, A2, J2⟩ H2
  dsimp only at H2 ⊢
  refine ok_call (q_must H2.1 H2.2.1) ?_
  rintro ⟨u3, F3, A3, J3⟩ q3
  dsimp only at q3 ⊢
  obtain ⟨c1, c2, c3, c4, c5, c6, c7, c8, c9, c10, c11⟩ := H2.q q3
  have g19 : (F3 19).toInt = s := by rw [c3 19 (by decide)]; exact h19
  have r49 : 0 ≤ (F3 49).toInt ∧ (F3 49).toInt ≤ 100 := c1 49
  have r13 : 0 ≤ (F3 13).toInt ∧ (F3 13).toInt ≤ 5 := c1 13
  have wid : ∀ q, q ∉ ([33, 34, 35, 36, 37, 38, 39, 40, 42, 43, 44] : List Nat) → A3 q = A0 q := fun q hq => c4 q (fun e => hq ((by decide : ∀ x, x ∈ ([36, 37, 38, 39, 40, 42, 43, 44] : List Nat) → x ∈ ([33, 34, 35, 36, 37, 38, 39, 40, 42, 43, 44] : List Nat)) q e))
  have k33 : A3 33 = A0 33 := c4 33 (by decide)
  have k34 : A3 34 = A0 34 := c4 34 (by decide)
  have k35 : A3 35 = A0 35 := c4 35 (by decide)
  refine ok_cond (fun d1 => ?_) (fun d1 => ?_)
  · rw [i_le] at d1
    have lb := c11.resolve_left (by omega)
    refine ok_ld (j := 33) c2 (by omega) (by omega) ?_
    intro v ve vr
    change 0 ≤ v.toInt ∧ v.toInt ≤ 8 at vr
    rw [g19, ai_fr k33] at ve
    have e1 := i_add (x := v) (y := 1) (by omega) (by omega)
    refine ok_st (j := 33) c2 (by omega) (by omega) (show 0 ≤ (v + 1).toInt ∧ (v + 1).toInt ≤ 8 by omega) ?_
    intro A4 d2 o4 s4 n4
    rw [g19] at s4 n4
    have L4 : LSm l A0 A4 := c5.st (by omega) 1 rfl o4 n4 ⟨by omega, by omega⟩ (by omega)
    have fin : ∀ {A5}, IAm A5 → (∀ q, q ∉ ([34, 35] : List Nat) → A5 q = A4 q) → LSm l A0 A5 → (LLm F0 A0 s → LLm F3 A5 s) → LPm l s F0 A0 ((), F3, A5, J3) := by
      intro A5 f1 f2 f3 f4
      refine ⟨c1, f1, c3, fun q hq => (f2 q (fun e => hq ((by decide : ∀ x, x ∈ ([34, 35] : List Nat) → x ∈ ([33, 34, 35, 36, 37, 38, 39, 40, 42, 43, 44] : List Nat)) q e))).trans ((o4 q (fun e => hq (by rw [e]; decide))).trans (wid q hq)), f3, c6, c7, c8, c9, .inr ⟨fun b p r => ?_, ?_, ?_, ?_, f4⟩⟩
      · obtain ⟨g1, g2⟩ := lb b p r
        have kk : ∀ q, 36 ≤ q → A5 q = A3 q := fun q hq => (f2 q (by simp; omega)).trans (o4 q (by omega))
        refine ⟨g1.bl g2 (fun q hq => by rw [ai_fr (kk q (by omega))]) (fun i _ _ => by rw [show ((), F3, A5, J3).2.2.1 = A5 from rfl, ai_fr (kk 42 (by decide)), ai_fr (kk 43 (by decide))]; exact ⟨rfl, rfl⟩), ?_⟩
        show ai A5 40 b ≤ (F3 56).toInt
        rw [ai_fr (kk 40 (by decide))]
        exact g2
      · show (F0 49).toInt ≤ (F3 49).toInt
        omega
      · show (F3 49).toInt ≤ (F0 49).toInt + 5
        omega
      · show ai A5 33 s = _
        rw [ai_fr (f2 33 (by decide)), s4]; omega
    refine ok_cond (fun d3 => ?_) (fun d3 => ?_)
    · rw [i_ge] at d3
      have e2 := i_mulL (c := 6) (k := 6) (x := F3 19) (by decide) (by omega) (by omega)
      have e3 := i_add (x := 6 * F3 19) (y := x1) (by omega) (by omega)
      refine ok_st (j := 34) d2 (by omega) (by omega) (show 0 ≤ x2.toInt ∧ x2.toInt ≤ 100 by omega) ?_
      intro A5 d5 o5 s5 n5
      refine ok_st (j := 35) d5 (by omega) (by omega) (show 0 ≤ (F3 49).toInt ∧ (F3 49).toInt ≤ 100 from r49) ?_
      intro A6 d6 o6 s6 n6
      have L5 : LSm l A0 A5 := L4.st (by omega) 6 rfl o5 n5 ⟨by omega, by omega⟩ (by omega)
      have L6 : LSm l A0 A6 := L5.st (by omega) 6 rfl o6 n6 ⟨by omega, by omega⟩ (by omega)
      refine ok_some (fin d6 (fun q hq => (o6 q (fun e => hq (by rw [e]; decide))).trans (o5 q (fun e => hq (by rw [e]; decide)))) L6 (fun ll m m0 m1 b p r => ?_))
      rw [show (6 * F3 19 + x1).toInt = 6 * s + x1.toInt by omega] at s5 n5 s6 n6
      rw [ai_fr (o6 34 (by decide))] at p
      by_cases e : m = x1.toInt
      · subst e
        rw [s5] at p
        rw [s6] at r
        exact ⟨by omega, by omega⟩
      · rw [n5 _ (by omega) (by omega), ai_fr (o4 34 (by decide)), ai_fr k34] at p
        rw [n6 _ (by omega) (by omega), ai_fr (o5 35 (by decide)), ai_fr (o4 35 (by decide)), ai_fr k35] at r
        have := ll m m0 m1 b p r
        exact ⟨this.1, by omega⟩
    · refine ok_some (fin d2 (fun _ _ => rfl) L4 (fun ll m m0 m1 b p r => ?_))
      rw [ai_fr (o4 34 (by decide)), ai_fr k34] at p
      rw [ai_fr (o4 35 (by decide)), ai_fr k35] at r
      have := ll m m0 m1 b p r
      exact ⟨this.1, by omega⟩
  · rw [i_nle] at d1
    exact ok_some ⟨c1, c2, c3, wid, c5, c6, c7, c8, c9, .inl (show 1 ≤ (F3 13).toInt by omega)⟩
/-- a branch with a test -/
theorem s_d_tellLaw_44 {x1 x2 x3 : Int32} {Q : Unit × (Nat → Int32) × (Nat → Nat → Int32) × (Nat → Nat → Int64) → Prop} {K18 : (Nat → Int32) → (Nat → Nat → Int32) → (Nat → Nat → Int64) → Int32 → Int32 → Int32 → Option (Unit × (Nat → Int32) × (Nat → Nat → Int32) × (Nat → Nat → Int64))} (hs : 0 ≤ s ∧ s ≤ 1 ∧ s = 1 - l) (hn : 610 ≤ n) (h : LHm l s F0 F A0 A k) (f13 : (F 13).toInt = 0) (hb : 50 * s ≤ (F 49).toInt ∧ (F 49).toInt ≤ 50 * s + 48)
    (hK : ∀ F A J, LHm l s F0 F A0 A (k + 1) → ok (K18 F A J x1 x2 (x3 + 1)) Q) : ok (d_tellLaw_44 K18 n F A J x1 x2 x3) Q := by
  have l0 : (0 : Int32).toInt = 0 := by decide
  have nb : (vp_nar .boolean 1).toInt = 1 := by decide
  unfold d_tellLaw_44
  refine ok_cond (fun c1 => ?_) (fun c1 => absurd c1 (by rw [i_nle]; omega))
  refine ok_call (q_goesOn h.1 h.2.1) ?_
  rintro ⟨u1, F1, A1, J1⟩ q1
  dsimp only at q1 ⊢
  have h1 := h.q q1
  have e := q1.eq
  subst e
  have g49 : F1 49 = F 49 := q1.2.2.1 49 (by decide)
  rw [← g49] at hb
  obtain ⟨a1, a2, a3, a4, a5, a6, a7, a8, a9, a10, a11⟩ := h1
  have r56 : 0 ≤ (F1 56).toInt ∧ (F1 56).toInt ≤ 840 := a1 56
  refine ok_st (j := 36) a2 (by omega) (by omega) (show 0 ≤ (vp_nar .boolean 1).toInt ∧ (vp_nar .boolean 1).toInt ≤ 1 by decide) ?_
  intro A2 b2 o2 s2 n2
  refine ok_st (j := 37) b2 (by omega) (by omega) (show 0 ≤ (F1 56).toInt ∧ (F1 56).toInt ≤ 840 from r56) ?_
  intro A3 b3 o3 s3 n3
  have L2 : LSm l A0 A2 := a5.st (by omega) 50 rfl o2 n2 ⟨by omega, by omega⟩ (by omega)
  have L3 : LSm l A0 A3 := L2.st (by omega) 50 rfl o3 n3 ⟨by omega, by omega⟩ (by omega)
  refine ok_call (s_d_expression ⟨hs.1, hs.2.1⟩ a1 b3 ⟨a9.1, a9.2.1⟩ a9.2.2 hn) ?_
  rintro ⟨u4, F4, A4, J4⟩ ⟨d1, d2, ⟨e1, e2, e3, e4, e5⟩, d4, d5, d6⟩
  dsimp only at d1 d2 e1 e2 e3 e4 e5 d4 d5 d6 ⊢
  have L4 : LSm l A0 A4 := L3.ob e2 e3 a9.1 (by omega) ⟨hs.1, hs.2.2⟩
  refine ok_call (q_must d1 d2) ?_
  rintro ⟨u5, F5, A5, J5⟩ q5
  dsimp only at q5 ⊢
  have e := q5.eq
  subst e
  obtain ⟨m1, m2, m3, m4, m5, m6, m7⟩ := q5
  have p49 : F5 49 = F1 49 := (m3 49 (by decide)).trans (e1 49 (by decide))
  have p56 : F5 56 = F4 56 := m3 56 (by decide)
  have p12 : F5 12 = F4 12 := m3 12 (by decide)
  have t56 : (F5 56).toInt = (F4 56).toInt := by rw [p56]
  have z56 : 0 ≤ (F5 56).toInt ∧ (F5 56).toInt ≤ 840 := m1 56
  refine ok_st (j := 38) d2 (by rw [p49]; omega) (by rw [p49]; omega) (show 0 ≤ (F5 56).toInt ∧ (F5 56).toInt ≤ 840 from z56) ?_
  intro A6 b6 o6 s6 n6
  rw [p49] at s6 n6
  have L6 : LSm l A0 A6 := L4.st (by omega) 50 rfl o6 n6 ⟨by omega, by omega⟩ (by omega)
  have C5 : CSm F5 s := by
    refine ⟨by rw [p56]; have := a9.1; omega, by rw [p56]; omega, ?_⟩
    rw [p12, p56]
    rcases d6 with h | h
    · exact .inl (m6 h)
    · exact .inr ⟨h.2.1, by omega⟩
  have frF : ∀ q, q ∉ ([11, 12, 13, 14, 15, 16, 49, 56, 60] : List Nat) → F5 q = F0 q := fun q hq => (m3 q (fun e => hq ((by decide : ∀ x, x ∈ ([11, 13, 14, 15, 16] : List Nat) → x ∈ ([11, 12, 13, 14, 15, 16, 49, 56, 60] : List Nat)) q e))).trans ((e1 q (fun e => hq ((by decide : ∀ x, x ∈ ([11, 12, 13, 14, 56, 60] : List Nat) → x ∈ ([11, 12, 13, 14, 15, 16, 49, 56, 60] : List Nat)) q e))).trans (a3 q hq))
  have frA : ∀ q, q ∉ ([36, 37, 38, 39, 40, 42, 43, 44] : List Nat) → A6 q = A0 q := fun q hq => (o6 q (fun e => hq (by rw [e]; decide))).trans ((e2 q (fun e => hq ((by decide : ∀ x, x ∈ ([42, 43, 44] : List Nat) → x ∈ ([36, 37, 38, 39, 40, 42, 43, 44] : List Nat)) q e))).trans ((o3 q (fun e => hq (by rw [e]; decide))).trans ((o2 q (fun e => hq (by rw [e]; decide))).trans (a4 q hq))))
  have x11 : (F0 11).toInt ≤ (F5 11).toInt := by omega
  have x13 : 1 ≤ (F0 13).toInt → 1 ≤ (F5 13).toInt := fun h => m6 (e5 (a7 h))
  have x15 : 1 ≤ (F0 15).toInt → 1 ≤ (F5 15).toInt := fun h => m7 (by rw [e1 15 (by decide)]; exact a8 h)
  have r13 : 0 ≤ (F5 13).toInt ∧ (F5 13).toInt ≤ 5 := m1 13
  refine ok_cond (fun c2 => ?_) (fun c2 => ?_)
  · rw [i_ne] at c2
    have z13 : 1 ≤ (F5 13).toInt := by omega
    exact s_d_tellLaw_116 hs hn ⟨m1, b6, frF, frA, L6, x11, x13, x15, C5, by rw [p49]; exact a10, .inl z13⟩ (by rw [p49]; exact hb) (.inl z13) hK
  · rw [i_nne] at c2
    have f4 : ¬ 1 ≤ (F4 13).toInt := fun h => absurd (m6 h) (by omega)
    have f1 : ¬ 1 ≤ (F1 13).toInt := fun h => f4 (e5 h)
    obtain ⟨w1, w2, w3⟩ := d6.resolve_left f4
    refine ok_call (s_d_expression ⟨hs.1, hs.2.1⟩ m1 b6 ⟨C5.1, C5.2.1⟩ C5.2.2 hn) ?_
    rintro ⟨u7, F7, A7, J7⟩ ⟨v1, v2, ⟨y1, y2, y3, y4, y5⟩, v4, v5, v6⟩
    dsimp only at v1 v2 y1 y2 y3 y4 y5 v4 v5 v6 ⊢
    have p7 : F7 49 = F1 49 := (y1 49 (by decide)).trans p49
    have k36 : A7 36 = A2 36 := (y2 36 (by decide)).trans ((o6 36 (by decide)).trans ((e2 36 (by decide)).trans (o3 36 (by decide))))
    have k37 : A7 37 = A3 37 := (y2 37 (by decide)).trans ((o6 37 (by decide)).trans (e2 37 (by decide)))
    have k38 : A7 38 = A6 38 := y2 38 (by decide)
    have z1 : ai A7 37 (F1 49).toInt = (F1 56).toInt := by rw [ai_fr k37]; exact s3
    have z2 : ai A7 38 (F1 49).toInt = (F5 56).toInt := by rw [ai_fr k38]; exact s6
    have ob1 : OBm A1 A7 (F1 56).toInt s := OBm.tr (OBm.fr ((o3 42 (by decide)).trans (o2 42 (by decide))) ((o3 43 (by decide)).trans (o2 43 (by decide)))) (e3.tr (OBm.tr (OBm.fr (o6 42 (by decide)) (o6 43 (by decide))) (fun i p q => y3 i p (by omega))))
    have W : 1 ≤ (F7 13).toInt ∨ (ai A7 36 (F7 49).toInt = 1 → 420 * s ≤ ai A7 37 (F7 49).toInt ∧ WFm A7 (ai A7 37 (F7 49).toInt) (ai A7 38 (F7 49).toInt) ∧ WFm A7 (ai A7 38 (F7 49).toInt) (F7 56).toInt) := by
      rcases v6 with h | ⟨_, _, h⟩
      · exact .inl h
      · refine .inr (fun _ => ?_)
        rw [p7, z1, z2]
        refine ⟨a9.1, ?_, h⟩
        rw [p56]
        exact (w3.fr (o6 42 (by decide)) (o6 43 (by decide))).bl (fun i p q => y3 i p (.inl (by rw [p56]; exact q)))
    have H7 : LHm l s F0 F7 A0 A7 k := by
      refine ⟨v1, v2, fun q hq => (y1 q (fun e => hq ((by decide : ∀ x, x ∈ ([11, 12, 13, 14, 56, 60] : List Nat) → x ∈ ([11, 12, 13, 14, 15, 16, 49, 56, 60] : List Nat)) q e))).trans (frF q hq), fun q hq => (y2 q (fun e => hq ((by decide : ∀ x, x ∈ ([42, 43, 44] : List Nat) → x ∈ ([36, 37, 38, 39, 40, 42, 43, 44] : List Nat)) q e))).trans (frA q hq), L6.ob y2 y3 C5.1 (by omega) ⟨hs.1, hs.2.2⟩, by omega, fun h => y5 (x13 h), fun h => by rw [y1 15 (by decide)]; exact x15 h, ⟨by have := C5.1; omega, v5, ?_⟩, by rw [p7]; exact a10, ?_⟩
      · rcases v6 with h | h
        · exact .inl h
        · exact .inr ⟨h.2.1, h.1⟩
      · refine .inr (fun b p r => ?_)
        rw [p7] at r
        obtain ⟨g1, g2⟩ := (a11.resolve_left f1) b p r
        have k39 : A7 39 = A1 39 := (y2 39 (by decide)).trans ((o6 39 (by decide)).trans ((e2 39 (by decide)).trans ((o3 39 (by decide)).trans (o2 39 (by decide)))))
        have k40 : A7 40 = A1 40 := (y2 40 (by decide)).trans ((o6 40 (by decide)).trans ((e2 40 (by decide)).trans ((o3 40 (by decide)).trans (o2 40 (by decide)))))
        refine ⟨g1.bl g2 (fun q hq => ?_) (fun i p q => ob1 i p (.inl q)), by rw [ai_fr k40]; rw [p56] at v4; omega⟩
        rcases hq with rfl | rfl | rfl | rfl | rfl
        · rw [ai_fr k36]; exact n2 b (by omega) (by omega)
        · rw [ai_fr k37, n3 b (by omega) (by omega), ai_fr (o2 37 (by decide))]
        · rw [ai_fr k38, n6 b (by omega) (by omega), ai_fr (e2 38 (by decide)), ai_fr (o3 38 (by decide)), ai_fr (o2 38 (by decide))]
        · rw [ai_fr k39]
        · rw [ai_fr k40]
    exact s_d_tellLaw_116 hs hn H7 (by rw [p7]; exact hb) W hK
theorem s_d_tellLaw_18 {x1 x2 : Int32} (hs : 0 ≤ s ∧ s ≤ 1 ∧ s = 1 - l) (h19 : (F0 19).toInt = s) (hb : 50 * s ≤ (F0 49).toInt ∧ (F0 49).toInt ≤ 50 * s + 40) (hx1 : -1 ≤ x1.toInt ∧ x1.toInt ≤ 5) (hx2 : x2.toInt = (F0 49).toInt) (h33 : ai A0 33 s < 8) : ∀ {n : Nat} {F : Nat → Int32} {A : Nat → Nat → Int32} {J : Nat → Nat → Int64} {x3 : Int32}, LHm l s F0 F A0 A x3.toInt → 0 ≤ x3.toInt ∧ x3.toInt ≤ 4 → 620 - x3.toInt < (n : Int) → ok (d_tellLaw_18 n F A J x1 x2 x3) (LPm l s F0 A0) := by
  intro n
  induction n with
  | zero =>
    intro F A J x3 h hx hn
    exact absurd hn (by omega)
  | succ n ih =>
    intro F A J x3 h hx hn
    have l0 : (0 : Int32).toInt = 0 := by decide
    have l1 : (1 : Int32).toInt = 1 := by decide
    have l4 : (4 : Int32).toInt = 4 := by decide
    have go : ok (d_tellLaw_135 n F A J x1 x2) (LPm l s F0 A0) := s_d_tellLaw_135 hs (by omega) h19 h hb hx hx1 hx2 h33
    have e := i_add (x := x3) (y := 1) (by omega) (by omega)
    unfold d_tellLaw_18
    refine ok_cond (fun _ => go) (fun c1 => ?_)
    rw [i_nne] at c1
    refine ok_call (s_d_is h.1 h.2.1) ?_
    intro v p
    refine ok_cond (fun _ => go) (fun c2 => ?_)
    refine ok_cond (fun c3 => ?_) (fun c3 => ?_)
    · rw [i_ne] at c3
      have hk := h.2.2.2.2.2.2.2.2.2.1
      exact s_d_tellLaw_44 hs (by omega) h (by omega) (by omega) (fun F A J H => ih (by rw [e, l1]; exact H) (by omega) (by omega))
    · refine ok_call (q_fail h.1 h.2.1 (by decide)) ?_
      rintro ⟨u, F2, A2, J2⟩ ⟨q, q13⟩
      dsimp only at q q13 ⊢
      refine ok_cond (fun c4 => absurd c4 ?_) (fun _ => ?_)
      · rw [i_le]; omega
      · obtain ⟨d1, d2, d3, d4, d5, d6, d7, d8, d9, d10, d11⟩ := h.q q
        exact ok_some ⟨d1, d2, d3, fun q hq => d4 q (fun e => hq ((by decide : ∀ x, x ∈ ([36, 37, 38, 39, 40, 42, 43, 44] : List Nat) → x ∈ ([33, 34, 35, 36, 37, 38, 39, 40, 42, 43, 44] : List Nat)) q e)), d5, d6, d7, d8, d9, .inl q13⟩
theorem s_d_tellLaw (hs : 0 ≤ s ∧ s ≤ 1 ∧ s = 1 - l) (hF : IFm F) (hA : IAm A) (hn : 630 ≤ n) (N : NCm F A) (h19 : (F 19).toInt = s) (C : CSm F s) (hb : 50 * s ≤ (F 49).toInt ∧ (F 49).toInt ≤ 50 * s + 40) (h33 : ai A 33 s < 8) (hB : 1 ≤ (F 13).toInt ∨ LBm F A s) : ok (d_tellLaw n F A J) (LPm l s F A) := by
  have r29 : 0 ≤ ai A 29 (F 19).toInt ∧ ai A 29 (F 19).toInt ≤ 6 := hA 29 _ (by omega)
  have l3 : (3 : Int32).toInt = 3 := by decide
  unfold d_tellLaw
  refine ok_call (q_known hF hA (by omega) N.1 (by decide)) ?_
  rintro ⟨v, F2, A2, J2⟩ ⟨q2, w1, w2, w3⟩
  dsimp only at q2 w1 w2 w3 ⊢
  refine ok_call (q_must q2.1 q2.2.1) ?_
  rintro ⟨u, F3, A3, J3⟩ q3
  dsimp only at q3 ⊢
  have q := q2.tr q3
  have H0 : LHm l s F F A A 0 := ⟨hF, hA, fun _ _ => rfl, fun _ _ => rfl, LSm.rfl' l A, Int.le_refl _, id, id, C, by omega, hB⟩
  exact s_d_tellLaw_18 hs h19 hb ⟨w1, by omega⟩ (by rw [q.2.2.1 49 (by decide)]) h33 (H0.q q) (by decide) (by have h0 : (0 : Int32).toInt = 0 := (by decide); omega)
end LH
