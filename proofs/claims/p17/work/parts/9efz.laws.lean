/-! laws: what both sides have of them -/
section B6z
variable {d : Nat} {C C' L B p b q c l e last : Int} {F F' : Nat → Nat → Int32} {A A' A1 : Nat → Nat → Nat → Int32} {Fm Fm' : Nat → Int32} {Am Am' Am1 : Nat → Nat → Int32}
/-- a whole term -/
def SGT (d : Nat) (A : Nat → Nat → Nat → Int32) (Am : Nat → Nat → Int32) (p c l : Int) : Prop := SGx d A Am p c l ∧ dpm Am c l.toNat = 1
theorem SGT.fr (S : SGT d A Am p c l) (h15 : ∀ i, p ≤ i → i < p + l → ci A' d 15 i = ci A d 15 i ∧ ci A' d 16 i = ci A d 16 i) (h42 : ∀ i, c ≤ i → i < c + l → ai Am' 42 i = ai Am 42 i ∧ ai Am' 43 i = ai Am 43 i) : SGT d A' Am' p c l := by
  have hl := S.1.1
  exact ⟨S.1.fr h15 h42, by rw [dpm_rg (c := c + l) (fun i a b => (h42 i a b).1) l.toNat (by omega)]; exact S.2⟩
/-- a branch with a test: from p on to q -/
def BRx (C : Int) (d : Nat) (A : Nat → Nat → Nat → Int32) (Am : Nat → Nat → Int32) (p b q : Int) : Prop := ∃ l1 l2 l3 : Int, ai Am 36 b = 1 ∧ 0 ≤ ai Am 37 b ∧ SGT d A Am p (ai Am 37 b) l1 ∧ ai Am 38 b = ai Am 37 b + l1 ∧ SGT d A Am (p + l1) (ai Am 38 b) l2 ∧ ai Am 39 b = ai Am 38 b + l2 ∧ ci A d 15 (p + l1 + l2) = 60 ∧ ci A d 16 (p + l1 + l2) = q ∧ SGT d A Am (p + l1 + l2 + 1) (ai Am 39 b) l3 ∧ ai Am 40 b = ai Am 39 b + l3 ∧ ai Am 40 b ≤ C ∧ ci A d 15 (p + l1 + l2 + 1 + l3) = 0 ∧ q = p + l1 + l2 + 1 + l3 + 1
/-- the last branch of a law -/
def FNx (C : Int) (d : Nat) (A : Nat → Nat → Nat → Int32) (Am : Nat → Nat → Int32) (p b e : Int) : Prop := ∃ l : Int, ai Am 36 b = 0 ∧ 0 ≤ ai Am 39 b ∧ SGT d A Am p (ai Am 39 b) l ∧ ai Am 40 b = ai Am 39 b + l ∧ ai Am 40 b ≤ C ∧ ci A d 15 (p + l) = 0 ∧ e = p + l + 1
def LPx (C : Int) (d : Nat) (A : Nat → Nat → Nat → Int32) (Am : Nat → Nat → Int32) : Nat → Int → Int → Int → Prop
  | 0, p, _, q => q = p
  | n + 1, p, b, q => ∃ p1, BRx C d A Am p b p1 ∧ LPx C d A Am n p1 (b + 1) q
/-- a law -/
def LWx (C B : Int) (d : Nat) (A : Nat → Nat → Nat → Int32) (Am : Nat → Nat → Int32) (p b last e : Int) : Prop := 0 ≤ p ∧ 0 ≤ b ∧ last ≤ B ∧ ∃ (n : Nat) (q : Int), LPx C d A Am n p b q ∧ FNx C d A Am q (b + n) e ∧ last = b + n + 1
/-- the laws of the men of a house -/
def RL (s : Int) (d : Nat) (F : Nat → Nat → Int32) (A : Nat → Nat → Nat → Int32) (Fm : Nat → Int32) (Am : Nat → Nat → Int32) : Prop := 0 ≤ (F d 1304).toInt ∧ ∀ m : Int, 0 ≤ m → m < 6 → (ci A d 14 m = -1 ∧ ai Am 34 (6 * s + m) = ai Am 35 (6 * s + m)) ∨ ∃ e, LWx (Fm 56).toInt (Fm 49).toInt d A Am (ci A d 14 m) (ai Am 34 (6 * s + m)) (ai Am 35 (6 * s + m)) e ∧ e ≤ (F d 1304).toInt
/-- what lies below is as it was -/
def BLW (L C B : Int) (d : Nat) (A A' : Nat → Nat → Nat → Int32) (Am Am' : Nat → Nat → Int32) : Prop := (∀ i, 0 ≤ i → i < L → ci A' d 15 i = ci A d 15 i ∧ ci A' d 16 i = ci A d 16 i) ∧ (∀ i, 0 ≤ i → i < C → ai Am' 42 i = ai Am 42 i ∧ ai Am' 43 i = ai Am 43 i) ∧ (∀ q, 36 ≤ q → q ≤ 40 → ∀ i, 0 ≤ i → i < B → ai Am' q i = ai Am q i)
theorem BLW.rfl' : BLW L C B d A A Am Am := ⟨fun _ _ _ => ⟨rfl, rfl⟩, fun _ _ _ => ⟨rfl, rfl⟩, fun _ _ _ _ _ _ => rfl⟩
theorem BLW.tr {L' C' B' : Int} (h : BLW L C B d A A1 Am Am1) (h' : BLW L' C' B' d A1 A' Am1 Am') (hl : L ≤ L') (hc : C ≤ C') (hb : B ≤ B') : BLW L C B d A A' Am Am' :=
  ⟨fun i i0 i1 => ⟨((h'.1 i i0 (by omega)).1).trans (h.1 i i0 i1).1, ((h'.1 i i0 (by omega)).2).trans (h.1 i i0 i1).2⟩, fun i i0 i1 => ⟨((h'.2.1 i i0 (by omega)).1).trans (h.2.1 i i0 i1).1, ((h'.2.1 i i0 (by omega)).2).trans (h.2.1 i i0 i1).2⟩, fun q h1 h2 i i0 i1 => (h'.2.2 q h1 h2 i i0 (by omega)).trans (h.2.2 q h1 h2 i i0 i1)⟩
theorem BRx.lt (h : BRx C d A Am p b q) : p + 2 ≤ q := by
  obtain ⟨l1, l2, l3, -, -, s1, -, s2, -, -, -, s3, -, -, -, e⟩ := h
  have := s1.1.1
  have := s2.1.1
  have := s3.1.1
  omega
theorem BRx.fr (h : BRx C d A Am p b q) (f : BLW L C B d A A' Am Am') (p0 : 0 ≤ p) (hq : q ≤ L) (b0 : 0 ≤ b) (hb : b < B) (hc : C ≤ C') : BRx C' d A' Am' p b q := by
  obtain ⟨l1, l2, l3, t, z, s1, e1, s2, e2, k1, k2, s3, e3, le, k3, e⟩ := h
  have g1 := s1.1.1
  have g2 := s2.1.1
  have g3 := s3.1.1
  have fb : ∀ q, 36 ≤ q → q ≤ 40 → ai Am' q b = ai Am q b := fun q h1 h2 => f.2.2 q h1 h2 b b0 hb
  have fa := f.1
  have fm := f.2.1
  refine ⟨l1, l2, l3, ?_⟩
  rw [fb 36 (by decide) (by decide), fb 37 (by decide) (by decide), fb 38 (by decide) (by decide), fb 39 (by decide) (by decide), fb 40 (by decide) (by decide), (fa (p + l1 + l2) (by omega) (by omega)).1, (fa (p + l1 + l2) (by omega) (by omega)).2, (fa (p + l1 + l2 + 1 + l3) (by omega) (by omega)).1]
  exact ⟨t, z, s1.fr (fun i a b => fa i (by omega) (by omega)) (fun i a b => fm i (by omega) (by omega)), e1, s2.fr (fun i a b => fa i (by omega) (by omega)) (fun i a b => fm i (by omega) (by omega)), e2, k1, k2, s3.fr (fun i a b => fa i (by omega) (by omega)) (fun i a b => fm i (by omega) (by omega)), e3, by omega, k3, e⟩
theorem FNx.fr (h : FNx C d A Am p b e) (f : BLW L C B d A A' Am Am') (p0 : 0 ≤ p) (hq : e ≤ L) (b0 : 0 ≤ b) (hb : b < B) (hc : C ≤ C') : FNx C' d A' Am' p b e := by
  obtain ⟨l, t, z, s1, e1, le, k3, e⟩ := h
  have g1 := s1.1.1
  have fb : ∀ q, 36 ≤ q → q ≤ 40 → ai Am' q b = ai Am q b := fun q h1 h2 => f.2.2 q h1 h2 b b0 hb
  have fa := f.1
  have fm := f.2.1
  refine ⟨l, ?_⟩
  rw [fb 36 (by decide) (by decide), fb 39 (by decide) (by decide), fb 40 (by decide) (by decide), (fa (p + l) (by omega) (by omega)).1]
  exact ⟨t, z, s1.fr (fun i a b => fa i (by omega) (by omega)) (fun i a b => fm i (by omega) (by omega)), e1, by omega, k3, e⟩
theorem LPx.le : ∀ {n : Nat} {p b q : Int}, LPx C d A Am n p b q → p ≤ q
  | 0, p, b, q, h => by
    have h : q = p := h
    omega
  | n + 1, p, b, q, h => by
    obtain ⟨p1, h1, h2⟩ := h
    have := h1.lt
    have := LPx.le h2
    omega
theorem LPx.fr (f : BLW L C B d A A' Am Am') (hc : C ≤ C') : ∀ {n : Nat} {p b q : Int}, LPx C d A Am n p b q → 0 ≤ p → q ≤ L → 0 ≤ b → b + n ≤ B → LPx C' d A' Am' n p b q
  | 0, p, b, q, h, _, _, _, _ => h
  | n + 1, p, b, q, h, p0, hq, b0, hb => by
    obtain ⟨p1, h1, h2⟩ := h
    have w1 := h1.lt
    have w2 := LPx.le h2
    exact ⟨p1, h1.fr f p0 (by omega) b0 (by omega) hc, LPx.fr f hc h2 (by omega) hq (by omega) (by omega)⟩
theorem LPx.snoc : ∀ {n : Nat} {p b q q' : Int}, LPx C d A Am n p b q → BRx C d A Am q (b + n) q' → LPx C d A Am (n + 1) p b q'
  | 0, p, b, q, q', h, k => by
    have h : q = p := h
    subst h
    have e : b + ((0 : Nat) : Int) = b := by omega
    rw [e] at k
    exact ⟨q', k, rfl⟩
  | n + 1, p, b, q, q', h, k => by
    obtain ⟨p1, h1, h2⟩ := h
    have e : b + ((n + 1 : Nat) : Int) = (b + 1) + (n : Int) := by omega
    rw [e] at k
    exact ⟨p1, h1, LPx.snoc h2 k⟩
theorem LWx.fr (h : LWx C B d A Am p b last e) (f : BLW L C B d A A' Am Am') (hq : e ≤ L) (hc : C ≤ C') {B' : Int} (hb : B ≤ B') : LWx C' B' d A' Am' p b last e := by
  obtain ⟨p0, b0, hl, n, q, h1, h2, e1⟩ := h
  have w := LPx.le h1
  have qe : q + 1 ≤ e := by
    obtain ⟨l, -, -, s, -, -, -, e⟩ := h2
    have := s.1.1
    omega
  exact ⟨p0, b0, by omega, n, q, LPx.fr f hc h1 p0 (by omega) b0 (by omega), h2.fr f (by omega) hq (by omega) (by omega) hc, e1⟩
/-- laws stay, as more is written behind them -/
theorem RL.fr {s : Int} (R : RL s d F A Fm Am) (f : BLW (F d 1304).toInt (Fm 56).toInt (Fm 49).toInt d A A' Am Am') (hL : (F d 1304).toInt ≤ (F' d 1304).toInt) (hC : (Fm 56).toInt ≤ (Fm' 56).toInt) (hB : (Fm 49).toInt ≤ (Fm' 49).toInt) (h14 : A' d 14 = A d 14) (h34 : Am' 34 = Am 34) (h35 : Am' 35 = Am 35) : RL s d F' A' Fm' Am' := by
  obtain ⟨r0, r⟩ := R
  refine ⟨by omega, fun m m0 m1 => ?_⟩
  rw [ci_fr h14, ai_fr h34, ai_fr h35]
  rcases r m m0 m1 with h | ⟨e, h, he⟩
  · exact .inl h
  · exact .inr ⟨e, h.fr f he hC hB, by omega⟩
theorem RL.eq {s : Int} (R : RL s d F A Fm Am) (f : F' d 1304 = F d 1304) (h14 : A' d 14 = A d 14) (h15 : A' d 15 = A d 15) (h16 : A' d 16 = A d 16) (f56 : Fm' 56 = Fm 56) (f49 : Fm' 49 = Fm 49) (m : ∀ q, 34 ≤ q → q ≤ 43 → q ≠ 41 → Am' q = Am q) : RL s d F' A' Fm' Am' :=
  R.fr ⟨fun i _ _ => by rw [ci_fr h15, ci_fr h16]; exact ⟨rfl, rfl⟩, fun i _ _ => by rw [ai_fr (m 42 (by decide) (by decide) (by decide)), ai_fr (m 43 (by decide) (by decide) (by decide))]; exact ⟨rfl, rfl⟩, fun q h1 h2 i _ _ => by rw [ai_fr (m q (by omega) (by omega) (by omega))]⟩ (by rw [f]; exact Int.le_refl _) (by rw [f56]; exact Int.le_refl _) (by rw [f49]; exact Int.le_refl _) h14 (m 34 (by decide) (by decide) (by decide)) (m 35 (by decide) (by decide) (by decide))
/-- a law that is being told: its beginning, its branches so far -/
def LGx (n : Nat) (s p0 b0 c0 : Int) (d : Nat) (A1 : Nat → Nat → Nat → Int32) (Am1 : Nat → Nat → Int32) (F : Nat → Nat → Int32) (A : Nat → Nat → Nat → Int32) (Fm : Nat → Int32) (Am : Nat → Nat → Int32) : Prop := LPx (Fm 56).toInt d A Am n p0 b0 (F d 1304).toInt ∧ (Fm 49).toInt = b0 + n ∧ BLW p0 c0 b0 d A1 A Am1 Am ∧ A d 14 = A1 d 14 ∧ (Am 34 = Am1 34 ∧ Am 35 = Am1 35) ∧ (c0 ≤ (Fm 56).toInt ∧ 0 ≤ p0 ∧ 0 ≤ b0 ∧ 0 ≤ c0) ∧ (Fm 19).toInt = s ∧ (F d 1304).toInt + 3 ≤ (Fm 11).toInt
/-- a jump is aimed -/
theorem aim_v {P : Nat → Nat → Nat} {J : Nat → Nat → Nat → Int64} {x1 : Int32} (h0 : 0 ≤ x1.toInt) (h1 : x1.toInt < (F d 1304).toInt) : po (e_Laws_aimHere P F A J d x1) (fun r => ∃ A', r = ((), P, F, A', J) ∧ FrL d F F A A' ∧ A' d 15 = A d 15 ∧ ci A' d 16 x1.toInt = (F d 1304).toInt ∧ (∀ i, 0 ≤ i → i ≠ x1.toInt → ci A' d 16 i = ci A d 16 i)) := by
  unfold e_Laws_aimHere
  refine po_cond (fun c => ?_) (fun _ => po_cond (fun c => ?_) (fun _ => ?_))
  · rw [i_lt, i_0] at c; omega
  · rw [i_ge] at c; omega
  refine po_bl (fun A2 e2 => ?_)
  have a2 := (gg_cst e2).2.2
  exact po_some ⟨A2, rfl, ⟨fun _ _ _ => rfl, fun r o h => a2.2.2 r o (fun e => h ⟨e.1, .inr e.2⟩)⟩, a2.2.2 d 15 (fun e => absurd e.2 (by decide)), a2.1, a2.2.1⟩
end B6z
