/-! the reference reads; what holds of it between calls -/
def LGm (F : Nat → Int32) (A : Nat → Nat → Int32) : Prop := ∀ m, 0 ≤ m → m < ai A 29 (F 18).toInt → ∀ b, ai A 34 (6 * (F 18).toInt + m) ≤ b → b < ai A 35 (6 * (F 18).toInt + m) → 50 * (F 18).toInt ≤ b ∧ b < 50 * (F 18).toInt + 50 ∧ 420 * (F 18).toInt ≤ ai A 39 b ∧ ai A 40 b ≤ 420 * (F 18).toInt + 420 ∧ (ai A 36 b = 1 → 420 * (F 18).toInt ≤ ai A 37 b)
def SAm (F : Nat → Int32) (A : Nat → Nat → Int32) : Prop := IFm F ∧ IAm A ∧ VMs F A ∧ LGm F A ∧ RVm F A 47 (ai A 29 (F 18).toInt) ∧ HIm F A (ai A 29 (F 18).toInt) ∧ HEm F A (ai A 29 (F 18).toInt)
section SA
variable {F F' F0 : Nat → Int32} {A A' A0 : Nat → Nat → Int32} {J : Nat → Nat → Int64} {l s : Int} {n : Nat}
theorem dpm_rg {u c : Int} (h : ∀ i, u ≤ i → i < c → ai A' 42 i = ai A 42 i) : ∀ k : Nat, u + k ≤ c → dpm A' u k = dpm A u k
  | 0, _ => rfl
  | k + 1, hk => by
    have ih := dpm_rg h k (by omega)
    show (if ai A' 42 (u + (k : Int)) < 2 then dpm A' u k + 1 else dpm A' u k - 1) = _
    rw [ih, h (u + k) (by omega) (by omega)]
    rfl
theorem WFm.rg {u v : Int} (w : WFm A u v) (h : ∀ i, u ≤ i → i < v → ai A' 42 i = ai A 42 i ∧ ai A' 43 i = ai A 43 i) : WFm A' u v := by
  obtain ⟨a, b, c, d, e, f⟩ := w
  refine ⟨a, b, c, d, fun k h1 h2 => ?_, fun i h1 h2 h3 => ?_⟩
  · rw [dpm_rg (fun i p q => (h i p q).1) k (by omega)]
    rw [(h (u + k) (by omega) (by omega)).1] at h2
    exact e k h1 h2
  · rw [(h i h1 h2).1] at h3
    rw [(h i h1 h2).2]
    exact f i h1 h2 h3
theorem SVm.ls {t q : Int} (v : SVm F A t q) (hA : IAm A) (L : LSm (F 18).toInt A A') (r18 : 0 ≤ (F 18).toInt) (e18 : F' 18 = F 18) : SVm F' A' t q := by
  obtain ⟨a, b, c, d⟩ := v
  have b19 : 0 ≤ ai A 19 (F 18).toInt ∧ ai A 19 (F 18).toInt ≤ 6 := hA 19 _ r18
  refine ⟨a, ?_, c, ?_⟩
  · rw [e18, L 19 _ (by show 1 * _ ≤ _; omega) (by show _ < 1 * _ + 1; omega)]
    exact b
  · rw [e18, L 22 _ (by show 6 * _ ≤ _; omega) (by show _ < 6 * _ + 6; omega)]
    exact d
theorem LSm.k29 (L : LSm (F 18).toInt A A') : ai A' 29 (F 18).toInt = ai A 29 (F 18).toInt := L 29 _ (by show 1 * _ ≤ _; omega) (by show _ < 1 * _ + 1; omega)
/-- a text with a fault leaves all as it was -/
theorem SAm.keep (S : SAm F A) (hF : IFm F') (hA' : IAm A') (L : LSm (F 18).toInt A A') (e18 : F' 18 = F 18) (e74 : F' 74 = F 74) (o : ∀ q, 45 ≤ q → A' q = A q) : SAm F' A' := by
  obtain ⟨s1, hA, ⟨v1, v2, v3, v4, v5⟩, g, r, hi, he⟩ := S
  have r18 : 0 ≤ (F 18).toInt ∧ (F 18).toInt ≤ 1 := s1 18
  have e29 := L.k29
  have e12 : ai A' 12 (F 18).toInt = ai A 12 (F 18).toInt := L 12 _ (by show 1 * _ ≤ _; omega) (by show _ < 1 * _ + 1; omega)
  have e19 : ai A' 19 (F 18).toInt = ai A 19 (F 18).toInt := L 19 _ (by show 1 * _ ≤ _; omega) (by show _ < 1 * _ + 1; omega)
  have b12 : 0 ≤ ai A 12 (F 18).toInt ∧ ai A 12 (F 18).toInt ≤ 12 := hA 12 _ r18.1
  have b19 : 0 ≤ ai A 19 (F 18).toInt ∧ ai A 19 (F 18).toInt ≤ 6 := hA 19 _ r18.1
  have b29 : 0 ≤ ai A 29 (F 18).toInt ∧ ai A 29 (F 18).toInt ≤ 6 := hA 29 _ r18.1
  have sv : ∀ {t q}, SVm F A t q → SVm F' A' t q := fun v => v.ls hA L r18.1 e18
  have e34 : ∀ m, 0 ≤ m → m < 6 → ai A' 34 (6 * (F 18).toInt + m) = ai A 34 (6 * (F 18).toInt + m) := fun m h0 h1 => L 34 _ (by show 6 * _ ≤ _; omega) (by show _ < 6 * _ + 6; omega)
  have e35 : ∀ m, 0 ≤ m → m < 6 → ai A' 35 (6 * (F 18).toInt + m) = ai A 35 (6 * (F 18).toInt + m) := fun m h0 h1 => L 35 _ (by show 6 * _ ≤ _; omega) (by show _ < 6 * _ + 6; omega)
  have e50 : ∀ q, q = 36 ∨ q = 37 ∨ q = 38 ∨ q = 39 ∨ q = 40 → ∀ b, 50 * (F 18).toInt ≤ b → b < 50 * (F 18).toInt + 50 → ai A' q b = ai A q b := fun q hq b h0 h1 => by
    rcases hq with rfl | rfl | rfl | rfl | rfl <;> exact L _ _ (by show 50 * _ ≤ _; omega) (by show _ < 50 * _ + 50; omega)
  have e420 : ∀ i, 420 * (F 18).toInt ≤ i → i < 420 * (F 18).toInt + 420 → ai A' 42 i = ai A 42 i ∧ ai A' 43 i = ai A 43 i := fun i h0 h1 => ⟨L 42 _ (by show 420 * _ ≤ _; omega) (by show _ < 420 * _ + 420; omega), L 43 _ (by show 420 * _ ≤ _; omega) (by show _ < 420 * _ + 420; omega)⟩
  refine ⟨hF, hA', ?_, ?_, ?_, ?_, ?_⟩
  · unfold VMs
    rw [e18]
    refine ⟨fun d h0 h1 => ?_, fun m h0 h1 => ?_, fun t h0 h1 => ?_, fun t q h0 h1 h2 h3 => ?_, fun m h0 h1 b h2 h3 => ?_⟩
    · rw [e12] at h1
      rw [L 13 _ (by show 12 * _ ≤ _; omega) (by show _ < 12 * _ + 12; omega), L 14 _ (by show 12 * _ ≤ _; omega) (by show _ < 12 * _ + 12; omega)]
      exact v1 d h0 h1
    · rw [e29] at h1
      rw [L 30 _ (by show 6 * _ ≤ _; omega) (by show _ < 6 * _ + 6; omega)]
      exact v2 m h0 h1
    · rw [e19] at h1
      rw [L 20 _ (by show 6 * _ ≤ _; omega) (by show _ < 6 * _ + 6; omega)]
      exact v3 t h0 h1
    · rw [e19] at h1
      have b22 : 0 ≤ ai A 22 (6 * (F 18).toInt + t) ∧ ai A 22 (6 * (F 18).toInt + t) ≤ 6 := hA 22 _ (by omega)
      rw [L 22 _ (by show 6 * _ ≤ _; omega) (by show _ < 6 * _ + 6; omega)] at h3
      rw [L 28 _ (by show 36 * _ ≤ _; omega) (by show _ < 36 * _ + 36; omega)]
      exact v4 t q h0 h1 h2 h3
    · rw [e29] at h1
      rw [e34 m h0 (by omega)] at h2
      rw [e35 m h0 (by omega)] at h3
      obtain ⟨g1, g2, g3, g4, g5⟩ := g m h0 h1 b h2 h3
      have w := v5 m h0 h1 b h2 h3
      unfold LWm
      rw [e50 36 (by omega) b g1 g2, e50 37 (by omega) b g1 g2, e50 38 (by omega) b g1 g2, e50 39 (by omega) b g1 g2, e50 40 (by omega) b g1 g2]
      have w2 := w.2.2.1
      refine ⟨fun e => ?_, w.2.rg (fun i p q => e420 i (by omega) (by omega))⟩
      obtain ⟨w3, w4⟩ := w.1 e
      have w5 := w4.2.1
      have w6 := w3.2.1
      have g6 := g5 e
      exact ⟨w3.rg (fun i p q => e420 i (by omega) (by omega)), w4.rg (fun i p q => e420 i (by omega) (by omega))⟩
  · intro m h0 h1 b h2 h3
    rw [e18] at h1 h2 h3 ⊢
    rw [e29] at h1
    rw [e34 m h0 (by omega)] at h2
    rw [e35 m h0 (by omega)] at h3
    obtain ⟨g1, g2, g3, g4, g5⟩ := g m h0 h1 b h2 h3
    rw [e50 36 (by omega) b g1 g2, e50 37 (by omega) b g1 g2, e50 39 (by omega) b g1 g2, e50 40 (by omega) b g1 g2]
    exact ⟨g1, g2, g3, g4, g5⟩
  · rw [e18, e29]
    intro m h0 h1
    rw [ai_fr (o 47 (by decide))]
    exact fun h => sv (r m h0 h1 h)
  · rw [e18, e29]
    intro u h0 h1 m m0 m1
    rw [e74] at h1
    rw [ai_fr (o 57 (by decide))]
    exact fun h => sv (hi u h0 h1 m m0 m1 h)
  · rw [e18, e29]
    intro u h0 h1 h2 m m0 m1
    rw [ai_fr (o 61 (by decide))] at h2
    rw [ai_fr (o 62 (by decide))]
    exact fun h => sv (he u h0 h1 h2 m m0 m1 h)
/-- a text without a fault -/
theorem SAm.new (R : RDm l s F0 F A0 A) (hs : 0 ≤ s ∧ s ≤ 1) (z13 : (F 13).toInt = 0) (z15 : (F 15).toInt = 0) (hF : IFm F') (hA' : IAm A') (e18 : (F' 18).toInt = s) (z74 : (F' 74).toInt = 0) (o : ∀ q, q ≤ 44 → A' q = A q) (r47 : RVm F' A' 47 (ai A' 29 s)) (z61 : ∀ i, 0 ≤ i → i < 3 → ai A' 61 i = 0) : SAm F' A' := by
  obtain ⟨a1, a2, a3, a4, a5, a6, ⟨c1, c2, c3⟩, a8, a9, a10, a11, a12⟩ := R
  obtain ⟨b1, b2, b3⟩ := a9.resolve_left (by omega)
  obtain ⟨x1, x2, x3, x4⟩ := (a10.resolve_left (by omega)).resolve_left (by omega)
  have b29 : 0 ≤ ai A 29 s ∧ ai A 29 s ≤ 6 := a2 29 _ hs.1
  have b33 : 0 ≤ ai A 33 s ∧ ai A 33 s ≤ 8 := a2 33 _ hs.1
  have r11 : 0 ≤ (F 11).toInt ∧ (F 11).toInt ≤ 400 := a1 11
  have kk : ∀ q, q ≤ 44 → ai A' q = ai A q := fun q hq => ai_fr (o q hq)
  refine ⟨hF, hA', ?_, ?_, by rw [e18]; exact r47, fun u h0 h1 => absurd h1 (by omega), fun u h0 h1 h2 => absurd h2 (by rw [z61 u h0 h1]; decide)⟩
  · unfold VMs
    rw [e18]
    refine ⟨?_, ?_, ?_, ?_, fun m h0 h1 b h2 h3 => ?_⟩
    · rw [kk 12 (by decide), kk 13 (by decide), kk 14 (by decide)]
      exact x1
    · rw [kk 29 (by decide), kk 30 (by decide)]
      exact fun m h0 h1 => (x4 m h0 h1).1
    · rw [kk 19 (by decide), kk 20 (by decide)]
      exact x2
    · rw [kk 19 (by decide), kk 22 (by decide), kk 28 (by decide)]
      exact x3
    · rw [kk 29 (by decide)] at h1
      rw [kk 34 (by decide)] at h2
      rw [kk 35 (by decide)] at h3
      obtain ⟨p1, p2⟩ := b3 m h0 (by omega) b h2 h3
      exact ((b2 b p1 p2).1.fr (fun q _ h _ => o q (by omega))).1
  · intro m h0 h1 b h2 h3
    rw [e18] at h1 h2 h3 ⊢
    rw [kk 29 (by decide)] at h1
    rw [kk 34 (by decide)] at h2
    rw [kk 35 (by decide)] at h3
    obtain ⟨p1, p2⟩ := b3 m h0 (by omega) b h2 h3
    obtain ⟨⟨_, y1, y2⟩, y3⟩ := b2 b p1 p2
    rw [kk 36 (by decide), kk 37 (by decide), kk 39 (by decide), kk 40 (by decide)]
    exact ⟨p1, by omega, y1, by omega, y2⟩
theorem s_d_read_322 {P : Int32 × (Nat → Int32) × (Nat → Nat → Int32) × (Nat → Nat → Int64) → Prop} : ∀ {n : Nat} {A : Nat → Nat → Int32} {J : Nat → Nat → Int64} {x1 : Int32}, IAm A → (∀ i, 0 ≤ i → i < x1.toInt → ai A 61 i = 0) → 0 ≤ x1.toInt ∧ x1.toInt ≤ 3 → 4 - x1.toInt < (n : Int) → (∀ A' J', IAm A' → (∀ q, q ≠ 61 → A' q = A q) → (∀ i, 0 ≤ i → i < 3 → ai A' 61 i = 0) → P (0, F, A', J')) → ok (d_read_322 n F A J x1) P := by
  intro n
  induction n with
  | zero => intro A J x1 hA hz hx hn; exact absurd hn (by omega)
  | succ n ih =>
    intro A J x1 hA hz hx hn hP
    have l1 : (1 : Int32).toInt = 1 := by decide
    have l3 : (3 : Int32).toInt = 3 := by decide
    unfold d_read_322
    refine ok_cond (fun c => ?_) (fun c => ?_)
    · rw [i_ge] at c
      exact ok_some (hP A J hA (fun _ _ => rfl) (fun i h0 h1 => hz i h0 (by omega)))
    · rw [i_nge] at c
      have e := i_add (x := x1) (y := 1) (by omega) (by omega)
      refine ok_st (j := 61) hA (by omega) (by omega) (show 0 ≤ (vp_nar .boolean 0).toInt ∧ (vp_nar .boolean 0).toInt ≤ 1 by decide) ?_
      intro A2 a2 o2 s2 n2
      refine ih a2 (fun i h0 h1 => ?_) (by omega) (by omega) (fun A' J' h1 h2 h3 => hP A' J' h1 (fun q hq => (h2 q hq).trans (o2 q hq)) h3)
      by_cases z : i = x1.toInt
      · rw [z, s2]; decide
      · rw [n2 i h0 z]; exact hz i h0 (by omega)
def RPm (r : Int32 × (Nat → Int32) × (Nat → Nat → Int32) × (Nat → Nat → Int64)) : Prop := SAm r.2.1 r.2.2.1 ∧ (r.2.1 2).toInt = 0
theorem s_d_read_271 {s1 : Int32} (hs : 0 ≤ s ∧ s ≤ 1 ∧ s = 1 - l) (S : SAm F0 A0) (e0 : (F0 18).toInt = l) (h2 : (F 2).toInt = 0) (R : RDm l s F F' A0 A') (f18 : F 18 = F0 18) (f74 : F 74 = F0 74) (hn : 400 ≤ n) : ok (d_read_271 n F' A' J s1) RPm := by
  have R' := R
  obtain ⟨a1, a2, a3, a4, a5, a6, a7, a8, a9, a10, a11, a12⟩ := R'
  have r13 : 0 ≤ (F' 13).toInt ∧ (F' 13).toInt ≤ 5 := a1 13
  have r15 : 0 ≤ (F' 15).toInt ∧ (F' 15).toInt ≤ 5 := a1 15
  have l0 : (0 : Int32).toInt = 0 := by decide
  unfold d_read_271
  refine ok_pf a1 trivial ?_
  intro F3 hF3 k3 o3
  have g13 : F3 13 = F' 13 := o3 13 (by decide)
  have g15 : F3 15 = F' 15 := o3 15 (by decide)
  have g2 : F3 2 = F 2 := (o3 2 (by decide)).trans (a11 2 (by decide))
  have g18 : F3 18 = F0 18 := (o3 18 (by decide)).trans ((a11 18 (by decide)).trans f18)
  have g74 : F3 74 = F0 74 := (o3 74 (by decide)).trans ((a11 74 (by decide)).trans f74)
  have bad : ∀ {v : Int32}, ok (some (v, F3, A', J)) RPm := fun {v} => ok_some ⟨S.keep hF3 a2 (by rw [e0]; exact a6) g18 g74 a12, (show (F3 2).toInt = 0 by rw [g2]; exact h2)⟩
  refine ok_cond (fun c1 => ?_) (fun _ => bad)
  rw [i_le] at c1
  refine ok_cond (fun c2 => ?_) (fun _ => bad)
  rw [i_le] at c2
  have g19 : F3 19 = F' 19 := o3 19 (by decide)
  refine ok_pf hF3 (show 0 ≤ (F3 19).toInt ∧ (F3 19).toInt ≤ 1 from hF3 19) ?_
  intro F4 hF4 k4 o4
  have e18 : (F4 18).toInt = s := by rw [k4, g19]; exact a4
  have z13 : (F' 13).toInt = 0 := by rw [g13] at c1; omega
  have z15 : (F' 15).toInt = 0 := by rw [g15] at c2; omega
  have X := (a10.resolve_left (by omega)).resolve_left (by omega)
  refine ok_call (s_d_begins (k := ai A' 29 (F4 18).toInt) hF4 a2 rfl (by rw [e18]; exact X.2.2.2) (by omega)) ?_
  rintro ⟨u, F5, A5, J5⟩ ⟨q1, q2, q3, q4⟩
  dsimp only at q1 q2 q3 q4 ⊢
  subst q1
  refine ok_pf hF4 (show 0 ≤ (0 : Int32).toInt ∧ (0 : Int32).toInt ≤ 20 by decide) ?_
  intro F6 hF6 k6 o6
  refine ok_pf hF6 (show 0 ≤ (0 : Int32).toInt ∧ (0 : Int32).toInt ≤ 30 by decide) ?_
  intro F7 hF7 k7 o7
  refine s_d_read_322 q2 (fun i h0 h1 => absurd h1 (by omega)) (by decide) (by omega) ?_
  intro A8 J8 w1 w2 w3
  have e7 : F7 18 = F5 18 := (o7 18 (by decide)).trans (o6 18 (by decide))
  have e29 : ai A8 29 = ai A' 29 := (ai_fr (w2 29 (by decide))).trans (ai_fr (q3 29 (by decide)))
  show SAm F7 A8 ∧ (F7 2).toInt = 0
  refine ⟨SAm.new R ⟨hs.1, hs.2.1⟩ z13 z15 hF7 w1 (by rw [e7]; exact e18) (by rw [o7 74 (by decide), k6]; decide) (fun q hq => (w2 q (by omega)).trans (q3 q (by omega))) ?_ w3, ?_⟩
  · rw [e29, ← e18]
    exact q4.cg e7 (w2 19 (by decide)) (w2 22 (by decide)) (fun m _ _ => by rw [ai_fr (w2 47 (by decide))]; exact ⟨rfl, rfl⟩)
  · show (F7 2).toInt = 0
    rw [o7 2 (by decide), o6 2 (by decide), o4 2 (by decide), g2]
    exact h2
theorem s_d_read_219 (hs : 0 ≤ s ∧ s ≤ 1 ∧ s = 1 - l) (S : SAm F0 A0) (e0 : (F0 18).toInt = l) (h2 : (F 2).toInt = 0) (f18 : F 18 = F0 18) (f74 : F 74 = F0 74) : ∀ {n : Nat} {F' : Nat → Int32} {A' : Nat → Nat → Int32} {J : Nat → Nat → Int64}, RDm l s F F' A0 A' → ((1 ≤ (F' 13).toInt ∧ 500 ≤ n) ∨ 1500 - (F' 11).toInt < (n : Int)) → ok (d_read_219 n F' A' J) RPm := by
  intro n
  induction n with
  | zero =>
    intro F' A' J R hn
    have r11 : 0 ≤ (F' 11).toInt ∧ (F' 11).toInt ≤ 400 := R.1 11
    exact absurd hn (by omega)
  | succ n ih =>
    intro F' A' J R hn
    have r11 : 0 ≤ (F' 11).toInt ∧ (F' 11).toInt ≤ 400 := R.1 11
    have r13 : 0 ≤ (F' 13).toInt ∧ (F' 13).toInt ≤ 5 := R.1 13
    have l0 : (0 : Int32).toInt = 0 := by decide
    have go : ok (d_read_241 n F' A' J) RPm := by
      unfold d_read_241
      refine ok_cond (fun _ => ok_cond (fun _ => ?_) (fun _ => ?_)) (fun _ => ?_) <;> exact s_d_read_271 hs S e0 h2 R f18 f74 (by omega)
    unfold d_read_219
    refine ok_cond (fun _ => go) (fun c1 => ?_)
    rw [i_nne] at c1
    refine ok_call (s_d_is R.1 R.2.1) ?_
    intro v p
    refine ok_cond (fun _ => go) (fun c2 => ?_)
    refine ok_call (s_d_tell0 hs R (by omega) (by omega)) ?_
    rintro ⟨u, F2, A2, J2⟩ ⟨T1, T2⟩
    dsimp only at T1 T2 ⊢
    exact ih T1 (by omega)
end SA
