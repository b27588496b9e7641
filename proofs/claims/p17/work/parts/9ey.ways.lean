/-! ways: both sides' rows of shortest ways, side by side (the class over the house's rooms, the reference over eight) -/
section H9ey
variable {r : Int} {d : Nat} {P : Nat → Nat → Nat} {F : Nat → Nat → Int32} {A A' : Nat → Nat → Nat → Int32} {J : Nat → Nat → Nat → Int64} {Fm : Nat → Int32} {Am Am' : Nat → Nat → Int32} {Jm : Nat → Nat → Int64} {a b x v y f t : Int32}
def mx (Am : Nat → Nat → Int32) (i j : Int) : Int := ai Am 49 (8 * i + j)
def cx (A : Nat → Nat → Nat → Int32) (i j : Int) : Int := ci A 36 2 (i * 8 + j)
theorem w_ix (a0 : 0 ≤ a.toInt) (a1 : a.toInt < 8) (b0 : 0 ≤ b.toInt) (b1 : b.toInt < 8) : (8 * a + b).toInt = 8 * a.toInt + b.toInt := by
  have m8 := i_mulL (c := 8) (k := 8) (x := a) (by decide) (by omega) (by omega)
  rw [i_add (by omega) (by omega), m8]
theorem w_jx (a0 : 0 ≤ a.toInt) (a1 : a.toInt < 8) (b0 : 0 ≤ b.toInt) (b1 : b.toInt < 8) : (a * 8 + b).toInt = a.toInt * 8 + b.toInt := by
  have m8 := i_mulR (c := 8) (k := 8) (x := a) (by decide) (by omega) (by omega)
  rw [i_add (by omega) (by omega), m8]
theorem mx_ld (h : m_ld (Am 49) 64 (8 * a + b) = some v) (a0 : 0 ≤ a.toInt) (a1 : a.toInt < 8) (b0 : 0 ≤ b.toInt) (b1 : b.toInt < 8) : v.toInt = mx Am a.toInt b.toInt := by
  rw [(gg_ld h).2.2, w_ix a0 a1 b0 b1]
  rfl
theorem cx_ld (h : m_ld (A 36 2) 64 (a * 8 + b) = some v) (a0 : 0 ≤ a.toInt) (a1 : a.toInt < 8) (b0 : 0 ≤ b.toInt) (b1 : b.toInt < 8) : v.toInt = cx A a.toInt b.toInt := by
  rw [(gg_ld h).2.2, w_jx a0 a1 b0 b1]
  rfl
theorem mx_st (h : m_st Am 49 64 (8 * a + b) x = some Am') (a0 : 0 ≤ a.toInt) (a1 : a.toInt < 8) (b0 : 0 ≤ b.toInt) (b1 : b.toInt < 8) : mx Am' a.toInt b.toInt = x.toInt ∧ ∀ i j : Int, 0 ≤ i → i < 8 → 0 ≤ j → j < 8 → ¬ (i = a.toInt ∧ j = b.toInt) → mx Am' i j = mx Am i j := by
  have g := gg_st h
  rw [w_ix a0 a1 b0 b1] at g
  exact ⟨g.2.2.2.1, fun i j i0 i1 j0 j1 hn => g.2.2.2.2 (8 * i + j) (by omega) (by omega)⟩
theorem cx_st (h : c_st A 36 2 64 (a * 8 + b) x = some A') (a0 : 0 ≤ a.toInt) (a1 : a.toInt < 8) (b0 : 0 ≤ b.toInt) (b1 : b.toInt < 8) : cx A' a.toInt b.toInt = x.toInt ∧ ∀ i j : Int, 0 ≤ i → i < 8 → 0 ≤ j → j < 8 → ¬ (i = a.toInt ∧ j = b.toInt) → cx A' i j = cx A i j := by
  have g := (gg_cst h).2.2
  rw [w_jx a0 a1 b0 b1] at g
  exact ⟨g.1, fun i j i0 i1 j0 j1 hn => g.2.1 (i * 8 + j) (by omega) (by omega)⟩
/-- the reference's row: in bounds, and idle beyond the rooms -/
def WIx (r : Int) (Am : Nat → Nat → Int32) : Prop := ∀ i j : Int, 0 ≤ i → i < 8 → 0 ≤ j → j < 8 → (0 ≤ mx Am i j ∧ mx Am i j ≤ 1000000) ∧ (r ≤ i ∨ r ≤ j → mx Am i j = if i = j then 0 else 1000000)
/-- both rows agree on the rooms -/
def WWx (r : Int) (A : Nat → Nat → Nat → Int32) (Am : Nat → Nat → Int32) : Prop := WIx r Am ∧ ∀ i j : Int, 0 ≤ i → i < r → 0 ≤ j → j < r → cx A i j = mx Am i j
theorem WIx.idle (w : WIx r Am) {i k j : Int} (i0 : 0 ≤ i) (i1 : i < 8) (k0 : 0 ≤ k) (k1 : k < 8) (j0 : 0 ≤ j) (j1 : j < 8) (h : r ≤ i ∨ r ≤ k ∨ r ≤ j ∨ mx Am i k = 1000000) : mx Am i j ≤ mx Am i k + mx Am k j := by
  have a := w i k i0 i1 k0 k1
  have b := w k j k0 k1 j0 j1
  have c := w i j i0 i1 j0 j1
  have a1 := a.1
  have b1 := b.1
  have c1 := c.1
  by_cases e : i = k
  · subst e
    omega
  · by_cases e2 : k = j
    · subst e2
      omega
    · rcases h with h | h | h | h
      · have := a.2 (.inl h)
        rw [if_neg e] at this
        omega
      · have := a.2 (.inr h)
        rw [if_neg e] at this
        omega
      · have := b.2 (.inr h)
        rw [if_neg e2] at this
        omega
      · omega
theorem WWx.st (w : WWx r A Am) (hr : r ≤ 8) (a0 : 0 ≤ a.toInt) (a1 : a.toInt < r) (b0 : 0 ≤ b.toInt) (b1 : b.toInt < r) {u : Int32} (e : x.toInt = u.toInt) (u0 : 0 ≤ u.toInt) (u1 : u.toInt ≤ 1000000) (h : c_st A 36 2 64 (a * 8 + b) x = some A') (h' : m_st Am 49 64 (8 * a + b) u = some Am') : WWx r A' Am' := by
  have g := cx_st h a0 (by omega) b0 (by omega)
  have g' := mx_st h' a0 (by omega) b0 (by omega)
  refine ⟨fun i j i0 i1 j0 j1 => ?_, fun i j i0 i1 j0 j1 => ?_⟩
  · by_cases c : i = a.toInt ∧ j = b.toInt
    · obtain ⟨rfl, rfl⟩ := c
      rw [g'.1]
      exact ⟨⟨u0, u1⟩, fun h => by omega⟩
    · rw [g'.2 i j i0 i1 j0 j1 c]
      exact w.1 i j i0 i1 j0 j1
  · by_cases c : i = a.toInt ∧ j = b.toInt
    · obtain ⟨rfl, rfl⟩ := c
      rw [g'.1, g.1, e]
    · rw [g'.2 i j i0 (by omega) j0 (by omega) c, g.2 i j i0 (by omega) j0 (by omega) c]
      exact w.2 i j i0 i1 j0 j1
/-! the reference alone, where nothing changes -/
section W9
variable {α : Type} {z : Option α} {Q : α → mR Unit → Prop} {K170 : (Nat → Int32) → (Nat → Nat → Int32) → (Nat → Nat → Int64) → Int32 → Option (mR Unit)} {K178 : (Nat → Int32) → (Nat → Nat → Int32) → (Nat → Nat → Int64) → Int32 → Int32 → Option (mR Unit)}
theorem r_186 : ∀ {m : Nat} {t : Int32}, 0 ≤ y.toInt → y.toInt < 8 → 0 ≤ f.toInt → f.toInt < 8 → 0 ≤ t.toInt → WIx r Am → (∀ j : Int, t.toInt ≤ j → j < 8 → mx Am f.toInt j ≤ mx Am f.toInt y.toInt + mx Am y.toInt j) → P2 z (K178 Fm Am Jm y (f + 1)) Q → P2 z (d_fillsWays_186 K170 K178 m Fm Am Jm y f t) Q := by
  have l8 : (8 : Int32).toInt = 8 := by decide
  intro m
  induction m with
  | zero => intro t _ _ _ _ _ _ _ _ a b _ hb; cases hb
  | succ m ih =>
    intro t y0 y1 f0 f1 t0 w hi k
    unfold d_fillsWays_186
    refine p2_cr (fun _ => k) (fun c => ?_)
    rw [i_nge, l8] at c
    refine p2_br (fun v20 h20 => p2_br (fun v21 h21 => p2_br (fun v22 h22 => ?_)))
    have e20 := mx_ld h20 f0 f1 y0 y1
    have e21 := mx_ld h21 y0 y1 t0 c
    have e22 := mx_ld h22 f0 f1 t0 c
    have b20 := (w f.toInt y.toInt f0 f1 y0 y1).1
    have b21 := (w y.toInt t.toInt y0 y1 t0 c).1
    have s := i_add (x := v20) (y := v21) (by omega) (by omega)
    have ht := hi t.toInt (by omega) c
    have et := i_add (x := t) (y := 1) (by rw [i_1]; omega) (by rw [i_1]; omega)
    rw [i_1] at et
    refine p2_cr (fun _ => ?_) (fun c2 => ?_)
    · unfold d_fillsWays_263
      exact ih y0 y1 f0 f1 (by omega) w (fun j h1 h2 => hi j (by omega) h2) k
    · rw [i_nge] at c2
      omega
theorem r_178 : ∀ {m : Nat} {f : Int32}, 0 ≤ y.toInt → y.toInt < 8 → 0 ≤ f.toInt → WIx r Am → (r ≤ f.toInt ∨ r ≤ y.toInt) → P2 z (K170 Fm Am Jm (y + 1)) Q → P2 z (d_fillsWays_178 K170 m Fm Am Jm y f) Q := by
  have l8 : (8 : Int32).toInt = 8 := by decide
  intro m
  induction m with
  | zero => intro f _ _ _ _ _ _ a b _ hb; cases hb
  | succ m ih =>
    intro f y0 y1 f0 w h k
    unfold d_fillsWays_178
    refine p2_cr (fun _ => k) (fun c => ?_)
    rw [i_nge, l8] at c
    have ef := i_add (x := f) (y := 1) (by rw [i_1]; omega) (by rw [i_1]; omega)
    rw [i_1] at ef
    exact r_186 y0 y1 f0 c (by decide) w (fun j h1 h2 => w.idle f0 c y0 y1 (by rw [i_0] at h1; exact h1) h2 (h.elim .inl (fun h => .inr (.inl h)))) (ih y0 y1 (by omega) w (h.imp (fun h => by omega) id) k)
theorem r_170 {a : α} (q : Q a ((), Fm, Am, Jm)) : ∀ {m : Nat} {y : Int32}, 0 ≤ y.toInt → WIx r Am → r ≤ y.toInt → P2 (some a) (d_fillsWays_170 m Fm Am Jm y) Q := by
  have l8 : (8 : Int32).toInt = 8 := by decide
  intro m
  induction m with
  | zero => intro y _ _ _ a b _ hb; cases hb
  | succ m ih =>
    intro y y0 w h
    unfold d_fillsWays_170
    refine p2_cr (fun _ => p2_some q) (fun c => ?_)
    rw [i_nge, l8] at c
    have ey := i_add (x := y) (y := 1) (by rw [i_1]; omega) (by rw [i_1]; omega)
    rw [i_1] at ey
    exact r_178 y0 c (by decide) w (.inr h) (ih (by omega) w (by omega))
end W9
/-! both at once: the ways are joined -/
section W9b
variable {x1 : Int32} {Q : cR Unit → mR Unit → Prop} {K2 : (Nat → Nat → Nat) → (Nat → Nat → Int32) → (Nat → Nat → Nat → Int32) → (Nat → Nat → Nat → Int64) → Int32 → Int32 → Option (cR Unit)} {K9 : (Nat → Nat → Nat) → (Nat → Nat → Int32) → (Nat → Nat → Nat → Int32) → (Nat → Nat → Nat → Int64) → Int32 → Int32 → Int32 → Option (cR Unit)} {K170 : (Nat → Int32) → (Nat → Nat → Int32) → (Nat → Nat → Int64) → Int32 → Option (mR Unit)} {K178 : (Nat → Int32) → (Nat → Nat → Int32) → (Nat → Nat → Int64) → Int32 → Int32 → Option (mR Unit)}
theorem p2_30 (hr : r ≤ 8) (hx : x1.toInt = r) (y0 : 0 ≤ y.toInt) (y1 : y.toInt < r) (f0 : 0 ≤ f.toInt) (f1 : f.toInt < r) (kk : ∀ {A : Nat → Nat → Nat → Int32} {Am : Nat → Nat → Int32}, WWx r A Am → P2 (K9 P F A J x1 y (f + 1)) (K178 Fm Am Jm y (f + 1)) Q) : ∀ {n m : Nat} {A : Nat → Nat → Nat → Int32} {Am : Nat → Nat → Int32} {t : Int32}, WWx r A Am → 0 ≤ t.toInt → v.toInt = mx Am f.toInt y.toInt → P2 (e_Ways_joinWays_30 K2 K9 n P F A J x1 y f v t) (d_fillsWays_186 K170 K178 m Fm Am Jm y f t) Q := by
  have l8 : (8 : Int32).toInt = 8 := by decide
  have lM : (1000000 : Int32).toInt = 1000000 := by decide
  intro n
  induction n with
  | zero => intro m A Am t _ _ _ a b ha; cases ha
  | succ n ih =>
    intro m A Am t w t0 ev
    have bv := (w.1 f.toInt y.toInt f0 (by omega) y0 (by omega)).1
    unfold e_Ways_joinWays_30
    refine p2_cl (fun c => ?_) (fun c => ?_)
    · rw [i_ge, hx] at c
      unfold e_Ways_joinWays_97
      exact r_186 y0 (by omega) f0 (by omega) t0 w.1 (fun j h1 h2 => w.1.idle f0 (by omega) y0 (by omega) (by omega) h2 (.inr (.inr (.inl (by omega))))) (kk w)
    rw [i_nge, hx] at c
    refine p2_cl (fun c2 => ?_) (fun c2 => ?_)
    · rw [i_ge, lM] at c2
      unfold e_Ways_joinWays_97
      exact r_186 y0 (by omega) f0 (by omega) t0 w.1 (fun j h1 h2 => w.1.idle f0 (by omega) y0 (by omega) (by omega) h2 (.inr (.inr (.inr (by omega))))) (kk w)
    rw [i_nge, lM] at c2
    cases m with
    | zero => intro a b _ hb; cases hb
    | succ m =>
      unfold d_fillsWays_186
      refine p2_cr (fun c3 => ?_) (fun _ => ?_)
      · rw [i_ge, l8] at c3
        omega
      refine p2_bl (fun v6 h6 => p2_bl (fun v7 h7 => ?_))
      refine p2_br (fun v20 h20 => p2_br (fun v21 h21 => p2_br (fun v22 h22 => ?_)))
      have e6 := (cx_ld h6 y0 (by omega) t0 (by omega)).trans (w.2 y.toInt t.toInt y0 y1 t0 c)
      have e7 := (cx_ld h7 f0 (by omega) t0 (by omega)).trans (w.2 f.toInt t.toInt f0 f1 t0 c)
      have e20 := mx_ld h20 f0 (by omega) y0 (by omega)
      have e21 := mx_ld h21 y0 (by omega) t0 (by omega)
      have e22 := mx_ld h22 f0 (by omega) t0 (by omega)
      have b21 := (w.1 y.toInt t.toInt y0 (by omega) t0 (by omega)).1
      have b22 := (w.1 f.toInt t.toInt f0 (by omega) t0 (by omega)).1
      have s1 := i_add (x := v) (y := v6) (by omega) (by omega)
      have s2 := i_add (x := v20) (y := v21) (by omega) (by omega)
      have et := i_add (x := t) (y := 1) (by rw [i_1]; omega) (by rw [i_1]; omega)
      rw [i_1] at et
      refine p2_cl (fun d1 => ?_) (fun d1 => ?_)
      · rw [i_ge] at d1
        refine p2_cr (fun _ => ?_) (fun d2 => ?_)
        · unfold e_Ways_joinWays_91 d_fillsWays_263
          exact ih w (by omega) ev
        · rw [i_nge] at d2
          omega
      · rw [i_nge] at d1
        refine p2_cr (fun d2 => ?_) (fun _ => ?_)
        · rw [i_ge] at d2
          omega
        · refine p2_bl (fun A9 h9 => ?_)
          refine p2_br (fun v24 h24 => p2_br (fun v25 h25 => p2_br (fun A26 h26 => ?_)))
          have e24 := mx_ld h24 f0 (by omega) y0 (by omega)
          have e25 := mx_ld h25 y0 (by omega) t0 (by omega)
          have s3 := i_add (x := v24) (y := v25) (by omega) (by omega)
          refine ih (w.st hr f0 f1 t0 c (by omega) (by omega) (by omega) h9 h26) (by omega) ?_
          have ne : ¬ (f.toInt = f.toInt ∧ y.toInt = t.toInt) := by
            rintro ⟨-, e⟩
            rw [e, ← e7] at ev
            omega
          rw [(mx_st h26 f0 (by omega) t0 (by omega)).2 f.toInt y.toInt f0 (by omega) y0 (by omega) ne]
          exact ev
theorem p2_9 (hr : r ≤ 8) (hx : x1.toInt = r) (y0 : 0 ≤ y.toInt) (y1 : y.toInt < r) (kk : ∀ {A : Nat → Nat → Nat → Int32} {Am : Nat → Nat → Int32}, WWx r A Am → P2 (K2 P F A J x1 (y + 1)) (K170 Fm Am Jm (y + 1)) Q) : ∀ {n m : Nat} {A : Nat → Nat → Nat → Int32} {Am : Nat → Nat → Int32} {f : Int32}, WWx r A Am → 0 ≤ f.toInt → P2 (e_Ways_joinWays_9 K2 n P F A J x1 y f) (d_fillsWays_178 K170 m Fm Am Jm y f) Q := by
  have l8 : (8 : Int32).toInt = 8 := by decide
  intro n
  induction n with
  | zero => intro m A Am f _ _ a b ha; cases ha
  | succ n ih =>
    intro m A Am f w f0
    unfold e_Ways_joinWays_9
    refine p2_cl (fun c => ?_) (fun c => ?_)
    · rw [i_ge, hx] at c
      exact r_178 y0 (by omega) f0 w.1 (.inl c) (kk w)
    rw [i_nge, hx] at c
    refine p2_bl (fun v3 h3 => ?_)
    have e3 := (cx_ld h3 f0 (by omega) y0 (by omega)).trans (w.2 f.toInt y.toInt f0 c y0 y1)
    cases m with
    | zero => intro a b _ hb; cases hb
    | succ m =>
      unfold d_fillsWays_178
      refine p2_cr (fun c3 => ?_) (fun _ => ?_)
      · rw [i_ge, l8] at c3
        omega
      have ef := i_add (x := f) (y := 1) (by rw [i_1]; omega) (by rw [i_1]; omega)
      rw [i_1] at ef
      exact p2_30 hr hx y0 y1 f0 c (fun w' => ih w' (by omega)) w (by decide) e3
theorem p2_2 (hr : r ≤ 8) (hx : x1.toInt = r) (q : ∀ {A : Nat → Nat → Nat → Int32} {Am : Nat → Nat → Int32}, WWx r A Am → Q ((), P, F, A, J) ((), Fm, Am, Jm)) : ∀ {n m : Nat} {A : Nat → Nat → Nat → Int32} {Am : Nat → Nat → Int32} {y : Int32}, WWx r A Am → 0 ≤ y.toInt → P2 (e_Ways_joinWays_2 n P F A J x1 y) (d_fillsWays_170 m Fm Am Jm y) Q := by
  have l8 : (8 : Int32).toInt = 8 := by decide
  intro n
  induction n with
  | zero => intro m A Am y _ _ a b ha; cases ha
  | succ n ih =>
    intro m A Am y w y0
    unfold e_Ways_joinWays_2
    refine p2_cl (fun c => ?_) (fun c => ?_)
    · rw [i_ge, hx] at c
      exact r_170 (q w) y0 w.1 c
    rw [i_nge, hx] at c
    cases m with
    | zero => intro a b _ hb; cases hb
    | succ m =>
      unfold d_fillsWays_170
      refine p2_cr (fun c3 => ?_) (fun _ => ?_)
      · rw [i_ge, l8] at c3
        omega
      have ey := i_add (x := y) (y := 1) (by rw [i_1]; omega) (by rw [i_1]; omega)
      rw [i_1] at ey
      exact p2_9 hr hx y0 c (fun w' => ih w' (by omega)) w (by decide)
end W9b
/-! the doors -/
theorem p2_bbl {α β γ δ : Type} {o : Option α} {fo : α → Option β} {g : β → Option γ} {z : Option δ} {Q : γ → δ → Prop} (h : ∀ a, o = some a → P2 ((fo a).bind g) z Q) : P2 ((o.bind fo).bind g) z Q := by
  intro x y hx hy
  obtain ⟨q, hq, hx⟩ := Option.bind_eq_some_iff.mp hx
  obtain ⟨a, ha, hq⟩ := Option.bind_eq_some_iff.mp hq
  exact h a ha x y (Option.bind_eq_some_iff.mpr ⟨q, hq, hx⟩) hy
def SYx (r : Int) (Am : Nat → Nat → Int32) : Prop := ∀ i j : Int, 0 ≤ i → i < r → 0 ≤ j → j < r → mx Am i j = mx Am j i
/-- the doors of the house, on both sides -/
def DRx (r nd : Int) (d : Nat) (F : Nat → Nat → Int32) (A : Nat → Nat → Nat → Int32) (Fm : Nat → Int32) (Am : Nat → Nat → Int32) : Prop := (F d 14).toInt = nd ∧ (Am 12 (Fm 18).toInt.toNat).toInt = nd ∧ 0 ≤ (Fm 18).toInt ∧ (Fm 18).toInt ≤ 1 ∧ ∀ k : Int, 0 ≤ k → k < nd → (0 ≤ ci A d 1 k ∧ ci A d 1 k < r) ∧ (0 ≤ ci A d 2 k ∧ ci A d 2 k < r) ∧ (0 ≤ ci A d 3 k ∧ ci A d 3 k ≤ 1000000) ∧ ci A d 1 k = ai Am 13 (12 * (Fm 18).toInt + k) ∧ ci A d 2 k = ai Am 14 (12 * (Fm 18).toInt + k) ∧ ci A d 3 k = ai Am 15 (12 * (Fm 18).toInt + k)
theorem DRx.fr {nd : Int} (h : DRx r nd d F A Fm Am) (hA : ∀ o, A' d o = A d o) (hm : ∀ q, q ≠ 49 → Am' q = Am q) : DRx r nd d F A' Fm Am' := by
  unfold DRx
  rw [ci_fr (hA 1), ci_fr (hA 2), ci_fr (hA 3), hm 12 (by decide), ai_fr (hm 13 (by decide)), ai_fr (hm 14 (by decide)), ai_fr (hm 15 (by decide))]
  exact h
/-- both rows after a store of the reference's own value -/
theorem WWx.same (w : WWx r A Am) (hr : r ≤ 8) (a0 : 0 ≤ a.toInt) (a1 : a.toInt < r) (b0 : 0 ≤ b.toInt) (b1 : b.toInt < r) (e : x.toInt = mx Am a.toInt b.toInt) (h : c_st A 36 2 64 (a * 8 + b) x = some A') : WWx r A' Am := by
  have g := cx_st h a0 (by omega) b0 (by omega)
  refine ⟨w.1, fun i j i0 i1 j0 j1 => ?_⟩
  by_cases c : i = a.toInt ∧ j = b.toInt
  · obtain ⟨rfl, rfl⟩ := c
    rw [g.1, e]
  · rw [g.2 i j i0 (by omega) j0 (by omega) c]
    exact w.2 i j i0 i1 j0 j1
theorem p2_39 {nd : Int} {sh sv : Int32} {Q : cR Unit → mR Unit → Prop} {g : cR Unit → Option (cR Unit)} (hr : r ≤ 8) (hn : nd ≤ 12) (hd : d ≠ 36) (hb : ∀ k : Int32, 0 ≤ k.toInt → k.toInt < 12 → ((sh &&& (1 <<< (k &&& 31))).toInt ≠ 0 ↔ ((sv >>> (k &&& 31)) &&& 1).toInt = 1)) (kk : ∀ {m : Nat} {A : Nat → Nat → Nat → Int32} {Am : Nat → Nat → Int32}, WWx r A Am → P2 (g ((), P, F, A, J)) (d_fillsWays_170 m Fm Am Jm 0) Q) : ∀ {n m : Nat} {A : Nat → Nat → Nat → Int32} {Am : Nat → Nat → Int32} {k : Int32}, WWx r A Am → SYx r Am → DRx r nd d F A Fm Am → Am 48 78 = sv → 0 ≤ k.toInt → P2 ((e_Ways_takeDoors_39 n P F A J d sh k).bind g) (d_fillsWays_40 m Fm Am Jm k) Q := by
  have l1 : (1 : Int32).toInt = 1 := by decide
  have l78 : (78 : Int32).toInt = 78 := by decide
  intro n
  induction n with
  | zero => intro m A Am k _ _ _ _ _ a b ha; cases ha
  | succ n ih =>
    intro m A Am k w sy D hs k0
    obtain ⟨n1, n2, s0, s1, rows⟩ := D
    cases m with
    | zero => intro a b _ hb; cases hb
    | succ m =>
      unfold d_fillsWays_40
      refine p2_br (fun v5 h5 => ?_)
      have e5 : v5.toInt = nd := by rw [(gg_ld h5).2.2]; exact n2
      unfold e_Ways_takeDoors_39
      refine p2_bind_cl (fun c => ?_) (fun c => ?_)
      · rw [i_ge, n1] at c
        refine p2_cr (fun _ => ?_) (fun c2 => ?_)
        · exact kk w
        · rw [i_nge, e5] at c2
          omega
      rw [i_nge, n1] at c
      refine p2_cr (fun c2 => ?_) (fun _ => ?_)
      · rw [i_ge, e5] at c2
        omega
      have ek := i_add (x := k) (y := 1) (by rw [l1]; omega) (by rw [l1]; omega)
      rw [l1] at ek
      have R := rows k.toInt k0 c
      have D : DRx r nd d F A Fm Am := ⟨n1, n2, s0, s1, rows⟩
      refine p2_br (fun v7 h7 => ?_)
      have e7 : v7 = sv := by
        rw [(gg_ld h7).2.2, l78]
        exact hs
      subst e7
      have bit := hb k k0 (by omega)
      refine p2_bind_cl (fun c3 => ?_) (fun c3 => ?_)
      · rw [i_ne, i_0] at c3
        refine p2_cr (fun c4 => ?_) (fun _ => ?_)
        · rw [i_ne, l1] at c4
          exact absurd (bit.mp c3) c4
        · unfold e_Ways_takeDoors_127 d_fillsWays_162
          exact ih w sy D hs (by omega)
      · rw [i_nne, i_0] at c3
        refine p2_cr (fun _ => ?_) (fun c4 => ?_)
        · refine p2_bbl (fun v6 h6 => p2_bbl (fun u7 g7 => p2_bbl (fun v8 h8 => p2_bbl (fun v9 h9 => p2_bbl (fun v10 h10 => p2_bbl (fun v11 h11 => p2_bbl (fun A12 h12 => p2_bbl (fun A13 h13 => ?_))))))))
          refine p2_br (fun w9 k9 => p2_br (fun w10 k10 => p2_br (fun w11 k11 => p2_br (fun w12 k12 => ?_))))
          have m12 := i_mulL (c := 12) (k := 12) (x := Fm 18) (by decide) (by omega) (by omega)
          have ix := i_add (x := 12 * Fm 18) (y := k) (by omega) (by omega)
          have q6 : v6.toInt = ci A d 1 k.toInt := by rw [(gg_ld h6).2.2]; rfl
          have q7 : u7.toInt = ci A d 2 k.toInt := by rw [(gg_ld g7).2.2]; rfl
          have q8 : v8 = u7 := (gg_ld h8).2.2.trans (gg_ld g7).2.2.symm
          have q9 : v9 = v6 := (gg_ld h9).2.2.trans (gg_ld h6).2.2.symm
          subst q8
          subst q9
          have q11 : v11.toInt = ci A d 3 k.toInt := by rw [(gg_ld h11).2.2]; rfl
          have z9 : w9.toInt = ci A d 1 k.toInt := by rw [(gg_ld k9).2.2, ix, m12]; exact R.2.2.2.1.symm
          have z10 : w10.toInt = ci A d 2 k.toInt := by rw [(gg_ld k10).2.2, ix, m12]; exact R.2.2.2.2.1.symm
          have z11 : w11.toInt = ci A d 3 k.toInt := by rw [(gg_ld k11).2.2, ix, m12]; exact R.2.2.2.2.2.symm
          obtain rfl : w9 = v9 := i_ext (z9.trans q6.symm)
          obtain rfl : w10 = v8 := i_ext (z10.trans q7.symm)
          obtain rfl : w11 = v11 := i_ext (z11.trans q11.symm)
          have a0 : 0 ≤ w9.toInt := by omega
          have a1 : w9.toInt < r := by omega
          have b0 : 0 ≤ w10.toInt := by omega
          have b1 : w10.toInt < r := by omega
          have q10 := (cx_ld h10 a0 (by omega) b0 (by omega)).trans (w.2 w9.toInt w10.toInt a0 a1 b0 b1)
          have z12 := mx_ld k12 a0 (by omega) b0 (by omega)
          have bd := (w.1 w9.toInt w10.toInt a0 (by omega) b0 (by omega)).1
          have f12 : ∀ o, A12 d o = A d o := fun o => (gg_cst h12).2.2.2.2 d o (fun e => hd e.1)
          have f13 : ∀ o, A13 d o = A12 d o := fun o => (gg_cst h13).2.2.2.2 d o (fun e => hd e.1)
          refine p2_cr (fun c5 => ?_) (fun c5 => ?_)
          · rw [i_lt] at c5
            have lt : w11 < v10 := Int32.lt_iff_toInt_lt.mpr (by omega)
            rw [if_pos lt] at h12 h13
            refine p2_br (fun A14 h14 => p2_br (fun A15 h15 => ?_))
            have w1 := w.st hr a0 a1 b0 b1 rfl (by omega) (by omega) h12 h14
            have w2 := w1.st hr b0 b1 a0 a1 rfl (by omega) (by omega) h13 h15
            have g14 := gg_st h14
            have g15 := gg_st h15
            have t14 := mx_st h14 a0 (by omega) b0 (by omega)
            have t15 := mx_st h15 b0 (by omega) a0 (by omega)
            refine ih w2 (fun i j i0 i1 j0 j1 => ?_) (D.fr (fun o => (f13 o).trans (f12 o)) (fun q hq => (g15.2.2.1 q hq).trans (g14.2.2.1 q hq))) ?_ (by omega)
            · have val : ∀ i j : Int, 0 ≤ i → i < r → 0 ≤ j → j < r → mx A15 i j = if (i = w9.toInt ∧ j = w10.toInt) ∨ (i = w10.toInt ∧ j = w9.toInt) then w11.toInt else mx Am i j := by
                intro i j i0 i1 j0 j1
                by_cases e2 : i = w10.toInt ∧ j = w9.toInt
                · rw [if_pos (.inr e2), e2.1, e2.2]
                  exact t15.1
                · rw [t15.2 i j i0 (by omega) j0 (by omega) e2]
                  by_cases e1 : i = w9.toInt ∧ j = w10.toInt
                  · rw [if_pos (.inl e1), e1.1, e1.2]
                    exact t14.1
                  · rw [t14.2 i j i0 (by omega) j0 (by omega) e1, if_neg (fun h => h.elim e1 e2)]
              rw [val i j i0 i1 j0 j1, val j i j0 j1 i0 i1, sy i j i0 i1 j0 j1]
              have iff : ((i = w9.toInt ∧ j = w10.toInt) ∨ (i = w10.toInt ∧ j = w9.toInt)) ↔ ((j = w9.toInt ∧ i = w10.toInt) ∨ (j = w10.toInt ∧ i = w9.toInt)) := by omega
              by_cases e : (i = w9.toInt ∧ j = w10.toInt) ∨ (i = w10.toInt ∧ j = w9.toInt)
              · rw [if_pos e, if_pos (iff.mp e)]
              · rw [if_neg e, if_neg (fun h => e (iff.mpr h))]
            · rw [g15.2.2.1 48 (by decide), g14.2.2.1 48 (by decide)]
              exact hs
          · rw [i_nlt] at c5
            have nlt : ¬ w11 < v10 := fun h => by
              have := Int32.lt_iff_toInt_lt.mp h
              omega
            rw [if_neg nlt] at h12 h13
            have w1 := w.same hr a0 a1 b0 b1 q10 h12
            have w2 := w1.same hr b0 b1 a0 a1 (q10.trans (sy _ _ a0 a1 b0 b1)) h13
            unfold d_fillsWays_162
            exact ih w2 sy (D.fr (fun o => (f13 o).trans (f12 o)) (fun _ _ => rfl)) hs (by omega)
        · rw [i_nne, l1] at c4
          exact absurd c3 (bit.mpr c4)
/-! a bit of the shut doors, as both sides ask for it -/
theorem w_and (x : Int32) : ∃ j, j < 32 ∧ x &&& 31 = Int32.ofNat j := by
  refine ⟨(x &&& 31).toBitVec.toNat, ?_, ?_⟩
  · have h1 : (x &&& 31).toBitVec.toNat = x.toBitVec.toNat &&& 31 := rfl
    rw [h1]
    exact Nat.lt_of_le_of_lt Nat.and_le_right (by decide)
  · apply Int32.toBitVec_inj.mp
    show (x &&& 31).toBitVec = BitVec.ofNat 32 (x &&& 31).toBitVec.toNat
    simp
theorem w_smod : ∀ j : Fin 32, ((Int32.ofNat j.val).toBitVec.smod 32#32).toNat = j.val := by decide
theorem w_two : ∀ j : Fin 32, BitVec.twoPow 32 j.val ≠ 0#32 := by decide
theorem w_bit {x k : Int32} : (x &&& (1 <<< (k &&& 31))).toInt ≠ 0 ↔ ((x >>> (k &&& 31)) &&& 1).toInt = 1 := by
  obtain ⟨j, hj, e⟩ := w_and k
  rw [e]
  have hK : ((Int32.ofNat j).toBitVec.smod 32#32).toNat = j := w_smod ⟨j, hj⟩
  have h2 : BitVec.twoPow 32 j ≠ 0#32 := w_two ⟨j, hj⟩
  have eL : (x &&& (1 <<< Int32.ofNat j)).toBitVec = if x.toBitVec.getLsbD j then BitVec.twoPow 32 j else 0#32 := by
    show x.toBitVec &&& (1#32 <<< ((Int32.ofNat j).toBitVec.smod 32#32).toNat) = _
    rw [hK, ← BitVec.twoPow_eq, BitVec.and_twoPow]
  have eR : ((x >>> Int32.ofNat j) &&& 1).toBitVec = BitVec.setWidth 32 (BitVec.ofBool (x.toBitVec.getLsbD j)) := by
    show x.toBitVec.sshiftRight ((Int32.ofNat j).toBitVec.smod 32#32).toNat &&& 1#32 = _
    rw [hK, BitVec.and_one_eq_setWidth_ofBool_getLsbD, BitVec.getLsbD_sshiftRight, Nat.add_zero, if_pos hj]
    simp
  have z1 : ∀ {y : Int32}, y.toInt = 0 ↔ y.toBitVec = 0#32 := fun {y} => ⟨fun h => by rw [show y = 0 from i_ext (h.trans i_0.symm)]; rfl, fun h => by rw [show y = 0 from Int32.toBitVec_inj.mp h]; exact i_0⟩
  have o1 : ∀ {y : Int32}, y.toInt = 1 ↔ y.toBitVec = 1#32 := fun {y} => ⟨fun h => by rw [show y = 1 from i_ext (h.trans i_1.symm)]; rfl, fun h => by rw [show y = 1 from Int32.toBitVec_inj.mp h]; exact i_1⟩
  rw [Ne, z1, o1, eL, eR]
  cases x.toBitVec.getLsbD j with
  | true => exact ⟨fun _ => by decide, fun _ h => h2 h⟩
  | false => exact ⟨fun h => absurd rfl h, fun h => absurd h (by decide)⟩
/-! both rows before the doors -/
theorem gg_cfw {r o n : Nat} {A A' : Nat → Nat → Nat → Int32} {x : Int32} (h : c_fi A r o n x = some A') : (∀ j, 0 ≤ j → j < (n : Int) → ci A' r o j = x.toInt) ∧ (∀ r' o', ¬ (r' = r ∧ o' = o) → A' r' o' = A r' o') := by
  have z : ok ((c_fi A r o n x).bind some) (fun A' => (∀ j, 0 ≤ j → j < (n : Int) → ci A' r o j = x.toInt) ∧ (∀ r' o', ¬ (r' = r ∧ o' = o) → A' r' o' = A r' o')) := ok_cfi (fun A' a b c => ok_some ⟨a, c⟩)
  rw [h] at z
  obtain ⟨a, e, z⟩ := z
  cases e
  exact z
def CIx (c : Int) (A : Nat → Nat → Nat → Int32) : Prop := ∀ i j : Int, 0 ≤ i → i < 8 → 0 ≤ j → j < 8 → cx A i j = if i = j ∧ i < c then 0 else 1000000
theorem c_11 {δ : Type} {z : Option δ} {sh : Int32} {A0 : Nat → Nat → Nat → Int32} {g : cR Unit → Option (cR Unit)} {Q : cR Unit → δ → Prop} (hr : r ≤ 8) (hd : d ≠ 36) (e13 : (F d 13).toInt = r) (kk : ∀ {n : Nat} {A : Nat → Nat → Nat → Int32}, CIx r A → (∀ o, A d o = A0 d o) → P2 ((e_Ways_takeDoors_39 n P F A J d sh 0).bind g) z Q) : ∀ {n : Nat} {A : Nat → Nat → Nat → Int32} {k : Int32}, CIx k.toInt A → (∀ o, A d o = A0 d o) → 0 ≤ k.toInt → k.toInt ≤ r → P2 ((e_Ways_takeDoors_11 n P F A J d sh k).bind g) z Q := by
  intro n
  induction n with
  | zero => intro A k _ _ _ _ a b ha; cases ha
  | succ n ih =>
    intro A k hc hA k0 k1
    unfold e_Ways_takeDoors_11
    refine p2_bind_cl (fun c => ?_) (fun c => ?_)
    · rw [i_ge, e13] at c
      exact kk (by rw [show r = k.toInt by omega]; exact hc) hA
    rw [i_nge, e13] at c
    refine p2_bbl (fun A3 h3 => ?_)
    have s := cx_st h3 k0 (by omega) k0 (by omega)
    have ek := i_add (x := k) (y := 1) (by rw [i_1]; omega) (by rw [i_1]; omega)
    rw [i_1] at ek
    refine ih (fun i j i0 i1 j0 j1 => ?_) (fun o => ((gg_cst h3).2.2.2.2 d o (fun e => hd e.1)).trans (hA o)) (by omega) (by omega)
    by_cases e : i = k.toInt ∧ j = k.toInt
    · rw [e.1, e.2, s.1, i_0, if_pos ⟨rfl, by omega⟩]
    · rw [s.2 i j i0 i1 j0 j1 e, hc i j i0 i1 j0 j1]
      by_cases e2 : i = j ∧ i < k.toInt
      · rw [if_pos e2, if_pos ⟨e2.1, by omega⟩]
      · rw [if_neg e2, if_neg (fun h => by omega)]
theorem w_dm : ∀ k : Fin 64, (Int32.ofNat k.val / 8).toInt = (k.val : Int) / 8 ∧ (Int32.ofNat k.val - Int32.ofNat k.val / 8 * 8).toInt = (k.val : Int) % 8 := by decide
theorem r_2 {α : Type} {z : Option α} {Q : α → mR Unit → Prop} {A0 : Nat → Nat → Int32} (kk : ∀ {m : Nat} {Am : Nat → Nat → Int32}, (∀ i j : Int, 0 ≤ i → i < 8 → 0 ≤ j → j < 8 → mx Am i j = if i = j then 0 else 1000000) → (∀ q, q ≠ 49 → Am q = A0 q) → P2 z (d_fillsWays_40 m Fm Am Jm 0) Q) : ∀ {m : Nat} {Am : Nat → Nat → Int32} {x : Int32}, 0 ≤ x.toInt → (∀ q : Int, 0 ≤ q → q < x.toInt → q < 64 → ai Am 49 q = if q / 8 = q % 8 then 0 else 1000000) → (∀ q, q ≠ 49 → Am q = A0 q) → P2 z (d_fillsWays_2 m Fm Am Jm x) Q := by
  have l64 : (64 : Int32).toInt = 64 := by decide
  have lM : (1000000 : Int32).toInt = 1000000 := by decide
  intro m
  induction m with
  | zero => intro Am x _ _ _ a b _ hb; cases hb
  | succ m ih =>
    intro Am x x0 hv hA
    unfold d_fillsWays_2
    refine p2_cr (fun c => ?_) (fun c => ?_)
    · rw [i_ge, l64] at c
      refine kk (fun i j i0 i1 j0 j1 => ?_) hA
      unfold mx
      rw [hv (8 * i + j) (by omega) (by omega) (by omega)]
      by_cases e : i = j
      · rw [if_pos e, if_pos (by omega)]
      · rw [if_neg e, if_neg (by omega)]
    rw [i_nge, l64] at c
    have ex : x = Int32.ofNat x.toInt.toNat := i_nat x0
    have dm := w_dm ⟨x.toInt.toNat, by omega⟩
    dsimp only at dm
    rw [← ex] at dm
    have e8 := i_add (x := x) (y := 1) (by rw [i_1]; omega) (by rw [i_1]; omega)
    rw [i_1] at e8
    have st : ∀ {u : Int32} {Am' : Nat → Nat → Int32}, m_st Am 49 64 x u = some Am' → u.toInt = (if x.toInt / 8 = x.toInt % 8 then 0 else 1000000) → P2 z (d_fillsWays_2 m Fm Am' Jm (x + 1)) Q := fun {u Am'} h hu => by
      have g := gg_st h
      refine ih (by omega) (fun q q0 q1 q2 => ?_) (fun q hq => (g.2.2.1 q hq).trans (hA q hq))
      by_cases e : q = x.toInt
      · rw [e, g.2.2.2.1, hu]
      · rw [g.2.2.2.2 q q0 e]
        exact hv q q0 (by omega) q2
    refine p2_br (fun v2 h2 => p2_br (fun v3 h3 => ?_))
    have d2 : v2.toInt = x.toInt / 8 := by
      unfold m_div at h2
      rw [if_neg (by decide)] at h2
      cases h2
      omega
    have d3 : v3.toInt = x.toInt % 8 := by
      unfold m_rem at h3
      rw [if_neg (by decide)] at h3
      cases h3
      omega
    refine p2_cr (fun c2 => ?_) (fun c2 => ?_)
    · rw [i_ne] at c2
      unfold d_fillsWays_31
      exact p2_br (fun A16 h16 => st h16 (by rw [if_neg (by omega)]; exact lM))
    · rw [i_nne] at c2
      unfold d_fillsWays_31
      exact p2_br (fun A16 h16 => st h16 (by rw [if_pos (by omega)]; exact i_0))
/-- both sides' rows of ways, from the doors on -/
theorem p2_fill {n m : Nat} {nd : Int} {sh : Int32} {Q : cR Unit → mR Unit → Prop} {g : cR Unit → Option (cR Unit)} (hr : r ≤ 8) (r0 : 0 ≤ r) (hn : nd ≤ 12) (hd : d ≠ 36) (e13 : (F d 13).toInt = r) (D : DRx r nd d F A Fm Am) (hs : Am 48 78 = sh) (kk : ∀ {m : Nat} {A : Nat → Nat → Nat → Int32} {Am : Nat → Nat → Int32}, WWx r A Am → P2 (g ((), P, F, A, J)) (d_fillsWays_170 m Fm Am Jm 0) Q) : P2 ((e_Ways_takeDoors n P F A J d sh).bind g) (d_fillsWays m Fm Am Jm) Q := by
  have lM : (1000000 : Int32).toInt = 1000000 := by decide
  unfold e_Ways_takeDoors d_fillsWays
  refine p2_bbl (fun A1 h1 => ?_)
  have fi := gg_cfw h1
  refine r_2 (A0 := Am) (fun {m Am'} hv hm => ?_) (by decide) (fun q q0 q1 => by rw [i_0] at q1; omega) (fun _ _ => rfl)
  refine c_11 (A0 := A) hr hd e13 (fun {n A'} hc hA => ?_) (fun i j i0 i1 j0 j1 => ?_) (fun o => fi.2 d o (fun e => hd e.1)) (by decide) (by rw [i_0]; exact r0)
  · refine p2_39 hr hn hd (fun k _ _ => w_bit) (fun w => kk w) ⟨fun i j i0 i1 j0 j1 => ?_, fun i j i0 i1 j0 j1 => ?_⟩ (fun i j i0 i1 j0 j1 => ?_) (D.fr hA hm) (by rw [hm 48 (by decide)]; exact hs) (by decide)
    · rw [hv i j i0 i1 j0 j1]
      refine ⟨?_, fun _ => rfl⟩
      by_cases e : i = j
      · rw [if_pos e]
        omega
      · rw [if_neg e]
        omega
    · rw [hv i j i0 (by omega) j0 (by omega), hc i j i0 (by omega) j0 (by omega)]
      by_cases e : i = j
      · rw [if_pos e, if_pos ⟨e, i1⟩]
      · rw [if_neg e, if_neg (fun h => e h.1)]
    · rw [hv i j i0 (by omega) j0 (by omega), hv j i j0 (by omega) i0 (by omega)]
      by_cases e : i = j
      · rw [if_pos e, if_pos e.symm]
      · rw [if_neg e, if_neg (fun h => e h.symm)]
  · unfold cx
    rw [fi.1 (i * 8 + j) (by omega) (by omega), lM, if_neg (fun h => by rw [i_0] at h; omega)]
/-- both sides find the ways -/
theorem p2_ways {n n' m : Nat} {nd : Int} {sh : Int32} (hr : r ≤ 8) (r0 : 0 ≤ r) (hn : nd ≤ 12) (hd : d ≠ 36) (e13 : (F d 13).toInt = r) (D : DRx r nd d F A Fm Am) (hs : Am 48 78 = sh) : P2 ((e_Ways_takeDoors n P F A J d sh).bind fun (_, P3, F4, A5, J6) => e_Ways_joinWays n' P3 F4 A5 J6 (F4 d 13)) (d_fillsWays m Fm Am Jm) (fun a b => WWx r a.2.2.2.1 b.2.2.1) :=
  p2_fill hr r0 hn hd e13 D hs (fun w => by
    unfold e_Ways_joinWays
    exact p2_2 hr e13 (fun w => w) w (by decide))
end H9ey
