/-! what may be left, counted; a trial with what is left; what is known, on both sides -/
section H9fm
variable {n m h : Nat} {t u k : Int} {c : Int → Int} {P P' : Nat → Nat → Nat} {F F' F1 : Nat → Nat → Int32} {A A' : Nat → Nat → Nat → Int32} {J : Nat → Nat → Nat → Int64} {Fm Fm' : Nat → Int32} {Am Am' A7 : Nat → Nat → Int32} {Jm : Nat → Nat → Int64} {x1 x2 x3 x4 y1 y2 y3 : Int32}
/-- how many lefts there are below k, and nothing -/
def rk (c : Int → Int) : Nat → Int
  | 0 => 1
  | k + 1 => rk c k + (if (k : Int) % 6 < c ((k : Int) / 6) then 1 else 0)
/-- how many steps the tasks below t have -/
def sp (c : Int → Int) : Nat → Int
  | 0 => 0
  | t + 1 => sp c t + c (t : Int)
theorem rk_s (c : Int → Int) (k : Nat) : rk c (k + 1) = rk c k + (if (k : Int) % 6 < c ((k : Int) / 6) then 1 else 0) := rfl
theorem sp_s (c : Int → Int) (t : Nat) : sp c (t + 1) = sp c t + c (t : Int) := rfl
theorem rk_pos {c : Int → Int} : ∀ {k : Nat}, 1 ≤ rk c k
  | 0 => Int.le_refl _
  | k + 1 => by
    have := rk_pos (c := c) (k := k)
    rw [rk_s]
    split <;> omega
theorem rk_mono {c : Int → Int} {k : Nat} : ∀ {l : Nat}, k ≤ l → rk c k ≤ rk c l
  | 0, h => by
    obtain rfl : k = 0 := by omega
    exact Int.le_refl _
  | l + 1, h => by
    by_cases e : k = l + 1
    · rw [e]
      exact Int.le_refl _
    · have := rk_mono (c := c) (k := k) (l := l) (by omega)
      rw [rk_s]
      split <;> omega
theorem rk_in {c : Int → Int} (hc : ∀ t, 0 ≤ t → 0 ≤ c t ∧ c t ≤ 6) (t : Nat) : ∀ {u : Nat}, u ≤ 6 → rk c (6 * t + u) = rk c (6 * t) + (if (u : Int) ≤ c t then (u : Int) else c t)
  | 0, _ => by
    have := hc t (by omega)
    rw [if_pos (by omega)]
    show rk c (6 * t) = rk c (6 * t) + ((0 : Nat) : Int)
    omega
  | u + 1, h => by
    have := hc t (by omega)
    have ih := rk_in hc t (u := u) (by omega)
    have e : 6 * t + (u + 1) = (6 * t + u) + 1 := by omega
    rw [e, rk_s, ih]
    have a : ((6 * t + u : Nat) : Int) % 6 = (u : Int) := by omega
    have b : ((6 * t + u : Nat) : Int) / 6 = (t : Int) := by omega
    rw [a, b]
    by_cases z : (u : Int) < c t
    · rw [if_pos (by omega), if_pos z, if_pos (by omega)]
      omega
    · rw [if_neg z]
      by_cases z2 : (u : Int) ≤ c t
      · rw [if_pos z2, if_neg (by omega)]
        omega
      · rw [if_neg z2, if_neg (by omega)]
        omega
theorem rk_sp {c : Int → Int} (hc : ∀ t, 0 ≤ t → 0 ≤ c t ∧ c t ≤ 6) : ∀ {t : Nat}, rk c (6 * t) = 1 + sp c t
  | 0 => rfl
  | t + 1 => by
    have := hc t (by omega)
    have ih := rk_sp hc (t := t)
    have w := rk_in hc t (u := 6) (by omega)
    have e : 6 * (t + 1) = 6 * t + 6 := by omega
    rw [e, w, ih, sp_s]
    by_cases z : ((6 : Nat) : Int) ≤ c t
    · rw [if_pos z]
      omega
    · rw [if_neg z]
      omega
theorem sp_mono {c : Int → Int} (hc : ∀ t, 0 ≤ t → 0 ≤ c t ∧ c t ≤ 6) {t : Nat} : ∀ {s : Nat}, t ≤ s → sp c t ≤ sp c s
  | 0, h => by
    obtain rfl : t = 0 := by omega
    exact Int.le_refl _
  | s + 1, h => by
    by_cases e : t = s + 1
    · rw [e]
      exact Int.le_refl _
    · have := sp_mono hc (t := t) (s := s) (by omega)
      have := hc s (by omega)
      rw [sp_s]
      omega
theorem sp_0 {c : Int → Int} {t : Nat} (hz : ∀ j : Nat, t ≤ j → j < 6 → c j = 0) : ∀ {s : Nat}, t ≤ s → s ≤ 6 → sp c s = sp c t
  | 0, h, _ => by
    obtain rfl : t = 0 := by omega
    rfl
  | s + 1, h, h6 => by
    by_cases e : t = s + 1
    · rw [e]
    · rw [sp_s, hz s (by omega) (by omega), sp_0 hz (s := s) (by omega) (by omega)]
      omega
/-- the reference has put down what a man leaves -/
def LVd (Fm : Nat → Int32) (Am : Nat → Nat → Int32) (m t u : Int) (r : mR Int32) : Prop := (r.1 = 1 ∧ r.2.1 = Fm) ∧ (∀ q, q ≠ 48 → r.2.2.1 q = Am q) ∧ (ai r.2.2.1 48 (42 + m) = t ∧ ai r.2.2.1 48 (48 + m) = u) ∧ ∀ i, 0 ≤ i → i ≠ 42 + m → i ≠ 48 + m → ai r.2.2.1 48 i = ai Am 48 i
theorem r_leaves60 (hm : 0 ≤ x1.toInt ∧ x1.toInt < 6) : po (d_leaves_60 n Fm Am Jm x1 x3 x4) (LVd Fm Am x1.toInt (if 0 ≤ x3.toInt then x4.toInt else -1) (if 0 ≤ x3.toInt then x3.toInt else -1)) := by
  have i42 := kx1 (c := 42) (x := x1) (k := 42) (by decide) (by decide) (by omega)
  have i48 := kx1 (c := 48) (x := x1) (k := 48) (by decide) (by decide) (by omega)
  have lm : (-1 : Int32).toInt = -1 := by decide
  have f : ∀ {s2 : Int32}, po (d_leaves_78 n Fm Am Jm x1 x3 (42 + x1) s2) (LVd Fm Am x1.toInt s2.toInt (if 0 ≤ x3.toInt then x3.toInt else -1)) := by
    intro s2
    have g : ∀ {A11 : Nat → Nat → Int32} {s3 : Int32}, (∀ q, q ≠ 48 → A11 q = Am q) → ai A11 48 (42 + x1.toInt) = s2.toInt → (∀ i, 0 ≤ i → i ≠ 42 + x1.toInt → ai A11 48 i = ai Am 48 i) → po (d_leaves_96 n Fm A11 Jm (48 + x1) s3) (LVd Fm Am x1.toInt s2.toInt s3.toInt) := by
      intro A11 s3 a1 a2 a3
      unfold d_leaves_96
      refine po_bl (fun A13 h13 => po_some ?_)
      have M := gg_st h13
      rw [i48] at M
      exact ⟨⟨rfl, rfl⟩, fun q hq => (M.2.2.1 q hq).trans (a1 q hq), ⟨(M.2.2.2.2 _ (by omega) (by omega)).trans a2, M.2.2.2.1⟩, fun i i0 h1 h2 => (M.2.2.2.2 i i0 h2).trans (a3 i i0 h1)⟩
    unfold d_leaves_78
    refine po_bl (fun A11 h11 => ?_)
    have M := gg_st h11
    rw [i42] at M
    refine po_cond (fun c => ?_) (fun c => ?_)
    · rw [i_ge, i_0] at c
      rw [if_pos c]
      exact g M.2.2.1 M.2.2.2.1 M.2.2.2.2
    · rw [i_nge, i_0] at c
      rw [if_neg (by omega), ← lm]
      exact g M.2.2.1 M.2.2.2.1 M.2.2.2.2
  unfold d_leaves_60
  refine po_cond (fun c => ?_) (fun c => ?_)
  · rw [i_ge, i_0] at c
    have z := f (s2 := x4)
    rw [if_pos c] at z ⊢
    rw [if_pos c]
    exact z
  · rw [i_nge, i_0] at c
    have z := f (s2 := -1)
    rw [if_neg (by omega), lm] at z
    rw [if_neg (by omega), if_neg (by omega)]
    exact z
theorem r_leaves7 (H : NHx h F A Fm Am) (hm : 0 ≤ x1.toInt ∧ x1.toInt < 6) (t0 : 0 ≤ t) (t1 : t < (F h 16).toInt) (u0 : 0 ≤ u) (u1 : u < ci A h 5 t) : ∀ {n : Nat} {x3 x4 : Int32}, 0 ≤ x4.toInt → x4.toInt ≤ t → x3.toInt = sp (ci A h 5) t.toNat - sp (ci A h 5) x4.toInt.toNat + u → po (d_leaves_7 n Fm Am Jm x1 x3 x4) (LVd Fm Am x1.toInt t u) := by
  have ct := H.ct
  have hs := H.sd
  have hk := H.tks
  have hc : ∀ t, 0 ≤ t → 0 ≤ ci A h 5 t ∧ ci A h 5 t ≤ 6 := fun t t0 => H.s6 t0
  intro n
  induction n with
  | zero => intro x3 x4 _ _ _ a ha; cases ha
  | succ n ih =>
    intro x3 x4 a0 a1 e3
    have e4 : ((x4.toInt.toNat : Nat) : Int) = x4.toInt := by omega
    have et : ((t.toNat : Nat) : Int) = t := by omega
    have mono := sp_mono hc (t := x4.toInt.toNat) (s := t.toNat) (by omega)
    have end45 : x4.toInt = t → po (d_leaves_45 n Fm Am Jm x1 x3 x4) (LVd Fm Am x1.toInt t u) := fun e => by
      rw [e] at e3
      have e3' : x3.toInt = u := by omega
      unfold d_leaves_45
      refine po_call v_tasksNow (fun v7 q7 => ?_)
      refine po_cond (fun _ => ?_) (fun c => ?_)
      · have z := r_leaves60 (n := n) (Fm := Fm) (Am := Am) (Jm := Jm) (x3 := x3) (x4 := x4) hm
        rw [if_pos (by omega), if_pos (by omega), e, e3'] at z
        exact z
      · rw [i_nne] at c
        omega
    unfold d_leaves_7
    refine po_cond (fun c => ?_) (fun c => ?_)
    · rw [i_lt, i_0] at c
      omega
    refine po_call v_tasksNow (fun v2 q2 => ?_)
    refine po_cond (fun c2 => ?_) (fun c2 => ?_)
    · rw [i_ge] at c2
      omega
    refine po_call (v_steps hs (by omega)) (fun v4 q4 => ?_)
    rw [← H.stp a0 (by omega)] at q4
    have c4 := hc x4.toInt a0
    by_cases e : x4.toInt = t
    · refine po_cond (fun _ => end45 e) (fun c3 => ?_)
      rw [i_nlt] at c3
      rw [e] at e3 q4
      omega
    · have step := sp_s (ci A h 5) x4.toInt.toNat
      rw [e4] at step
      have mono2 := sp_mono hc (t := x4.toInt.toNat + 1) (s := t.toNat) (by omega)
      have e41 := i_p1 (x := x4) (by omega)
      refine po_cond (fun c3 => ?_) (fun c3 => ?_)
      · rw [i_lt] at c3
        omega
      refine po_call (v_steps hs (by omega)) (fun v6 q6 => ?_)
      rw [← H.stp a0 (by omega)] at q6
      rw [i_nlt] at c3
      have r3 := i_rng x3
      have e36 : (x3 - v6).toInt = x3.toInt - v6.toInt := i_sub (by omega) (by omega)
      refine ih (by omega) (by omega) ?_
      rw [e36, e41, show (x4.toInt + 1).toNat = x4.toInt.toNat + 1 by omega, step]
      omega
/-- the reference's options are the class's lefts, in their order -/
theorem r_leaves (H : NHx h F A Fm Am) (hm : 0 ≤ x1.toInt ∧ x1.toInt < 6) {k : Nat} (k1 : k < 36) (hv : (k : Int) % 6 < ci A h 5 ((k : Int) / 6)) (e : y3.toInt = rk (ci A h 5) k) : po (d_leaves n Fm Am Jm x1 y3) (LVd Fm Am x1.toInt ((k : Int) / 6) ((k : Int) % 6)) := by
  have ct := H.ct
  have hc : ∀ t, 0 ≤ t → 0 ≤ ci A h 5 t ∧ ci A h 5 t ≤ 6 := fun t t0 => H.s6 t0
  have t1 : (k : Int) / 6 < (F h 16).toInt := by
    by_cases z : (k : Int) / 6 < (F h 16).toInt
    · exact z
    · have := H.z6 (t := (k : Int) / 6) (by omega) (by omega) (by omega)
      omega
  have ek : k = 6 * (k / 6) + k % 6 := by omega
  have w := rk_in hc (k / 6) (u := k % 6) (by omega)
  rw [← ek, rk_sp hc] at w
  have e6 : ((k / 6 : Nat) : Int) = (k : Int) / 6 := by omega
  have e7 : ((k % 6 : Nat) : Int) = (k : Int) % 6 := by omega
  rw [e6, e7, if_pos (by omega)] at w
  have r3 := i_rng y3
  have p := rk_pos (c := ci A h 5) (k := k)
  have em : (y3 - 1).toInt = y3.toInt - 1 := by rw [i_sub (by rw [i_1]; omega) (by rw [i_1]; omega), i_1]
  unfold d_leaves
  refine r_leaves7 H hm (by omega) t1 (by omega) hv (by decide) (by rw [i_0]; omega) ?_
  rw [em, e, w, i_0, show ((k : Int) / 6).toNat = k / 6 by omega]
  show 1 + sp (ci A h 5) (k / 6) + (k : Int) % 6 - 1 = sp (ci A h 5) (k / 6) - 0 + (k : Int) % 6
  omega
theorem r_leaves0 (H : NHx h F A Fm Am) (hm : 0 ≤ x1.toInt ∧ x1.toInt < 6) (e : y3.toInt = 0) : po (d_leaves n Fm Am Jm x1 y3) (LVd Fm Am x1.toInt (-1) (-1)) := by
  have em : (y3 - 1).toInt = -1 := by rw [i_sub (by rw [i_1]; omega) (by rw [i_1]; omega), i_1]; omega
  have f45 : po (d_leaves_45 0 Fm Am Jm x1 (y3 - 1) 0) (LVd Fm Am x1.toInt (-1) (-1)) ∧ ∀ n, po (d_leaves_45 n Fm Am Jm x1 (y3 - 1) 0) (LVd Fm Am x1.toInt (-1) (-1)) := by
    have f : ∀ n, po (d_leaves_45 n Fm Am Jm x1 (y3 - 1) 0) (LVd Fm Am x1.toInt (-1) (-1)) := fun n => by
      have z := r_leaves60 (n := n) (Fm := Fm) (Am := Am) (Jm := Jm) (x3 := y3 - 1) (x4 := 0) hm
      rw [if_neg (by omega), if_neg (by omega)] at z
      unfold d_leaves_45
      refine po_call v_tasksNow (fun v7 q7 => ?_)
      refine po_cond (fun _ => z) (fun _ => po_cond (fun _ => z) (fun c => ?_))
      rw [i_nlt, i_0] at c
      omega
    exact ⟨f 0, f⟩
  unfold d_leaves
  cases n with
  | zero => intro a ha; cases ha
  | succ n =>
    unfold d_leaves_7
    refine po_cond (fun _ => f45.2 n) (fun c => ?_)
    rw [i_nlt, i_0] at c
    omega
theorem r_options4 (H : NHx h F A Fm Am) : ∀ {n : Nat} {x1 x2 : Int32}, 0 ≤ x2.toInt → x2.toInt ≤ (F h 16).toInt → x1.toInt = 1 + sp (ci A h 5) x2.toInt.toNat → po (d_options_4 n Fm Am Jm x1 x2) (fun v => v.toInt = 1 + sp (ci A h 5) (F h 16).toInt.toNat) := by
  have ct := H.ct
  have hs := H.sd
  have hk := H.tks
  have hc : ∀ t, 0 ≤ t → 0 ≤ ci A h 5 t ∧ ci A h 5 t ≤ 6 := fun t t0 => H.s6 t0
  intro n
  induction n with
  | zero => intro x1 x2 _ _ _ a ha; cases ha
  | succ n ih =>
    intro x1 x2 a0 a1 e1
    unfold d_options_4
    refine po_call v_tasksNow (fun v2 q2 => ?_)
    refine po_cond (fun c => po_some ?_) (fun c => ?_)
    · rw [i_ge] at c
      rw [e1, show x2.toInt = (F h 16).toInt by omega]
    · rw [i_nge] at c
      refine po_call (v_steps hs (by omega)) (fun v3 q3 => ?_)
      rw [← H.stp a0 (by omega)] at q3
      have c4 := hc x2.toInt a0
      have step := sp_s (ci A h 5) x2.toInt.toNat
      rw [show ((x2.toInt.toNat : Nat) : Int) = x2.toInt by omega] at step
      have e21 := i_p1 (x := x2) (by omega)
      have le : ∀ t : Nat, t ≤ 6 → sp (ci A h 5) t ≤ 6 * (t : Int) := fun t => by
        induction t with
        | zero => intro _; exact Int.le_refl _
        | succ t ih =>
          intro ht
          have := ih (by omega)
          have := hc t (by omega)
          rw [sp_s]
          omega
      have l6 := le x2.toInt.toNat (by omega)
      have m0 := sp_mono hc (t := 0) (s := x2.toInt.toNat) (by omega)
      have z0 : sp (ci A h 5) 0 = 0 := rfl
      have e13 : (x1 + v3).toInt = x1.toInt + v3.toInt := i_add (by omega) (by omega)
      refine ih (by omega) (by omega) ?_
      rw [e13, e21, show (x2.toInt + 1).toNat = x2.toInt.toNat + 1 by omega, step]
      omega
theorem r_options (H : NHx h F A Fm Am) : po (d_options n Fm Am Jm) (fun v => v.toInt = rk (ci A h 5) 36) := by
  have ct := H.ct
  have hc : ∀ t, 0 ≤ t → 0 ≤ ci A h 5 t ∧ ci A h 5 t ≤ 6 := fun t t0 => H.s6 t0
  unfold d_options
  refine po_mono (r_options4 H (by decide) (by rw [i_0]; omega) (by rw [i_0, i_1]; rfl)) (fun v e => ?_)
  have w := rk_sp hc (t := 6)
  have z := sp_0 (c := ci A h 5) (t := (F h 16).toInt.toNat) (fun j h1 h2 => H.z6 (by omega) (by omega) (by omega)) (s := 6) (by omega) (by omega)
  rw [e, ← z]
  exact w.symm
theorem v_mayBe (h6 : ∀ t, 0 ≤ t → ci A h 5 t ≤ 6) : po (e_House_mayBeLeft P F A J h x1) (fun v => BV v (x1.toInt < 0 ∨ (0 ≤ x1.toInt ∧ x1.toInt % 6 < ci A h 5 (x1.toInt / 6)))) := by
  unfold e_House_mayBeLeft
  refine po_cond (fun c => po_some (.inl ⟨rfl, ?_⟩)) (fun c => ?_)
  · rw [i_lt, i_0] at c
    exact .inl c
  · rw [i_nlt, i_0] at c
    refine po_bl (fun v2 h2 => po_bl (fun v3 h3 => po_bl (fun v4 h4 => ?_)))
    have g2 : v2.toInt = x1.toInt % 6 := by rw [gg_rem6 h2, i_rem6 c]
    have g3 : v3.toInt = x1.toInt / 6 := by rw [gg_div6 h3, i_div6 c]
    have g4 := (gl h4).2.2
    rw [g3] at g4
    refine po_cond (fun c2 => po_some (.inr ⟨rfl, ?_⟩)) (fun c2 => po_some (.inl ⟨rfl, ?_⟩))
    · rw [i_ge] at c2
      omega
    · rw [i_nge] at c2
      exact .inr ⟨c, by omega⟩
end H9fm
