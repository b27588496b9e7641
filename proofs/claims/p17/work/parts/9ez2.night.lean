/-! a night, on both sides: its pieces -/
section H9ez2
variable {n m : Nat} {h q r r' j : Nat} {t s b k l N x : Int} {ex : Prop} {P : Nat → Nat → Nat} {F F' : Nat → Nat → Int32} {A A' A1 : Nat → Nat → Nat → Int32} {J : Nat → Nat → Nat → Int64} {Fm Fm' : Nat → Int32} {Am Am' Am1 : Nat → Nat → Int32} {Jm : Nat → Nat → Int64} {x1 x2 x3 x4 y1 y2 : Int32}
theorem ix6 {s x : Int32} (hs : 0 ≤ s.toInt ∧ s.toInt ≤ 1) (hx : -1 ≤ x.toInt ∧ x.toInt ≤ 1000) : (6 * s + x).toInt = 6 * s.toInt + x.toInt := by
  have m := i_mulL (c := 6) (k := 6) (x := s) (by decide) (by omega) (by omega)
  rw [i_add (by rw [m]; omega) (by rw [m]; omega), m]
theorem ix36 {s x y : Int32} (hs : 0 ≤ s.toInt ∧ s.toInt ≤ 1) (hx : -1 ≤ x.toInt ∧ x.toInt ≤ 1000) (hy : -1 ≤ y.toInt ∧ y.toInt ≤ 1000) : (6 * (6 * s + x) + y).toInt = 6 * (6 * s.toInt + x.toInt) + y.toInt := by
  have e := ix6 hs hx
  have m := i_mulL (c := 6) (k := 6) (x := 6 * s + x) (by decide) (by rw [e]; omega) (by rw [e]; omega)
  rw [i_add (by rw [m, e]; omega) (by rw [m, e]; omega), m, e]
theorem cx6 {x y : Int32} (hx : -1 ≤ x.toInt ∧ x.toInt ≤ 1000) (hy : -1 ≤ y.toInt ∧ y.toInt ≤ 1000) : (x * 6 + y).toInt = x.toInt * 6 + y.toInt := by
  have m := i_mulR (c := 6) (k := 6) (x := x) (by decide) (by omega) (by omega)
  rw [i_add (by rw [m]; omega) (by rw [m]; omega), m]
theorem rx6 {x y : Int32} (hx : -1 ≤ x.toInt ∧ x.toInt ≤ 1000) (hy : -1 ≤ y.toInt ∧ y.toInt ≤ 1000) : (6 + 6 * x + y).toInt = 6 + 6 * x.toInt + y.toInt := by
  have l6 : (6 : Int32).toInt = 6 := by decide
  have m := i_mulL (c := 6) (k := 6) (x := x) (by decide) (by omega) (by omega)
  have a := i_add (x := 6) (y := 6 * x) (by rw [m, l6]; omega) (by rw [m, l6]; omega)
  rw [i_add (by rw [a, m, l6]; omega) (by rw [a, m, l6]; omega), a, m, l6]
theorem kx1 {c x : Int32} {k : Int} (hc : c.toInt = k) (hk : 0 ≤ k ∧ k ≤ 1000) (hx : -1 ≤ x.toInt ∧ x.toInt ≤ 1000) : (c + x).toInt = k + x.toInt := by
  rw [i_add (by omega) (by omega), hc]
theorem gg_div6 {x v : Int32} (h : m_div x 6 = some v) : v = x / 6 := by
  unfold m_div at h
  rw [if_neg (by decide)] at h
  cases h
  rfl
theorem gg_rem6 {x v : Int32} (h : m_rem x 6 = some v) : v = x - x / 6 * 6 := by
  unfold m_rem at h
  rw [if_neg (by decide)] at h
  cases h
  rfl
theorem v_steps (hs : 0 ≤ (Fm 18).toInt ∧ (Fm 18).toInt ≤ 1) (hx : -1 ≤ x1.toInt ∧ x1.toInt ≤ 1000) : po (d_stepsOf Fm Am Jm x1) (fun v => v.toInt = ai Am 22 (6 * (Fm 18).toInt + x1.toInt)) := by
  unfold d_stepsOf
  refine po_bl (fun v h => po_some ?_)
  rw [(gm h).2.2, ix6 hs hx]
theorem v_stepAt (hs : 0 ≤ (Fm 18).toInt ∧ (Fm 18).toInt ≤ 1) (h1 : -1 ≤ x1.toInt ∧ x1.toInt ≤ 1000) (h2 : -1 ≤ x2.toInt ∧ x2.toInt ≤ 1000) : po (d_stepAt Fm Am Jm x1 x2) (fun v => v.toInt = 6 * (6 * (Fm 18).toInt + x1.toInt) + x2.toInt) := by
  unfold d_stepAt
  exact po_some (ix36 hs h1 h2)
theorem v_menNow : po (d_menNow Fm Am Jm) (fun v => v.toInt = ai Am 29 (Fm 18).toInt) := by
  unfold d_menNow
  exact po_bl (fun v h => po_some (gm h).2.2)
theorem v_tasksNow : po (d_tasksNow Fm Am Jm) (fun v => v.toInt = ai Am 19 (Fm 18).toInt) := by
  unfold d_tasksNow
  exact po_bl (fun v h => po_some (gm h).2.2)
/-- what a house in use keeps to -/
def HYc (F : Nat → Nat → Int32) (A : Nat → Nat → Nat → Int32) (h : Nat) : Prop := (∀ d, 0 ≤ d → d < (F h 14).toInt → (0 ≤ ci A h 1 d ∧ ci A h 1 d < (F h 13).toInt) ∧ (0 ≤ ci A h 2 d ∧ ci A h 2 d < (F h 13).toInt) ∧ 1 ≤ ci A h 3 d ∧ ci A h 3 d ≤ 60) ∧ (∀ t, 0 ≤ t → t < (F h 16).toInt → 0 ≤ ci A h 4 t ∧ ci A h 4 t < (F h 13).toInt) ∧ (∀ t u, 0 ≤ t → t < (F h 16).toInt → 0 ≤ u → u < ci A h 5 t → (1 ≤ ci A h 6 (t * 6 + u) ∧ ci A h 6 (t * 6 + u) ≤ 120) ∧ (0 ≤ ci A h 7 (t * 6 + u) ∧ ci A h 7 (t * 6 + u) ≤ 99) ∧ (0 ≤ ci A h 8 (t * 6 + u) ∧ ci A h 8 (t * 6 + u) ≤ 99) ∧ (0 ≤ ci A h 9 (t * 6 + u) ∧ ci A h 9 (t * 6 + u) ≤ 99) ∧ ci A h 10 (t * 6 + u) ≤ 5 ∧ ci A h 11 (t * 6 + u) ≤ 5 ∧ (ci A h 10 (t * 6 + u) = -2 ∨ 0 ≤ ci A h 10 (t * 6 + u)) ∧ (ci A h 11 (t * 6 + u) = -2 ∨ 0 ≤ ci A h 11 (t * 6 + u))) ∧ (∀ m, 0 ≤ m → m < (F h 17).toInt → 0 ≤ ci A h 12 m ∧ ci A h 12 m < (F h 13).toInt) ∧ (1 ≤ (F h 18).toInt ∧ (F h 18).toInt ≤ 600)
theorem HYc.cg (H : HYc F A h) (hF : ∀ k, F' h k = F h k) (hA : ∀ o, o ≠ 17 → A' h o = A h o) : HYc F' A' h := by
  unfold HYc
  rw [hF, hF, hF, hF, hF, ci_fr (hA 1 (by decide)), ci_fr (hA 2 (by decide)), ci_fr (hA 3 (by decide)), ci_fr (hA 4 (by decide)), ci_fr (hA 5 (by decide)), ci_fr (hA 6 (by decide)), ci_fr (hA 7 (by decide)), ci_fr (hA 8 (by decide)), ci_fr (hA 9 (by decide)), ci_fr (hA 10 (by decide)), ci_fr (hA 11 (by decide)), ci_fr (hA 12 (by decide))]
  exact H
/-- the house of a night, on both sides -/
def NHx (h : Nat) (F : Nat → Nat → Int32) (A : Nat → Nat → Nat → Int32) (Fm : Nat → Int32) (Am : Nat → Nat → Int32) : Prop := HC h F A Fm Am ∧ HWx h F A Fm Am ∧ LHx h F A Fm Am ∧ HYc F A h ∧ (0 ≤ (Fm 18).toInt ∧ (Fm 18).toInt ≤ 1) ∧ (∀ t, 0 ≤ t → 0 ≤ ci A h 5 t ∧ ci A h 5 t ≤ 6 ∧ ((F h 16).toInt ≤ t → t < 6 → ci A h 5 t = 0)) ∧ ((0 ≤ (F h 13).toInt ∧ (F h 13).toInt ≤ 8) ∧ (0 ≤ (F h 14).toInt ∧ (F h 14).toInt ≤ 12) ∧ (0 ≤ (F h 15).toInt ∧ (F h 15).toInt ≤ 6) ∧ (0 ≤ (F h 16).toInt ∧ (F h 16).toInt ≤ 6) ∧ (0 ≤ (F h 17).toInt ∧ (F h 17).toInt ≤ 6)) ∧ (F h 1304).toInt ≤ 400 ∧ (∀ b, 0 ≤ b → ai Am 40 b ≤ 840) ∧ c_kind h = 6
theorem HC.fr (H : HC h F A Fm Am) (hF : ∀ k, F' h k = F h k) (hA : A' h 5 = A h 5) (e : Fm' 18 = Fm 18) (m : ∀ q, 8 ≤ q → q ≤ 44 → Am' q = Am q) : HC h F' A' Fm' Am' := by
  unfold HC
  rw [e, hF, hF, ci_fr hA, m 12 (by decide) (by decide), ai_fr (m 22 (by decide) (by decide))]
  exact ⟨fun q hq => by rw [hF, m (rq q) (by have := rq_in q; omega) (by have := rq_in q; omega)]; exact H.1 q hq, H.2⟩
theorem HWx.fr (H : HWx h F A Fm Am) (hF : ∀ k, F' h k = F h k) (hA : ∀ o, o ≠ 17 → A' h o = A h o) (e : Fm' 18 = Fm 18) (m : ∀ q, 8 ≤ q → q ≤ 44 → Am' q = Am q) : HWx h F' A' Fm' Am' := by
  unfold HWx RWs RWn
  rw [e, hF, hF, hF, hF, ci_fr (hA 1 (by decide)), ci_fr (hA 2 (by decide)), ci_fr (hA 3 (by decide)), ci_fr (hA 4 (by decide)), ci_fr (hA 5 (by decide)), ci_fr (hA 6 (by decide)), ci_fr (hA 7 (by decide)), ci_fr (hA 8 (by decide)), ci_fr (hA 9 (by decide)), ci_fr (hA 10 (by decide)), ci_fr (hA 11 (by decide)), ci_fr (hA 12 (by decide)), m 41 (by decide) (by decide), ai_fr (m 13 (by decide) (by decide)), ai_fr (m 14 (by decide) (by decide)), ai_fr (m 15 (by decide) (by decide)), ai_fr (m 20 (by decide) (by decide)), ai_fr (m 23 (by decide) (by decide)), ai_fr (m 24 (by decide) (by decide)), ai_fr (m 25 (by decide) (by decide)), ai_fr (m 26 (by decide) (by decide)), ai_fr (m 27 (by decide) (by decide)), ai_fr (m 28 (by decide) (by decide)), ai_fr (m 30 (by decide) (by decide))]
  exact H
theorem LHx.fr (H : LHx h F A Fm Am) (hF : ∀ k, F' h k = F h k) (hA : ∀ o, o ≠ 17 → A' h o = A h o) (e : Fm' 18 = Fm 18) (m : ∀ q, 8 ≤ q → q ≤ 44 → Am' q = Am q) : LHx h F' A' Fm' Am' := by
  intro k k0 k1
  rw [hF] at k1
  rw [hF, e, ci_fr (hA 14 (by decide)), ai_fr (m 34 (by decide) (by decide)), ai_fr (m 35 (by decide) (by decide))]
  rcases H k k0 k1 with h1 | ⟨C, B, e1, w, le⟩
  · exact .inl h1
  · exact .inr ⟨C, B, e1, w.fr (L := (F h 1304).toInt) ⟨fun i _ _ => by rw [ci_fr (hA 15 (by decide)), ci_fr (hA 16 (by decide))]; exact ⟨rfl, rfl⟩, fun i _ _ => by rw [ai_fr (m 42 (by decide) (by decide)), ai_fr (m 43 (by decide) (by decide))]; exact ⟨rfl, rfl⟩, fun q h1 h2 i _ _ => by rw [ai_fr (m q (by omega) (by omega))]⟩ le (Int.le_refl _) (Int.le_refl _), le⟩
theorem NHx.fr (H : NHx h F A Fm Am) (hF : ∀ k, F' h k = F h k) (hA : ∀ o, o ≠ 17 → A' h o = A h o) (e : Fm' 18 = Fm 18) (m : ∀ q, 8 ≤ q → q ≤ 44 → Am' q = Am q) : NHx h F' A' Fm' Am' := by
  obtain ⟨h1, h2, h3, h4, h5, h6, h7, h8, h10, h9⟩ := H
  refine ⟨h1.fr hF (hA 5 (by decide)) e m, h2.fr hF hA e m, h3.fr hF hA e m, h4.cg hF hA, by rw [e]; exact h5, by rw [ci_fr (hA 5 (by decide)), hF 16]; exact h6, by rw [hF, hF, hF, hF, hF]; exact h7, by rw [hF]; exact h8, by rw [ai_fr (m 40 (by decide) (by decide))]; exact h10, h9⟩
theorem NHx.sd (H : NHx h F A Fm Am) : 0 ≤ (Fm 18).toInt ∧ (Fm 18).toInt ≤ 1 := H.2.2.2.2.1
theorem NHx.ct (H : NHx h F A Fm Am) : (0 ≤ (F h 13).toInt ∧ (F h 13).toInt ≤ 8) ∧ (0 ≤ (F h 14).toInt ∧ (F h 14).toInt ≤ 12) ∧ (0 ≤ (F h 15).toInt ∧ (F h 15).toInt ≤ 6) ∧ (0 ≤ (F h 16).toInt ∧ (F h 16).toInt ≤ 6) ∧ (0 ≤ (F h 17).toInt ∧ (F h 17).toInt ≤ 6) := H.2.2.2.2.2.2.1
theorem NHx.kd (H : NHx h F A Fm Am) : c_kind h = 6 := H.2.2.2.2.2.2.2.2.2
theorem NHx.hy (H : NHx h F A Fm Am) : HYc F A h := H.2.2.2.1
theorem NHx.nn (H : NHx h F A Fm Am) : (F h 18).toInt = ai Am 41 (Fm 18).toInt := by
  have e := H.2.1.2.2.2.2
  unfold RWn at e
  rw [e]
  rfl
theorem NHx.men (H : NHx h F A Fm Am) : (F h 17).toInt = ai Am 29 (Fm 18).toInt := by
  have e : F h 17 = Am 29 (Fm 18).toInt.toNat := H.1.1 3 (by decide)
  rw [e]
  rfl
theorem NHx.tks (H : NHx h F A Fm Am) : (F h 16).toInt = ai Am 19 (Fm 18).toInt := by
  have e : F h 16 = Am 19 (Fm 18).toInt.toNat := H.1.1 2 (by decide)
  rw [e]
  rfl
theorem NHx.stp (H : NHx h F A Fm Am) (t0 : 0 ≤ t) (t1 : t < (F h 16).toInt) : ci A h 5 t = ai Am 22 (6 * (Fm 18).toInt + t) := H.1.2.2 t t0 t1
theorem NHx.s6 (H : NHx h F A Fm Am) (t0 : 0 ≤ t) : 0 ≤ ci A h 5 t ∧ ci A h 5 t ≤ 6 := ⟨(H.2.2.2.2.2.1 t t0).1, (H.2.2.2.2.2.1 t t0).2.1⟩
theorem NHx.z6 (H : NHx h F A Fm Am) (t0 : (F h 16).toInt ≤ t) (t1 : t < 6) (t2 : 0 ≤ t) : ci A h 5 t = 0 := (H.2.2.2.2.2.1 t t2).2.2 t0 t1
theorem NHx.row {u : Int} (H : NHx h F A Fm Am) (t0 : 0 ≤ t) (t1 : t < (F h 16).toInt) (u0 : 0 ≤ u) (u1 : u < ci A h 5 t) : ci A h 6 (t * 6 + u) = ai Am 23 (6 * (6 * (Fm 18).toInt + t) + u) ∧ ci A h 7 (t * 6 + u) = ai Am 24 (6 * (6 * (Fm 18).toInt + t) + u) ∧ ci A h 8 (t * 6 + u) = ai Am 25 (6 * (6 * (Fm 18).toInt + t) + u) ∧ ci A h 9 (t * 6 + u) = ai Am 26 (6 * (6 * (Fm 18).toInt + t) + u) ∧ NNx (ci A h 10 (t * 6 + u)) (ai Am 27 (6 * (6 * (Fm 18).toInt + t) + u)) ∧ NNx (ci A h 11 (t * 6 + u)) (ai Am 28 (6 * (6 * (Fm 18).toInt + t) + u)) := H.2.1.2.2.1 t u t0 t1 u0 u1
theorem NHx.rm (H : NHx h F A Fm Am) (t0 : 0 ≤ t) (t1 : t < (F h 16).toInt) : ci A h 4 t = ai Am 20 (6 * (Fm 18).toInt + t) := H.2.1.2.1 t t0 t1
theorem NHx.hm {m : Int} (H : NHx h F A Fm Am) (t0 : 0 ≤ m) (t1 : m < (F h 17).toInt) : ci A h 12 m = ai Am 30 (6 * (Fm 18).toInt + m) := H.2.1.2.2.2.1 m t0 t1
/-- what a man left: nothing, or a step of a task -/
def LQx (h : Nat) (F : Nat → Nat → Int32) (A : Nat → Nat → Nat → Int32) (a t u : Int) : Prop := (a = -1 ∧ t = -1 ∧ u = -1) ∨ (0 ≤ t ∧ t < (F h 16).toInt ∧ 0 ≤ u ∧ u < ci A h 5 t ∧ a = t * 6 + u)
/-- an evening on both sides, but for the doors and the nights; when men lay down only if ex -/
def SBx (ex : Prop) (h r : Nat) (F : Nat → Nat → Int32) (A : Nat → Nat → Nat → Int32) (Am : Nat → Nat → Int32) (j : Nat) (b : Int) : Prop := (∀ k : Int, 0 ≤ k → k < 36 → ci A r 1 k = ai Am j (b + (6 + k))) ∧ (∀ k : Int, 0 ≤ k → k < 6 → ci A r 2 k = ai Am j (b + k) ∧ 0 ≤ ci A r 2 k) ∧ (∀ k : Int, 0 ≤ k → k < 6 → ci A r 4 k = ai Am j (b + (72 + k))) ∧ (∀ m : Int, 0 ≤ m → m < (F h 17).toInt → LQx h F A (ci A r 3 m) (ai Am j (b + (42 + m))) (ai Am j (b + (48 + m))) ∧ ci A r 5 m = ai Am j (b + (54 + m)) ∧ ci A r 6 m = ai Am j (b + (60 + m)) ∧ (ex → ci A r 7 m = ai Am j (b + (66 + m))))
theorem SBx.dn (S : SBx ex h r F A Am j 0) (k0 : 0 ≤ k) (k1 : k < 36) : ci A r 1 k = ai Am j (6 + k) := by
  have e := S.1 k k0 k1
  rw [Int.zero_add] at e
  exact e
theorem SBx.sf (S : SBx ex h r F A Am j 0) (k0 : 0 ≤ k) (k1 : k < 6) : ci A r 2 k = ai Am j k ∧ 0 ≤ ci A r 2 k := by
  have e := S.2.1 k k0 k1
  rw [Int.zero_add] at e
  exact e
theorem SBx.tl (S : SBx ex h r F A Am j 0) (k0 : 0 ≤ k) (k1 : k < 6) : ci A r 4 k = ai Am j (72 + k) := by
  have e := S.2.2.1 k k0 k1
  rw [Int.zero_add] at e
  exact e
theorem SBx.mn {m : Int} (S : SBx ex h r F A Am j 0) (m0 : 0 ≤ m) (m1 : m < (F h 17).toInt) : LQx h F A (ci A r 3 m) (ai Am j (42 + m)) (ai Am j (48 + m)) ∧ ci A r 5 m = ai Am j (54 + m) ∧ ci A r 6 m = ai Am j (60 + m) ∧ (ex → ci A r 7 m = ai Am j (66 + m)) := by
  have e := S.2.2.2 m m0 m1
  simp only [Int.zero_add] at e
  exact e
theorem SBx.mk0 (h1 : ∀ k : Int, 0 ≤ k → k < 36 → ci A r 1 k = ai Am j (6 + k)) (h2 : ∀ k : Int, 0 ≤ k → k < 6 → ci A r 2 k = ai Am j k ∧ 0 ≤ ci A r 2 k) (h3 : ∀ k : Int, 0 ≤ k → k < 6 → ci A r 4 k = ai Am j (72 + k)) (h4 : ∀ m : Int, 0 ≤ m → m < (F h 17).toInt → LQx h F A (ci A r 3 m) (ai Am j (42 + m)) (ai Am j (48 + m)) ∧ ci A r 5 m = ai Am j (54 + m) ∧ ci A r 6 m = ai Am j (60 + m) ∧ (ex → ci A r 7 m = ai Am j (66 + m))) : SBx ex h r F A Am j 0 := by
  refine ⟨fun k a b => ?_, fun k a b => ?_, fun k a b => ?_, fun k a b => ?_⟩
  · rw [Int.zero_add]; exact h1 k a b
  · rw [Int.zero_add]; exact h2 k a b
  · rw [Int.zero_add]; exact h3 k a b
  · simp only [Int.zero_add]; exact h4 k a b
theorem LQx.cg {a t u : Int} (L : LQx h F A a t u) (hF : F' h 16 = F h 16) (h5 : A' h 5 = A h 5) : LQx h F' A' a t u := by
  unfold LQx
  rw [hF, ci_fr h5]
  exact L
theorem LQx.t6 {a t u : Int} (L : LQx h F A a t u) : (a < 0 ↔ t < 0) ∧ (0 ≤ t → a / 6 = t ∧ a % 6 = u) ∨ ¬ (u < 6) := by
  rcases L with ⟨rfl, rfl, rfl⟩ | ⟨t0, t1, u0, u1, rfl⟩
  · exact .inl ⟨by omega, by omega⟩
  · by_cases e : u < 6
    · exact .inl ⟨by omega, by omega⟩
    · exact .inr e
/-- nothing that it rests on has changed -/
theorem SBx.cg (S : SBx ex h r F A Am j b) (h17 : F' h 17 = F h 17) (h16 : F' h 16 = F h 16) (h5 : A' h 5 = A h 5) (a : ∀ o, 1 ≤ o → o ≤ 7 → A' r o = A r o) (m : Am' j = Am j) : SBx ex h r F' A' Am' j b := by
  unfold SBx LQx
  rw [h17, h16, ci_fr h5, ci_fr (a 1 (by decide) (by decide)), ci_fr (a 2 (by decide) (by decide)), ci_fr (a 3 (by decide) (by decide)), ci_fr (a 4 (by decide) (by decide)), ci_fr (a 5 (by decide) (by decide)), ci_fr (a 6 (by decide) (by decide)), ci_fr (a 7 (by decide) (by decide)), ai_fr m]
  exact S
/-- is a task ended? -/
theorem p2_ended18 (hs : 0 ≤ (Fm 18).toInt ∧ (Fm 18).toInt ≤ 1) (t0 : 0 ≤ t) (t6 : t < 6) (es : ci A h 5 t = ai Am 22 (6 * (Fm 18).toInt + t)) (s6 : 0 ≤ ci A h 5 t ∧ ci A h 5 t ≤ 6) (hd : ∀ u, 0 ≤ u → u < ci A h 5 t → ci A q 1 (t * 6 + u) = ai Am 48 (6 + (t * 6 + u)) ∧ ci A h 7 (t * 6 + u) = ai Am 24 (6 * (6 * (Fm 18).toInt + t) + u)) (e1 : y1.toInt = t) (e3 : x3.toInt = t * 6 + ci A h 5 t) : ∀ {n m : Nat} {x4 y2 : Int32}, x4.toInt = t * 6 + y2.toInt → 0 ≤ y2.toInt → y2.toInt ≤ ci A h 5 t → P2 (e_House_isEnded_18 n P F A J h q x3 x4) (d_isEnded_2 m Fm Am Jm y1 y2) (fun a b => a = b ∧ ((a.toInt = 1) ∨ (a.toInt = 0 ∧ 0 < ci A h 5 t))) := by
  intro n
  induction n with
  | zero => intro m x4 y2 _ _ _ a b ha; cases ha
  | succ n ih =>
    intro m x4 y2 e4 u0 u1
    cases m with
    | zero => intro a b _ hb; cases hb
    | succ m =>
      unfold e_House_isEnded_18 d_isEnded_2
      refine p2_r (v_steps hs (by omega)) ?_
      intro v1 q1
      rw [e1, ← es] at q1
      refine p2_cl (fun c => ?_) (fun c => ?_)
      · rw [i_ge] at c
        refine p2_cr (fun _ => p2_some ⟨rfl, .inl i_1⟩) (fun c2 => ?_)
        rw [i_nge] at c2
        omega
      · rw [i_nge] at c
        refine p2_cr (fun c2 => ?_) (fun c2 => ?_)
        · rw [i_ge] at c2
          omega
        refine p2_bl (fun v3 h3 => p2_bl (fun v4 h4 => ?_))
        refine p2_br (fun w3 k3 => ?_)
        refine p2_r (v_stepAt hs (by omega) (by omega)) ?_
        intro w4 q4
        refine p2_br (fun w5 k5 => ?_)
        have g3 := (gl h3).2.2
        have g4 := (gl h4).2.2
        have g5 := (gm k3).2.2
        have g6 := (gm k5).2.2
        obtain ⟨d1, d2⟩ := hd y2.toInt u0 (by omega)
        rw [rx6 (by omega) (by omega), e1] at g5
        rw [q4, e1] at g6
        rw [e4] at g3 g4
        have z : 6 + 6 * t + y2.toInt = 6 + (t * 6 + y2.toInt) := by omega
        rw [z] at g5
        have z2 : v3.toInt = w3.toInt := by omega
        have z4 : v4.toInt = w5.toInt := by omega
        have e41 := i_add (x := x4) (y := 1) (by rw [i_1]; omega) (by rw [i_1]; omega)
        have e21 := i_add (x := y2) (y := 1) (by rw [i_1]; omega) (by rw [i_1]; omega)
        rw [i_1] at e41 e21
        refine p2_cl (fun c3 => ?_) (fun c3 => ?_)
        · rw [i_ge] at c3
          refine p2_cr (fun _ => ?_) (fun c4 => ?_)
          · exact ih (by omega) (by omega) (by omega)
          · rw [i_nge] at c4
            omega
        · rw [i_nge] at c3
          refine p2_cr (fun c4 => ?_) (fun c4 => ?_)
          · rw [i_ge] at c4
            omega
          · exact p2_some ⟨rfl, .inr ⟨i_0, by omega⟩⟩
theorem p2_ended (H : NHx h F A Fm Am) (S : SBx ex h q F A Am 48 0) (t0 : 0 ≤ t) (t1 : t < (F h 16).toInt) (e1 : y1.toInt = t) (e2 : x2.toInt = t) : P2 (e_House_isEnded n P F A J h q x2) (d_isEnded m Fm Am Jm y1) (fun a b => a = b ∧ ((a.toInt = 1) ∨ (a.toInt = 0 ∧ 0 < ci A h 5 t))) := by
  have ct := H.ct
  have s6 := H.s6 t0
  unfold e_House_isEnded d_isEnded
  refine p2_bl (fun v1 h1 => ?_)
  have g1 := (gl h1).2.2
  rw [e2] at g1
  have m6 := i_mulR (c := 6) (k := 6) (x := x2) (by decide) (by omega) (by omega)
  exact p2_ended18 H.sd t0 (by omega) (H.stp t0 t1) s6 (fun u u0 u1 => ⟨S.dn (by omega) (by omega), (H.row t0 t1 u0 u1).2.1⟩) e1 (by rw [i_add (by rw [m6]; omega) (by rw [m6]; omega), m6]; omega) (by rw [m6, i_0]; omega) (by rw [i_0]; omega) (by rw [i_0]; omega)
/-- a step is over -/
theorem p2_fin {u : Int} (H : NHx h F A Fm Am) (S : SBx ex h q F A Am 48 0) (hq : c_kind q = 2) (t0 : 0 ≤ t) (t1 : t < (F h 16).toInt) (u0 : 0 ≤ u) (u1 : u < ci A h 5 t) (e2 : x2.toInt = t) (e3 : x3.toInt = u) (f1 : y1.toInt = t) (f2 : y2.toInt = u) : P2 (e_House_finish P F A J h q x2 x3) (d_does Fm Am Jm y1 y2) (fun a b => a.2.1 = P ∧ a.2.2.1 = F ∧ (∀ r o, ¬ (r = q ∧ o = 1) → a.2.2.2.1 r o = A r o) ∧ b.2.1 = Fm ∧ (∀ j, j ≠ 48 → b.2.2.1 j = Am j) ∧ (∀ i, 0 ≤ i → (i < 6 ∨ 42 ≤ i) → ai b.2.2.1 48 i = ai Am 48 i) ∧ ∀ k, 0 ≤ k → k < 36 → ci a.2.2.2.1 q 1 k = ai b.2.2.1 48 (6 + k)) := by
  have ct := H.ct
  have s6 := H.s6 t0
  have hs := H.sd
  have hne : h ≠ q := k62 H.kd hq
  obtain ⟨-, -, -, -, -, rw6⟩ := H.row t0 t1 u0 u1
  have y5 := (H.hy.2.2.1 t u t0 t1 u0 u1).2.2.2.2.2.1
  have ic := cx6 (x := x2) (y := x3) (by omega) (by omega)
  have im := rx6 (x := y1) (y := y2) (by omega) (by omega)
  unfold e_House_finish d_does
  refine p2_bl (fun v1 h1 => p2_bl (fun A2 h2 => p2_bl (fun v3 h3 => ?_)))
  refine p2_br (fun w1 k1 => p2_br (fun Am2 k2 => ?_))
  refine p2_r (v_stepAt hs (by omega) (by omega)) ?_
  intro w3 q3
  refine p2_br (fun w4 k4 => ?_)
  have g1 := (gl h1).2.2
  have U2 := (gg_cst h2).2.2
  have g3 := (gl h3).2.2
  have f1' := (gm k1).2.2
  have M2 := gg_st k2
  have f4 := (gm k4).2.2
  rw [ic, e2, e3] at g1 U2 g3
  rw [im, f1, f2] at f1' M2
  rw [q3, f1, f2] at f4
  rw [ci_fr (U2.2.2 h 11 (fun e => hne e.1))] at g3
  rw [ai_fr (M2.2.2.1 28 (by decide))] at f4
  have D0 : ∀ k, 0 ≤ k → k < 36 → ci A q 1 k = ai Am 48 (6 + k) := fun k k0 k1 => S.dn k0 k1
  have z0 : v1 = w1 := i_ext (by
    rw [g1, f1', D0 (t * 6 + u) (by omega) (by omega)]
    congr 1
    omega)
  have D2 : ∀ k, 0 ≤ k → k < 36 → ci A2 q 1 k = ai Am2 48 (6 + k) := fun k k0 k1 => by
    by_cases e : k = t * 6 + u
    · have e' : 6 + k = 6 + 6 * t + u := by omega
      rw [e', M2.2.2.2.1, e, U2.1, z0]
    · rw [U2.2.1 k k0 e, M2.2.2.2.2 (6 + k) (by omega) (by omega)]
      exact D0 k k0 k1
  have out2 : ∀ i, 0 ≤ i → (i < 6 ∨ 42 ≤ i) → ai Am2 48 i = ai Am 48 i := fun i i0 hi => M2.2.2.2.2 i i0 (by omega)
  have done : P2 (some ((), P, F, A2, J)) (some ((), Fm, Am2, Jm)) (fun a b => a.2.1 = P ∧ a.2.2.1 = F ∧ (∀ r o, ¬ (r = q ∧ o = 1) → a.2.2.2.1 r o = A r o) ∧ b.2.1 = Fm ∧ (∀ j, j ≠ 48 → b.2.2.1 j = Am j) ∧ (∀ i, 0 ≤ i → (i < 6 ∨ 42 ≤ i) → ai b.2.2.1 48 i = ai Am 48 i) ∧ ∀ k, 0 ≤ k → k < 36 → ci a.2.2.2.1 q 1 k = ai b.2.2.1 48 (6 + k)) := p2_some ⟨rfl, rfl, U2.2.2, rfl, M2.2.2.1, out2, D2⟩
  rcases rw6 with e6 | ⟨e6, e6'⟩
  · refine p2_cl (fun c => ?_) (fun c => ?_)
    · rw [i_lt, i_0] at c
      refine p2_cr (fun _ => done) (fun c2 => ?_)
      rw [i_nlt, i_0] at c2
      omega
    · rw [i_nlt, i_0] at c
      refine p2_cr (fun c2 => ?_) (fun _ => ?_)
      · rw [i_lt, i_0] at c2
        omega
      have ic2 := cx6 (x := x2) (y := v3) (by omega) (by omega)
      have im2 := rx6 (x := y1) (y := w4) (by omega) (by omega)
      refine p2_bl (fun v5 h5 => p2_br (fun w6 k6 => ?_))
      have g5 := (gl h5).2.2
      have f6 := (gm k6).2.2
      rw [ic2, e2] at g5
      rw [im2, f1] at f6
      have z5 : v5.toInt = w6.toInt := by
        rw [g5, f6, D2 (t * 6 + v3.toInt) (by omega) (by omega)]
        congr 1
        omega
      refine p2_cl (fun c3 => ?_) (fun c3 => ?_)
      · rw [i_le, i_0] at c3
        refine p2_cr (fun _ => done) (fun c4 => ?_)
        rw [i_nle, i_0] at c4
        omega
      · rw [i_nle, i_0] at c3
        refine p2_cr (fun c4 => ?_) (fun _ => ?_)
        · rw [i_le, i_0] at c4
          omega
        refine p2_bl (fun v7 h7 => p2_bl (fun A8 h8 => p2_br (fun w8 k8 => p2_br (fun Am9 k9 => ?_))))
        have g7 := (gl h7).2.2
        have U8 := (gg_cst h8).2.2
        have f8 := (gm k8).2.2
        have M9 := gg_st k9
        rw [ic2, e2] at g7 U8
        rw [im2, f1] at f8 M9
        have z7 : v7 = w8 := i_ext (by
          rw [g7, f8, D2 (t * 6 + v3.toInt) (by omega) (by omega)]
          congr 1
          omega)
        refine p2_some ⟨rfl, rfl, fun r o e => (U8.2.2 r o e).trans (U2.2.2 r o e), rfl, fun j hj => (M9.2.2.1 j hj).trans (M2.2.2.1 j hj), fun i i0 hi => (M9.2.2.2.2 i i0 (by omega)).trans (out2 i i0 hi), fun k k0 k1 => ?_⟩
        show ci A8 q 1 k = ai Am9 48 (6 + k)
        by_cases e : k = t * 6 + v3.toInt
        · have e' : 6 + k = 6 + 6 * t + w4.toInt := by omega
          rw [e', M9.2.2.2.1, e, U8.1, z7]
        · rw [U8.2.1 k k0 e, M9.2.2.2.2 (6 + k) (by omega) (by omega)]
          exact D2 k k0 k1
  · refine p2_cl (fun _ => ?_) (fun c => ?_)
    · refine p2_cr (fun _ => done) (fun c2 => ?_)
      rw [i_nlt, i_0] at c2
      omega
    · rw [i_nlt, i_0] at c
      omega
theorem clamp_v {v s w : Int32} (hs : 1 ≤ s.toInt) (cl : CLx s.toInt v.toInt w.toInt) : (if 0 < (if v < s - 1 then v else s - 1) then (if v < s - 1 then v else s - 1) else 0) = w := by
  have r := i_rng s
  have e := i_sub (x := s) (y := 1) (by rw [i_1]; omega) (by rw [i_1]; omega)
  rw [i_1] at e
  unfold CLx at cl
  refine i_ext ?_
  by_cases c1 : v < s - 1
  · rw [if_pos c1]
    rw [Int32.lt_iff_toInt_lt, e] at c1
    by_cases c2 : (0 : Int32) < v
    · rw [if_pos c2]
      rw [Int32.lt_iff_toInt_lt, i_0] at c2
      rw [if_neg (by omega), if_pos (by omega)] at cl
      omega
    · rw [if_neg c2, i_0]
      rw [Int32.lt_iff_toInt_lt, i_0] at c2
      by_cases c3 : v.toInt < 0
      · rw [if_pos c3] at cl
        omega
      · rw [if_neg c3, if_pos (by omega)] at cl
        omega
  · rw [if_neg c1]
    rw [Int32.lt_iff_toInt_lt, e] at c1
    rw [if_neg (by omega)] at cl
    have cl : w.toInt = s.toInt - 1 := by
      by_cases c3 : v.toInt < s.toInt
      · rw [if_pos c3] at cl
        omega
      · rw [if_neg c3] at cl
        exact cl
    by_cases c2 : (0 : Int32) < s - 1
    · rw [if_pos c2]
      omega
    · rw [if_neg c2, i_0]
      rw [Int32.lt_iff_toInt_lt, i_0, e] at c2
      omega
/-- the step that a man's law tells -/
theorem p2_chosen {u mn : Int} (H : NHx h F A Fm Am) (S : SBx ex h q F A Am 48 0) (hq : c_kind q = 2) (e8 : P 36 8 = h) (e9 : P 36 9 = q) (m0 : 0 ≤ mn) (m1 : mn < (F h 17).toInt) (t0 : 0 ≤ t) (t1 : t < (F h 16).toInt) (u0 : 0 ≤ u) (u1 : u < ci A h 5 t) (et : ai Am 48 (42 + mn) = t) (e54 : ai Am 54 mn = u) (e5 : ci A 36 5 mn = u) (e55 : ci A 36 6 mn = ai Am 55 mn) (e1 : x1.toInt = mn) (f1 : y1.toInt = mn) (e2 : x2.toInt = t) (e3 : x3 = y2) : P2 (e_Sleep_chosenStep n P F A J x1 x2 x3) (d_tells m Fm Am Jm y1 y2) (fun a b => a.1 = b.1 ∧ (0 ≤ a.1.toInt ∧ a.1.toInt < ci A h 5 t) ∧ (a.2.1 = P ∧ a.2.2.1 = F ∧ ∀ r o, ¬ (r = 36 ∧ o = 9) → ¬ (r = h ∧ o = 17) → a.2.2.2.1 r o = A r o) ∧ (∀ k, k ≠ 63 → b.2.1 k = Fm k) ∧ ∀ j, j ≠ 45 → j ≠ 46 → b.2.2.1 j = Am j) := by
  have ct := H.ct
  have s6 := H.s6 t0
  have hs := H.sd
  have hne : h ≠ q := k62 H.kd hq
  have h36 : h ≠ 36 := k6ne H.kd
  have q36 : q ≠ 36 := k2ne hq
  have i42 := kx1 (c := 42) (x := y1) (k := 42) (by decide) (by decide) (by omega)
  have i6 := ix6 (s := Fm 18) (x := y1) hs (by omega)
  have l0 : (0 : Int32).toInt = 0 := by decide
  have l1 : (1 : Int32).toInt = 1 := by decide
  have l2 : (2 : Int32).toInt = 2 := by decide
  have l3 : (3 : Int32).toInt = 3 := by decide
  have l4 : (4 : Int32).toInt = 4 := by decide
  have l5 : (5 : Int32).toInt = 5 := by decide
  unfold e_Sleep_chosenStep d_tells
  refine p2_bl (fun v1 h1 => p2_bl (fun A2 h2 => p2_bl (fun _ hk => ?_)))
  obtain rfl := (gg_chk hk).2.symm
  try rw [e9]
  refine p2_bl (fun v4 h4 => p2_bl (fun v5 h5 => p2_bl (fun A6 h6 => p2_bl (fun _ hk => ?_))))
  obtain rfl := (gg_chk hk).2.symm
  try rw [e8]
  refine p2_bl (fun v8 h8 => p2_bl (fun A9 h9 => p2_bl (fun A10 h10 => p2_bl (fun _ hk => ?_))))
  obtain rfl := (gg_chk hk).2.symm
  try rw [e9]
  refine p2_bl (fun v12 h12 => p2_bl (fun A13 h13 => p2_bl (fun v14 h14 => p2_bl (fun A15 h15 => p2_bl (fun _ hk => ?_)))))
  obtain rfl := (gg_chk hk).2.symm
  try rw [e8]
  have g1 := (gl h1).2.2
  have U2 := (gg_cst h2).2.2
  have g4 := (gl h4).2.2
  have g5 := (gl h5).2.2
  have U6 := (gg_cst h6).2.2
  have g8 := (gl h8).2.2
  have U9 := (gg_cst h9).2.2
  have U10 := (gg_cst h10).2.2
  have g12 := (gl h12).2.2
  have U13 := (gg_cst h13).2.2
  have g14 := (gl h14).2.2
  have U15 := (gg_cst h15).2.2
  rw [l0] at U2
  rw [l1] at U6
  rw [l2] at U9
  rw [l3] at U10
  rw [l4] at U13
  rw [l5] at U15
  have o2 : ∀ r o, ¬ (r = 36 ∧ o = 9) → A2 r o = A r o := U2.2.2
  have o6 : ∀ r o, ¬ (r = 36 ∧ o = 9) → A6 r o = A r o := fun r o e => (U6.2.2 r o e).trans (o2 r o e)
  have o10 : ∀ r o, ¬ (r = 36 ∧ o = 9) → A10 r o = A r o := fun r o e => (U10.2.2 r o e).trans ((U9.2.2 r o e).trans (o6 r o e))
  have o13 : ∀ r o, ¬ (r = 36 ∧ o = 9) → A13 r o = A r o := fun r o e => (U13.2.2 r o e).trans (o10 r o e)
  have o15 : ∀ r o, ¬ (r = 36 ∧ o = 9) → A15 r o = A r o := fun r o e => (U15.2.2 r o e).trans (o13 r o e)
  rw [e1, e5] at g1
  rw [ci_fr (o2 36 5 (by decide)), e1, e5] at g4
  have ic := cx6 (x := x2) (y := v4) (by omega) (by omega)
  rw [ic, e2, g4, ci_fr (o2 q 1 (fun e => q36 e.1))] at g5
  rw [ci_fr (o6 h 5 (fun e => h36 e.1)), e2] at g8
  rw [ci_fr (o10 q 2 (fun e => q36 e.1)), e2] at g12
  rw [ci_fr (o13 36 6 (by decide)), e1, e55] at g14
  have c0 : ci A15 36 9 0 = u := by rw [U15.2.1 0 (by decide) (by decide), U13.2.1 0 (by decide) (by decide), U10.2.1 0 (by decide) (by decide), U9.2.1 0 (by decide) (by decide), U6.2.1 0 (by decide) (by decide), U2.1]; exact g1
  have c1 : ci A15 36 9 1 = v5.toInt := by rw [U15.2.1 1 (by decide) (by decide), U13.2.1 1 (by decide) (by decide), U10.2.1 1 (by decide) (by decide), U9.2.1 1 (by decide) (by decide)]; exact U6.1
  have c2 : ci A15 36 9 2 = v8.toInt := by rw [U15.2.1 2 (by decide) (by decide), U13.2.1 2 (by decide) (by decide), U10.2.1 2 (by decide) (by decide)]; exact U9.1
  have c3 : ci A15 36 9 3 = x3.toInt := by rw [U15.2.1 3 (by decide) (by decide), U13.2.1 3 (by decide) (by decide)]; exact U10.1
  have c4 : ci A15 36 9 4 = v12.toInt := by rw [U15.2.1 4 (by decide) (by decide)]; exact U13.1
  have c5 : ci A15 36 9 5 = v14.toInt := U15.1
  refine p2_br (fun w1 k1 => p2_br (fun w2 k2 => p2_br (fun w3 k3 => p2_br (fun w4 k4 => p2_br (fun B5 k5 => p2_br (fun w6 k6 => p2_br (fun w7 k7 => p2_br (fun B8 k8 => ?_))))))))
  have a1 := (gm k1).2.2
  have a2 := (gm k2).2.2
  have a3 := (gm k3).2.2
  have a4 := (gm k4).2.2
  have M5 := gg_st k5
  have a6 := (gm k6).2.2
  have a7 := (gm k7).2.2
  have M8 := gg_st k8
  rw [i42, f1, et] at a1
  rw [i6, f1] at a2 a3
  rw [f1, e54] at a4
  rw [l0] at M5
  rw [ai_fr (M5.2.2.1 54 (by decide)), f1, e54] at a6
  rw [rx6 (by omega) (by omega), a1, a6, ai_fr (M5.2.2.1 48 (by decide))] at a7
  rw [l1] at M8
  refine p2_r (v_steps hs (by omega)) ?_
  intro w9 a9
  refine p2_br (fun B10 k10 => p2_br (fun B11 k11 => p2_br (fun w12 k12 => p2_br (fun B13 k13 => p2_br (fun w14 k14 => p2_br (fun B15 k15 => p2_br (fun Fm16 k16 => ?_)))))))
  have M10 := gg_st k10
  have M11 := gg_st k11
  have a12 := (gm k12).2.2
  have M13 := gg_st k13
  have a14 := (gm k14).2.2
  have M15 := gg_st k15
  have u16 := gg_pfz k16
  rw [l2] at M10
  rw [l3] at M11
  rw [l4] at M13
  rw [l5] at M15
  have b8 : ∀ j, j ≠ 45 → B8 j = Am j := fun j hj => (M8.2.2.1 j hj).trans (M5.2.2.1 j hj)
  have b11 : ∀ j, j ≠ 45 → B11 j = Am j := fun j hj => (M11.2.2.1 j hj).trans ((M10.2.2.1 j hj).trans (b8 j hj))
  have b13 : ∀ j, j ≠ 45 → B13 j = Am j := fun j hj => (M13.2.2.1 j hj).trans (b11 j hj)
  have b15 : ∀ j, j ≠ 45 → B15 j = Am j := fun j hj => (M15.2.2.1 j hj).trans (b13 j hj)
  rw [a1, ai_fr (b8 22 (by decide)), ← H.stp t0 t1] at a9
  rw [a1, ai_fr (b11 48 (by decide))] at a12
  rw [f1, ai_fr (b13 55 (by decide))] at a14
  have d0 : ai B15 45 0 = u := by rw [M15.2.2.2.2 0 (by decide) (by decide), M13.2.2.2.2 0 (by decide) (by decide), M11.2.2.2.2 0 (by decide) (by decide), M10.2.2.2.2 0 (by decide) (by decide), M8.2.2.2.2 0 (by decide) (by decide), M5.2.2.2.1]; exact a4
  have d1 : ai B15 45 1 = w7.toInt := by rw [M15.2.2.2.2 1 (by decide) (by decide), M13.2.2.2.2 1 (by decide) (by decide), M11.2.2.2.2 1 (by decide) (by decide), M10.2.2.2.2 1 (by decide) (by decide)]; exact M8.2.2.2.1
  have d2 : ai B15 45 2 = w9.toInt := by rw [M15.2.2.2.2 2 (by decide) (by decide), M13.2.2.2.2 2 (by decide) (by decide), M11.2.2.2.2 2 (by decide) (by decide)]; exact M10.2.2.2.1
  have d3 : ai B15 45 3 = y2.toInt := by rw [M15.2.2.2.2 3 (by decide) (by decide), M13.2.2.2.2 3 (by decide) (by decide)]; exact M11.2.2.2.1
  have d4 : ai B15 45 4 = w12.toInt := by rw [M15.2.2.2.2 4 (by decide) (by decide)]; exact M13.2.2.2.1
  have d5 : ai B15 45 5 = w14.toInt := M15.2.2.2.1
  have z1 : v5.toInt = w7.toInt := by
    rw [g5, a7, S.dn (by omega) (by omega)]
    congr 1
    omega
  have z4 : v12.toInt = w12.toInt := by rw [g12, a12]; exact (S.sf t0 (by omega)).1
  have fa : ∀ i, 0 ≤ i → i < 6 → ci A15 36 9 i = ai B15 45 i := fun i i0 i1 => by
    have : i = 0 ∨ i = 1 ∨ i = 2 ∨ i = 3 ∨ i = 4 ∨ i = 5 := by omega
    rcases this with rfl | rfl | rfl | rfl | rfl | rfl
    · rw [c0, d0]
    · rw [c1, d1]; exact z1
    · rw [c2, d2, g8, a9]
    · rw [c3, d3, e3]
    · rw [c4, d4]; exact z4
    · rw [c5, d5, g14, a14]
  have s1 : 1 ≤ ci A h 5 t := by omega
  -- the law itself
  have law : P2 (e_Laws_tellsTo n P F A15 J h x1) (d_tells_130 m Fm16 B15 Jm y1 w1 w3 w2) (TRx (ci A h 5 t) h P F A15 Fm16 B15) := by
    unfold e_Laws_tellsTo
    refine p2_bl (fun z hz => ?_)
    have gz := (gl hz).2.2
    rw [ci_fr (o15 h 14 (fun e => h36 e.1)), e1] at gz
    have hS : ∀ (v : Int32) (A : Nat → Nat → Int32) (J : Nat → Nat → Int64), A 22 = B15 22 → d_stepsOf Fm16 A J w1 = some v → v.toInt = ci A15 h 5 t := fun v A J hA hv => by
      have a := v_steps (Fm := Fm16) (by rw [u16.2 18 (by decide)]; exact hs) (by omega) v hv
      rw [a, ai_fr hA, ai_fr (b15 22 (by decide)), u16.2 18 (by decide), a1, ci_fr (o15 h 5 (fun e => h36 e.1))]
      exact (H.stp t0 t1).symm
    have h5' : ci A15 h 5 t = ci A h 5 t := by rw [ci_fr (o15 h 5 (fun e => h36 e.1))]
    rw [h5'] at hS
    rcases H.2.2.1 mn m0 m1 with ⟨n1, n2⟩ | ⟨C, B, e, ⟨p0, q0, lB, k, qq, L, N, lst⟩, le⟩
    · -- no law
      rw [n1] at gz
      have eq : w2.toInt = w3.toInt := by rw [a2, a3]; exact n2
      cases m with
      | zero => intro a b _ hb; cases hb
      | succ m =>
        unfold d_tells_130
        refine p2_cr (fun _ => ?_) (fun c => ?_)
        · refine p2_br (fun w18 k18 => ?_)
          have a18 := (gm k18).2.2
          rw [f1, ai_fr (b15 54 (by decide)), e54] at a18
          have lst : P2 (e_Laws_tellsTo_233 n P F A15 J h) (some (w18, Fm16, B15, Jm)) (TRx (ci A h 5 t) h P F A15 Fm16 B15) := by
            unfold e_Laws_tellsTo_233
            refine p2_bl (fun v17 h17 => p2_some ⟨?_, ⟨rfl, rfl, fun _ _ _ => rfl⟩, fun _ _ => rfl, fun _ _ => rfl⟩)
            have g17 := (gl h17).2.2
            rw [l0, c0] at g17
            show CLx _ v17.toInt w18.toInt
            exact CLx.last (by omega) (by omega) (by omega)
          cases n with
          | zero => intro a b ha; cases ha
          | succ n =>
            unfold e_Laws_tellsTo_13
            have lst' : P2 (e_Laws_tellsTo_233 n P F A15 J h) (some (w18, Fm16, B15, Jm)) (TRx (ci A h 5 t) h P F A15 Fm16 B15) := lst
            refine p2_cl (fun _ => lst') (fun _ => p2_cl (fun _ => lst') (fun c => ?_))
            rw [i_nlt, l0] at c
            omega
        · rw [i_nge] at c
          omega
    · -- a law
      have w := LPx.le L
      have f15 : ∀ {L C B : Int}, BLW L C B h A A15 Am B15 := fun {L C B} => ⟨fun i _ _ => by rw [ci_fr (o15 h 15 (fun e => h36 e.1)), ci_fr (o15 h 16 (fun e => h36 e.1))]; exact ⟨rfl, rfl⟩, fun i _ _ => by rw [ai_fr (b15 42 (by decide)), ai_fr (b15 43 (by decide))]; exact ⟨rfl, rfl⟩, fun q h1 h2 i _ _ => by rw [ai_fr (b15 q (by omega))]⟩
      refine p2_laws (C := C) (r0 := h) (S := ci A h 5 t) (A0 := A15) (Am0 := B15) h36 (by rw [ai_fr (b15 40 (by decide))]; exact H.2.2.2.2.2.2.2.2.1) H.2.2.2.2.2.2.2.1 ?_ ?_ ?_ hS (by rw [u16.1]) (k := k) (p := ci A h 14 mn) (b := ai Am 34 (6 * (Fm 18).toInt + mn)) (q := qq) (e := e) ?_ ?_ p0 q0 le (fun _ _ _ => rfl) (fun _ _ => rfl) fa gz (by decide) (by decide) (by rw [l0]; omega) a2 (by rw [a3]; exact lst)
      · rw [d0, f1, ai_fr (b15 54 (by decide)), e54]
      · rw [d0]; exact u0
      · rw [d0]; exact u1
      · exact LPx.fr (L := qq) (B := ai Am 34 (6 * (Fm 18).toInt + mn) + k) f15 (Int.le_refl _) L p0 (Int.le_refl _) q0 (Int.le_refl _)
      · exact N.fr (L := e) (B := ai Am 34 (6 * (Fm 18).toInt + mn) + k + 1) f15 (by omega) (Int.le_refl _) (by omega) (by omega) (Int.le_refl _)
  refine p2_bindl law ?_
  rintro ⟨v17, P18, F19, A20, J21⟩ ⟨w, Fm17, B17, Jm17⟩ ⟨cl, ⟨e18, e19, oA⟩, oF, oB⟩
  dsimp only at cl e18 e19 oA oF oB ⊢
  rw [e18, e19]
  refine po_bl (fun _ hk => ?_)
  obtain rfl := (gg_chk hk).2.symm
  try rw [e8]
  refine po_bl (fun v23 h23 => po_some ?_)
  have g23 := (gl h23).2.2
  rw [e2, ci_fr (oA h 5 (fun e => absurd e.2 (by decide))), ci_fr (o15 h 5 (fun e => h36 e.1))] at g23
  rw [← g23] at cl
  have wb : 0 ≤ w.toInt ∧ w.toInt < v23.toInt := by
    unfold CLx at cl
    split at cl
    · omega
    · split at cl <;> omega
  have ev := clamp_v (by omega) cl
  refine ⟨ev, ?_, ⟨rfl, rfl, fun r o h1 h2 => (oA r o h2).trans (o15 r o h1)⟩, fun k hk => (oF k hk).trans (u16.2 k hk), fun j h45 h46 => (oB j h46).trans (b15 j h45)⟩
  dsimp only
  rw [ev, ← g23]
  exact wb
end H9ez2
