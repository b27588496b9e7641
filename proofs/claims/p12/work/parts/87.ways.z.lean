section Qz76
/-! the class: ways, house, laws -/
section W87
variable {P : Nat → Nat → Nat} {F : Nat → Nat → Int32} {A A' A0 A1 : Nat → Nat → Nat → Int32} {J : Nat → Nat → Nat → Int64} {β : Type} {Q : β → Prop} {r0 r1 h : Nat}
theorem ok_ldn {f : Nat → Int32} {n : Nat} {i : Int32} {g : Int32 → Option β} (h0 : 0 ≤ i.toInt) (h1 : i.toInt < (n : Int)) (kk : ∀ v : Int32, ok (g v) Q) : ok ((m_ld f n i).bind g) Q := ok_ld0 h0 h1 (kk _)
theorem k6ne (hk : c_kind h = 6) : h ≠ 36 := fun e => absurd hk (by rw [e]; decide)
theorem k2ne (hk : c_kind h = 2) : h ≠ 36 := fun e => absurd hk (by rw [e]; decide)
theorem k62 (hk : c_kind h = 6) (hk' : c_kind r0 = 2) : h ≠ r0 := fun e => absurd hk (by rw [e, hk']; decide)
/-- only the table of ways has changed -/
def AWc (A A' : Nat → Nat → Nat → Int32) : Prop := ∀ r o, ¬ (r = 36 ∧ o = 2) → A' r o = A r o
theorem AWc.tr (a : AWc A A1) (b : AWc A1 A') : AWc A A' := fun r o hr => (b r o hr).trans (a r o hr)
theorem AWc.rc (a : AWc A A') (R : Rc F A) : Rc F A' := by
  refine ⟨R.1, fun r o i hi => ?_⟩
  by_cases e : r = 36 ∧ o = 2
  · obtain ⟨rfl, rfl⟩ := e
    exact trivial
  · rw [ci_fr (a r o e)]
    exact R.2 r o i hi
theorem AWc.cu {i v : Int} (U : CUm A A' 36 2 i v) : AWc A A' := U.2.2
theorem AWc.hv (a : AWc A A') (hk : c_kind h = 6) (H : HVc F A h) : HVc F A' h := H.cg (fun _ => rfl) (fun o _ => a h o (fun e => k6ne hk e.1))
theorem s_takeDoors_39 (hk : c_kind r1 = 6) {x2 : Int32} : ∀ {n : Nat} {A : Nat → Nat → Nat → Int32} {J : Nat → Nat → Nat → Int64} {x3 : Int32}, Rc F A → HVc F A r1 → 0 ≤ x3.toInt ∧ x3.toInt ≤ 12 → 13 - x3.toInt < (n : Int) → ok (e_Ways_takeDoors_39 n P F A J r1 x2 x3) (fun r => r.2.1 = P ∧ r.2.2.1 = F ∧ AWc A r.2.2.2.1) := by
  intro n
  induction n with
  | zero => intro A J x3 R H hx hn; exact absurd hn (by omega)
  | succ n ih =>
    intro A J x3 R H hx hn
    have l1 : (1 : Int32).toInt = 1 := by decide
    have rd : 0 ≤ (F r1 14).toInt ∧ (F r1 14).toInt ≤ 12 := by have := R.1 r1 14; rw [hk] at this; exact this
    unfold e_Ways_takeDoors_39
    refine ok_cond (fun _ => ok_some ⟨rfl, rfl, fun _ _ _ => rfl⟩) (fun c => ?_)
    rw [i_nge] at c
    have e3 := i_add (x := x3) (y := 1) (by omega) (by omega)
    refine ok_cond (fun _ => ?_) (fun _ => ?_)
    · unfold e_Ways_takeDoors_127
      exact ih R H (by omega) (by omega)
    · have hv := H.1 x3.toInt hx.1 c
      refine ok_ldc R hk (by omega) (by omega) ?_
      intro v6 v6e v6r
      change -1 ≤ v6.toInt ∧ v6.toInt ≤ 7 at v6r
      refine ok_ldc R hk (by omega) (by omega) ?_
      intro v7 v7e v7r
      change -1 ≤ v7.toInt ∧ v7.toInt ≤ 7 at v7r
      refine ok_ldc R hk (by omega) (by omega) ?_
      intro v8 v8e v8r
      change -1 ≤ v8.toInt ∧ v8.toInt ≤ 7 at v8r
      refine ok_ldc R hk (by omega) (by omega) ?_
      intro v9 v9e v9r
      change -1 ≤ v9.toInt ∧ v9.toInt ≤ 7 at v9r
      have m6 := i_mulR (c := 8) (k := 8) (x := v6) (by decide) (by omega) (by omega)
      have m8 := i_mulR (c := 8) (k := 8) (x := v8) (by decide) (by omega) (by omega)
      have a6 := i_add (x := v6 * 8) (y := v7) (by omega) (by omega)
      have a8 := i_add (x := v8 * 8) (y := v9) (by omega) (by omega)
      refine ok_ldn (by omega) (by omega) (fun v10 => ?_)
      refine ok_ldn (by omega) (by omega) (fun v11 => ?_)
      refine ok_cst (by omega) (by omega) ?_
      intro A2 U2
      refine ok_cst (by omega) (by omega) ?_
      intro A3 U3
      have w : AWc A A3 := (AWc.cu U2).tr (AWc.cu U3)
      exact ok_mono (ih (w.rc R) (w.hv hk H) (by omega) (by omega)) (fun r hr => ⟨hr.1, hr.2.1, w.tr hr.2.2⟩)
theorem s_takeDoors_11 (hk : c_kind r1 = 6) {x2 : Int32} : ∀ {n : Nat} {A : Nat → Nat → Nat → Int32} {J : Nat → Nat → Nat → Int64} {x3 : Int32}, Rc F A → HVc F A r1 → 0 ≤ x3.toInt ∧ x3.toInt ≤ 8 → 30 - x3.toInt < (n : Int) → ok (e_Ways_takeDoors_11 n P F A J r1 x2 x3) (fun r => r.2.1 = P ∧ r.2.2.1 = F ∧ AWc A r.2.2.2.1) := by
  intro n
  induction n with
  | zero => intro A J x3 R H hx hn; exact absurd hn (by omega)
  | succ n ih =>
    intro A J x3 R H hx hn
    have l1 : (1 : Int32).toInt = 1 := by decide
    have l0 : (0 : Int32).toInt = 0 := by decide
    have rd : 0 ≤ (F r1 13).toInt ∧ (F r1 13).toInt ≤ 8 := by have := R.1 r1 13; rw [hk] at this; exact this
    unfold e_Ways_takeDoors_11
    refine ok_cond (fun _ => s_takeDoors_39 hk R H (by decide) (by omega)) (fun c => ?_)
    rw [i_nge] at c
    have e3 := i_add (x := x3) (y := 1) (by omega) (by omega)
    have m6 := i_mulR (c := 8) (k := 8) (x := x3) (by decide) (by omega) (by omega)
    have a6 := i_add (x := x3 * 8) (y := x3) (by omega) (by omega)
    refine ok_cst (by omega) (by omega) ?_
    intro A2 U2
    have w : AWc A A2 := AWc.cu U2
    exact ok_mono (ih (w.rc R) (w.hv hk H) (by omega) (by omega)) (fun r hr => ⟨hr.1, hr.2.1, w.tr hr.2.2⟩)
theorem s_takeDoors {n : Nat} {x2 : Int32} (hk : c_kind r1 = 6) (R : Rc F A) (H : HVc F A r1) (hn : 40 ≤ n) : ok (e_Ways_takeDoors n P F A J r1 x2) (fun r => r.2.1 = P ∧ r.2.2.1 = F ∧ AWc A r.2.2.2.1) := by
  have l0 : (0 : Int32).toInt = 0 := by decide
  unfold e_Ways_takeDoors
  refine ok_cfi ?_
  intro A2 h1 h2 h3
  have w : AWc A A2 := h3
  exact ok_mono (s_takeDoors_11 hk (w.rc R) (w.hv hk H) (by decide) (by omega)) (fun r hr => ⟨hr.1, hr.2.1, w.tr hr.2.2⟩)
section JW
variable {Q : Unit × (Nat → Nat → Nat) × (Nat → Nat → Int32) × (Nat → Nat → Nat → Int32) × (Nat → Nat → Nat → Int64) → Prop}
variable {K2 : (Nat → Nat → Nat) → (Nat → Nat → Int32) → (Nat → Nat → Nat → Int32) → (Nat → Nat → Nat → Int64) → Int32 → Int32 → Option (Unit × (Nat → Nat → Nat) × (Nat → Nat → Int32) × (Nat → Nat → Nat → Int32) × (Nat → Nat → Nat → Int64))}
variable {K9 : (Nat → Nat → Nat) → (Nat → Nat → Int32) → (Nat → Nat → Nat → Int32) → (Nat → Nat → Nat → Int64) → Int32 → Int32 → Int32 → Option (Unit × (Nat → Nat → Nat) × (Nat → Nat → Int32) × (Nat → Nat → Nat → Int32) × (Nat → Nat → Nat → Int64))}
variable {x1 x2 x3 : Int32}
theorem s_join_30 (h1 : x1.toInt ≤ 8) (h2 : 0 ≤ x2.toInt ∧ x2.toInt < 8) (h3 : 0 ≤ x3.toInt ∧ x3.toInt < 8) (hK : ∀ A J, AWc A0 A → ok (K9 P F A J x1 x2 (x3 + 1)) Q) : ∀ {n : Nat} {A : Nat → Nat → Nat → Int32} {J : Nat → Nat → Nat → Int64} {x4 x5 : Int32}, AWc A0 A → 0 ≤ x5.toInt ∧ x5.toInt ≤ 8 → 9 - x5.toInt < (n : Int) → ok (e_Ways_joinWays_30 K2 K9 n P F A J x1 x2 x3 x4 x5) Q := by
  intro n
  induction n with
  | zero => intro A J x4 x5 w hx hn; exact absurd hn (by omega)
  | succ n ih =>
    intro A J x4 x5 w hx hn
    have l1 : (1 : Int32).toInt = 1 := by decide
    have go : ok (e_Ways_joinWays_97 K2 K9 n P F A J x1 x2 x3) Q := by
      unfold e_Ways_joinWays_97
      exact hK A J w
    unfold e_Ways_joinWays_30
    refine ok_cond (fun _ => go) (fun c => ?_)
    rw [i_nge] at c
    refine ok_cond (fun _ => go) (fun _ => ?_)
    have e3 := i_add (x := x5) (y := 1) (by omega) (by omega)
    have m2 := i_mulR (c := 8) (k := 8) (x := x2) (by decide) (by omega) (by omega)
    have m3 := i_mulR (c := 8) (k := 8) (x := x3) (by decide) (by omega) (by omega)
    have a2 := i_add (x := x2 * 8) (y := x5) (by omega) (by omega)
    have a3 := i_add (x := x3 * 8) (y := x5) (by omega) (by omega)
    refine ok_ldn (by omega) (by omega) (fun v6 => ?_)
    refine ok_ldn (by omega) (by omega) (fun v7 => ?_)
    refine ok_cond (fun _ => ?_) (fun _ => ?_)
    · unfold e_Ways_joinWays_91
      exact ih w (by omega) (by omega)
    · refine ok_cst (by omega) (by omega) ?_
      intro A2 U2
      exact ih (w.tr (AWc.cu U2)) (by omega) (by omega)
theorem s_join_9 (h1 : x1.toInt ≤ 8) (h2 : 0 ≤ x2.toInt ∧ x2.toInt < 8) (hK : ∀ A J, AWc A0 A → ok (K2 P F A J x1 (x2 + 1)) Q) : ∀ {n : Nat} {A : Nat → Nat → Nat → Int32} {J : Nat → Nat → Nat → Int64} {x3 : Int32}, AWc A0 A → 0 ≤ x3.toInt ∧ x3.toInt ≤ 8 → 30 - x3.toInt < (n : Int) → ok (e_Ways_joinWays_9 K2 n P F A J x1 x2 x3) Q := by
  intro n
  induction n with
  | zero => intro A J x3 w hx hn; exact absurd hn (by omega)
  | succ n ih =>
    intro A J x3 w hx hn
    have l1 : (1 : Int32).toInt = 1 := by decide
    have l0 : (0 : Int32).toInt = 0 := by decide
    unfold e_Ways_joinWays_9
    refine ok_cond (fun _ => hK A J w) (fun c => ?_)
    rw [i_nge] at c
    have e3 := i_add (x := x3) (y := 1) (by omega) (by omega)
    have m3 := i_mulR (c := 8) (k := 8) (x := x3) (by decide) (by omega) (by omega)
    have a3 := i_add (x := x3 * 8) (y := x2) (by omega) (by omega)
    refine ok_ldn (by omega) (by omega) (fun v3 => ?_)
    exact s_join_30 h1 h2 ⟨by omega, by omega⟩ (fun A J w => ih w (by omega) (by omega)) w (by decide) (by omega)
theorem s_join_2 (h1 : x1.toInt ≤ 8) : ∀ {n : Nat} {A : Nat → Nat → Nat → Int32} {J : Nat → Nat → Nat → Int64} {x2 : Int32}, AWc A0 A → 0 ≤ x2.toInt ∧ x2.toInt ≤ 8 → 60 - x2.toInt < (n : Int) → ok (e_Ways_joinWays_2 n P F A J x1 x2) (fun r => r.2.1 = P ∧ r.2.2.1 = F ∧ AWc A0 r.2.2.2.1) := by
  intro n
  induction n with
  | zero => intro A J x2 w hx hn; exact absurd hn (by omega)
  | succ n ih =>
    intro A J x2 w hx hn
    have l1 : (1 : Int32).toInt = 1 := by decide
    have l0 : (0 : Int32).toInt = 0 := by decide
    unfold e_Ways_joinWays_2
    refine ok_cond (fun _ => ok_some ⟨rfl, rfl, w⟩) (fun c => ?_)
    rw [i_nge] at c
    have e3 := i_add (x := x2) (y := 1) (by omega) (by omega)
    exact s_join_9 h1 ⟨by omega, by omega⟩ (fun A J w => ih w (by omega) (by omega)) w (by decide) (by omega)
end JW
/-- what 'between' leaves -/
def BWc (P : Nat → Nat → Nat) (F : Nat → Nat → Int32) (A : Nat → Nat → Nat → Int32) (r : Int32 × (Nat → Nat → Nat) × (Nat → Nat → Int32) × (Nat → Nat → Nat → Int32) × (Nat → Nat → Nat → Int64)) : Prop := r.2.1 = P ∧ (∀ r' k, ¬ (r' = 36 ∧ k = 101) → r.2.2.1 r' k = F r' k) ∧ AWc A r.2.2.2.1 ∧ Rc r.2.2.1 r.2.2.2.1
theorem s_between {n : Nat} {x2 x3 x4 : Int32} (hk : c_kind r1 = 6) (R : Rc F A) (H : HVc F A r1) (h3 : 0 ≤ x3.toInt ∧ x3.toInt ≤ 7) (h4 : 0 ≤ x4.toInt ∧ x4.toInt ≤ 7) (hn : 70 ≤ n) : ok (e_Ways_between n P F A J r1 x2 x3 x4) (BWc P F A) := by
  have m3 := i_mulR (c := 8) (k := 8) (x := x3) (by decide) (by omega) (by omega)
  have a3 := i_add (x := x3 * 8) (y := x4) (by omega) (by omega)
  have l0 : (0 : Int32).toInt = 0 := by decide
  unfold e_Ways_between
  refine ok_cond (fun _ => ?_) (fun _ => ?_)
  · unfold e_Ways_between_27
    refine ok_ldn (by omega) (by omega) (fun v => ?_)
    exact ok_some ⟨rfl, fun _ _ _ => rfl, fun _ _ _ => rfl, R⟩
  · refine ok_call (s_takeDoors hk R H (by omega)) ?_
    rintro ⟨u, P2, F2, A2, J2⟩ ⟨e1, e2, w⟩
    dsimp only at e1 e2 w ⊢
    subst e1
    subst e2
    have rd : 0 ≤ (F2 r1 13).toInt ∧ (F2 r1 13).toInt ≤ 8 := by have := R.1 r1 13; rw [hk] at this; exact this
    unfold e_Ways_joinWays
    refine ok_call (s_join_2 (A0 := A2) rd.2 (fun _ _ _ => rfl) (by decide) (by omega)) ?_
    rintro ⟨u3, P3, F3, A3, J3⟩ ⟨e1, e2, w3⟩
    dsimp only at e1 e2 w3 ⊢
    subst e1
    subst e2
    refine ok_cpf ?_
    intro F4 U4
    refine ok_ldn (by omega) (by omega) (fun v => ?_)
    exact ok_some ⟨rfl, U4.2, w.tr w3, ((w.tr w3).rc R).pf U4 trivial⟩
theorem s_isEnded_18 : ∀ {n : Nat} {x3 x4 : Int32}, x3.toInt ≤ 36 → 0 ≤ x4.toInt ∧ x4.toInt ≤ 36 → 37 - x4.toInt < (n : Int) → ok (e_House_isEnded_18 n P F A J r0 r1 x3 x4) (fun v => v.toInt = 0 ∨ v.toInt = 1) := by
  intro n
  induction n with
  | zero => intro x3 x4 h3 hx hn; exact absurd hn (by omega)
  | succ n ih =>
    intro x3 x4 h3 hx hn
    have l1 : (1 : Int32).toInt = 1 := by decide
    unfold e_House_isEnded_18
    refine ok_cond (fun _ => ok_some (.inr (by decide))) (fun c => ?_)
    rw [i_nge] at c
    have e3 := i_add (x := x4) (y := 1) (by omega) (by omega)
    refine ok_ldn (by omega) (by omega) (fun v3 => ?_)
    refine ok_ldn (by omega) (by omega) (fun v4 => ?_)
    exact ok_cond (fun _ => ih h3 (by omega) (by omega)) (fun _ => ok_some (.inl (by decide)))
theorem s_isEnded {n : Nat} {x2 : Int32} (hk : c_kind r0 = 6) (R : Rc F A) (h2 : 0 ≤ x2.toInt ∧ x2.toInt ≤ 5) (hn : 40 ≤ n) : ok (e_House_isEnded n P F A J r0 r1 x2) (fun v => v.toInt = 0 ∨ v.toInt = 1) := by
  unfold e_House_isEnded
  refine ok_ldc R hk (by omega) (by omega) ?_
  intro v _ vr
  change 0 ≤ v.toInt ∧ v.toInt ≤ 6 at vr
  have m := i_mulR (c := 6) (k := 6) (x := x2) (by decide) (by omega) (by omega)
  have a := i_add (x := x2 * 6) (y := v) (by omega) (by omega)
  exact s_isEnded_18 (by omega) (by omega) (by omega)
theorem s_worth_21 : ∀ {n : Nat} {x3 x4 x5 : Int32}, x4.toInt ≤ 36 → 0 ≤ x5.toInt ∧ x5.toInt ≤ 36 → 37 - x5.toInt < (n : Int) → ok (e_House_worth_21 n P F A J r0 r1 x3 x4 x5) (fun _ => True) := by
  intro n
  induction n with
  | zero => intro x3 x4 x5 h3 hx hn; exact absurd hn (by omega)
  | succ n ih =>
    intro x3 x4 x5 h3 hx hn
    have l1 : (1 : Int32).toInt = 1 := by decide
    unfold e_House_worth_21
    refine ok_cond (fun _ => ok_some trivial) (fun c => ?_)
    rw [i_nge] at c
    have e3 := i_add (x := x5) (y := 1) (by omega) (by omega)
    refine ok_ldn (by omega) (by omega) (fun v3 => ?_)
    refine ok_ldn (by omega) (by omega) (fun v4 => ?_)
    refine ok_ldn (by omega) (by omega) (fun v5 => ?_)
    refine ok_ldn (by omega) (by omega) (fun v6 => ?_)
    refine ok_ldn (by omega) (by omega) (fun v7 => ?_)
    exact ih h3 (by omega) (by omega)
theorem s_worth {n : Nat} {x2 : Int32} (hk : c_kind r0 = 6) (R : Rc F A) (h2 : 0 ≤ x2.toInt ∧ x2.toInt ≤ 5) (hn : 40 ≤ n) : ok (e_House_worth n P F A J r0 r1 x2) (fun _ => True) := by
  unfold e_House_worth
  refine ok_ldc R hk (by omega) (by omega) ?_
  intro v _ vr
  change 0 ≤ v.toInt ∧ v.toInt ≤ 6 at vr
  have m := i_mulR (c := 6) (k := 6) (x := x2) (by decide) (by omega) (by omega)
  have a := i_add (x := x2 * 6) (y := v) (by omega) (by omega)
  exact s_worth_21 (by omega) (by omega) (by omega)
theorem s_worthOfAll_4 (hk : c_kind r0 = 6) (R : Rc F A) : ∀ {n : Nat} {x2 x3 : Int32}, 0 ≤ x3.toInt ∧ x3.toInt ≤ 6 → 50 - x3.toInt < (n : Int) → ok (e_House_worthOfAll_4 n P F A J r0 r1 x2 x3) (fun _ => True) := by
  intro n
  induction n with
  | zero => intro x2 x3 hx hn; exact absurd hn (by omega)
  | succ n ih =>
    intro x2 x3 hx hn
    have l1 : (1 : Int32).toInt = 1 := by decide
    have rd : 0 ≤ (F r0 16).toInt ∧ (F r0 16).toInt ≤ 6 := by have := R.1 r0 16; rw [hk] at this; exact this
    unfold e_House_worthOfAll_4
    refine ok_cond (fun _ => ok_some trivial) (fun c => ?_)
    rw [i_nge] at c
    have e3 := i_add (x := x3) (y := 1) (by omega) (by omega)
    refine ok_call (s_worth hk R (by omega) (by omega)) ?_
    intro v _
    exact ih (by omega) (by omega)
theorem s_worthOfAll {n : Nat} (hk : c_kind r0 = 6) (R : Rc F A) (hn : 60 ≤ n) : ok (e_House_worthOfAll n P F A J r0 r1) (fun _ => True) := by
  have l0 : (0 : Int32).toInt = 0 := by decide
  unfold e_House_worthOfAll
  exact s_worthOfAll_4 hk R (by decide) (by omega)
/-- a step is over -/
theorem s_finish {x2 x3 : Int32} (hk : c_kind r0 = 6) (hk1 : c_kind r1 = 2) (R : Rc F A) (h2 : 0 ≤ x2.toInt ∧ x2.toInt ≤ 5) (h3 : 0 ≤ x3.toInt ∧ x3.toInt ≤ 5) (hu : ci A r0 11 (x2.toInt * 6 + x3.toInt) ≤ 5) : ok (e_House_finish P F A J r0 r1 x2 x3) (fun r => r.2.1 = P ∧ r.2.2.1 = F ∧ (∀ r' o, ¬ (r' = r1 ∧ o = 1) → r.2.2.2.1 r' o = A r' o) ∧ Rc F r.2.2.2.1) := by
  have l0 : (0 : Int32).toInt = 0 := by decide
  have m := i_mulR (c := 6) (k := 6) (x := x2) (by decide) (by omega) (by omega)
  have a := i_add (x := x2 * 6) (y := x3) (by omega) (by omega)
  have nt : ∀ v, rRc (c_kind r1) 1 v := fun v => by rw [hk1]; exact trivial
  unfold e_House_finish
  refine ok_ldn (by omega) (by omega) (fun v1 => ?_)
  refine ok_cst (by omega) (by omega) ?_
  intro A2 U2
  refine ok_ldc (R.st U2 (nt _)) hk (by omega) (by omega) ?_
  intro v3 v3e _
  rw [ci_fr (U2.2.2 r0 11 (fun e => absurd e.2 (by decide))), a, m] at v3e
  refine ok_cond (fun _ => ok_some ⟨rfl, rfl, U2.2.2, R.st U2 (nt _)⟩) (fun c => ?_)
  rw [i_nlt] at c
  have a2 := i_add (x := x2 * 6) (y := v3) (by omega) (by omega)
  refine ok_ldn (by omega) (by omega) (fun v5 => ?_)
  refine ok_cond (fun _ => ok_some ⟨rfl, rfl, U2.2.2, R.st U2 (nt _)⟩) (fun _ => ?_)
  refine ok_ldn (by omega) (by omega) (fun v7 => ?_)
  refine ok_cst (by omega) (by omega) ?_
  intro A3 U3
  exact ok_some ⟨rfl, rfl, fun r' o hr => (U3.2.2 r' o hr).trans (U2.2.2 r' o hr), (R.st U2 (nt _)).st U3 (nt _)⟩
theorem s_hasStep {x1 x2 : Int32} (hk : c_kind r0 = 6) (R : Rc F A) : ok (e_House_hasStep P F A J r0 x1 x2) (fun v => v.toInt = 0 ∨ (v.toInt = 1 ∧ 0 ≤ x1.toInt ∧ x1.toInt ≤ 5 ∧ 0 ≤ x2.toInt ∧ x2.toInt < ci A r0 5 x1.toInt ∧ x2.toInt ≤ 5)) := by
  have l0 : (0 : Int32).toInt = 0 := by decide
  have rd : 0 ≤ (F r0 16).toInt ∧ (F r0 16).toInt ≤ 6 := by have := R.1 r0 16; rw [hk] at this; exact this
  unfold e_House_hasStep
  refine ok_cond (fun _ => ok_some (.inl (by decide))) (fun c1 => ?_)
  rw [i_nlt] at c1
  refine ok_cond (fun _ => ok_some (.inl (by decide))) (fun c2 => ?_)
  rw [i_nge] at c2
  refine ok_cond (fun _ => ok_some (.inl (by decide))) (fun c3 => ?_)
  rw [i_nlt] at c3
  refine ok_ldc R hk (by omega) (by omega) ?_
  intro v ve vr
  change 0 ≤ v.toInt ∧ v.toInt ≤ 6 at vr
  refine ok_cond (fun _ => ok_some (.inl (by decide))) (fun c4 => ok_some (.inr ⟨by decide, ?_⟩))
  rw [i_nge] at c4
  exact ⟨by omega, by omega, by omega, by omega, by omega⟩
theorem s_mayBeLeft {x1 : Int32} (hk : c_kind r0 = 6) (R : Rc F A) (h1 : -1 ≤ x1.toInt ∧ x1.toInt ≤ 35) : ok (e_House_mayBeLeft P F A J r0 x1) (fun v => v.toInt = 0 ∨ (v.toInt = 1 ∧ LVx A r0 x1.toInt)) := by
  have l0 : (0 : Int32).toInt = 0 := by decide
  have l6 : (6 : Int32).toInt = 6 := by decide
  unfold e_House_mayBeLeft
  refine ok_cond (fun c1 => ?_) (fun c1 => ?_)
  · rw [i_lt] at c1
    exact ok_some (.inr ⟨by decide, .inl (by omega)⟩)
  · rw [i_nlt] at c1
    refine ok_rem1 (by decide) ?_
    intro v2 e2
    refine ok_div1 (by decide) ?_
    intro v3 e3
    have q2 : v2.toInt = x1.toInt % 6 := by rw [e2]; exact i_rem6 (by omega)
    have q3 : v3.toInt = x1.toInt / 6 := by rw [e3]; exact i_div6 (by omega)
    refine ok_ldc R hk (by omega) (by omega) ?_
    intro v ve vr
    refine ok_cond (fun _ => ok_some (.inl (by decide))) (fun c4 => ok_some (.inr ⟨by decide, .inr ?_⟩))
    rw [i_nge] at c4
    rw [q3] at ve
    exact ⟨by omega, by omega, by omega⟩
end W87
end Qz76
section Qz77
/-! the class: what a law tells -/
section L88
variable {P : Nat → Nat → Nat} {F : Nat → Nat → Int32} {A0 : Nat → Nat → Nat → Int32} {J : Nat → Nat → Nat → Int64} {r0 : Nat}
theorem s_joined {A : Nat → Nat → Nat → Int32} {x0 x1 x2 : Int32} : ok (e_Laws_joined P F A J x0 x1 x2) (fun _ => True) := by
  have l0 : (0 : Int32).toInt = 0 := by decide
  unfold e_Laws_joined
  refine ok_cond (fun _ => ok_some trivial) (fun _ => ?_)
  refine ok_cond (fun _ => ok_some trivial) (fun _ => ?_)
  refine ok_cond (fun _ => ?_) (fun _ => ?_)
  · refine ok_cond (fun c => ?_) (fun _ => ok_some trivial)
    rw [i_ne] at c
    exact ok_div1 (by omega) (fun _ _ => ok_some trivial)
  · refine ok_cond (fun _ => ok_some trivial) (fun _ => ?_)
    refine ok_cond (fun c => ?_) (fun _ => ok_some trivial)
    rw [i_ne] at c
    exact ok_div1 (by omega) (fun _ _ => ok_some trivial)
/-- only the stack of the laws has changed -/
def LKc (A A' : Nat → Nat → Nat → Int32) (r0 : Nat) : Prop := ∀ r o, ¬ (r = r0 ∧ o = 17) → A' r o = A r o
theorem LKc.rc {A A' : Nat → Nat → Nat → Int32} (w : LKc A A' r0) (hk : c_kind r0 = 6) (R : Rc F A) : Rc F A' := by
  refine ⟨R.1, fun r o i hi => ?_⟩
  by_cases e : r = r0 ∧ o = 17
  · obtain ⟨rfl, rfl⟩ := e
    rw [hk]
    exact trivial
  · rw [ci_fr (w r o e)]
    exact R.2 r o i hi
def TLc (P : Nat → Nat → Nat) (F : Nat → Nat → Int32) (A : Nat → Nat → Nat → Int32) (r0 : Nat) (r : Int32 × (Nat → Nat → Nat) × (Nat → Nat → Int32) × (Nat → Nat → Nat → Int32) × (Nat → Nat → Nat → Int64)) : Prop := r.2.1 = P ∧ r.2.2.1 = F ∧ LKc A r.2.2.2.1 r0
theorem s_tellsTo_13 (hk : c_kind r0 = 6) (R : Rc F A0) (H : ∀ i, 0 ≤ i → i < cf F r0 1304 → ci A0 r0 15 i = 2 → 0 ≤ ci A0 r0 16 i ∧ ci A0 r0 16 i ≤ 5) : ∀ {n : Nat} {A : Nat → Nat → Nat → Int32} {J : Nat → Nat → Nat → Int64} {x3 x4 x5 : Int32}, LKc A0 A r0 → -1 ≤ x4.toInt ∧ x4.toInt ≤ 31 → 0 ≤ x5.toInt ∧ x5.toInt ≤ 400 → 402 - x5.toInt < (n : Int) → ok (e_Laws_tellsTo_13 n P F A J r0 x3 x4 x5) (TLc P F A0 r0) := by
  intro n
  induction n with
  | zero => intro A J x3 x4 x5 w h4 h5 hn; exact absurd hn (by omega)
  | succ n ih =>
    intro A J x3 x4 x5 w h4 h5 hn
    have l0 : (0 : Int32).toInt = 0 := by decide
    have l1 : (1 : Int32).toInt = 1 := by decide
    have l2 : (2 : Int32).toInt = 2 := by decide
    have lm : (-1 : Int32).toInt = -1 := by decide
    have l32 : (Int32.ofNat 32).toInt = 32 := by decide
    have rl : 0 ≤ (F r0 1304).toInt ∧ (F r0 1304).toInt ≤ 400 := by have := R.1 r0 1304; rw [hk] at this; exact this
    have fin : ∀ {v : Int32} {A J}, LKc A0 A r0 → ok (some (v, P, F, A, J)) (TLc P F A0 r0) := fun w => ok_some ⟨rfl, rfl, w⟩
    have f0 : ∀ {A J}, LKc A0 A r0 → ok ((m_ld (A 36 9) 6 0).bind fun v17 => some (v17, P, F, A, J)) (TLc P F A0 r0) := fun w => ok_ldn (by decide) (by decide) (fun v => fin w)
    have f233 : ok (e_Laws_tellsTo_233 n P F A J r0) (TLc P F A0 r0) := by unfold e_Laws_tellsTo_233; exact f0 w
    have f153 : ok (e_Laws_tellsTo_153 n P F A J r0) (TLc P F A0 r0) := by unfold e_Laws_tellsTo_153; exact f0 w
    have e5 := i_add (x := x5) (y := 1) (by omega) (by omega)
    have st : ∀ {A A' : Nat → Nat → Nat → Int32} {i v : Int}, LKc A0 A r0 → CUm A A' r0 17 i v → LKc A0 A' r0 := fun w U r o hr => (U.2.2 r o hr).trans (w r o hr)
    unfold e_Laws_tellsTo_13
    refine ok_cond (fun _ => f233) (fun c1 => ?_)
    rw [i_nge] at c1
    refine ok_cond (fun _ => f233) (fun c2 => ?_)
    rw [i_nlt] at c2
    refine ok_cond (fun _ => f233) (fun c3 => ?_)
    rw [i_nge] at c3
    have go : ∀ {A J} {y3 y4 : Int32}, LKc A0 A r0 → -1 ≤ y4.toInt ∧ y4.toInt ≤ 31 → ok (e_Laws_tellsTo_13 n P F A J r0 y3 y4 (x5 + 1)) (TLc P F A0 r0) := fun w h => ih w h (by omega) (by omega)
    have RA := w.rc hk R
    have x15 : A r0 15 = A0 r0 15 := w r0 15 (by simp)
    have x16 : A r0 16 = A0 r0 16 := w r0 16 (by simp)
    refine ok_ldc RA hk (by omega) (by omega) ?_
    intro v5 v5e _
    refine ok_ldc RA hk (by omega) (by omega) ?_
    intro v6 v6e _
    rw [ci_fr x15] at v5e
    rw [ci_fr x16] at v6e
    have hv := H x3.toInt c2 c3
    have g88 : (v5.toInt = 1 ∨ v5.toInt = 2) → ok (e_Laws_tellsTo_88 (e_Laws_tellsTo_13 n) n P F A J r0 (x3 + 1) x4 x5 v5 v6) (TLc P F A0 r0) := by
      intro h12
      have e4 := i_add (x := x4) (y := 1) (by omega) (by omega)
      unfold e_Laws_tellsTo_88
      refine ok_cond (fun d1 => ?_) (fun _ => f0 w)
      rw [i_lt] at d1
      refine ok_cond (fun d2 => ?_) (fun _ => ?_)
      · rw [i_ne] at d2
        have h2 : ci A0 r0 15 x3.toInt = 2 := by omega
        have h6 := hv h2
        refine ok_ldn (by omega) (by omega) (fun v20 => ?_)
        refine ok_cst (by omega) (by omega) ?_
        intro A2 U2
        unfold e_Laws_tellsTo_227
        exact go (st w U2) (by omega)
      · unfold e_Laws_tellsTo_126
        refine ok_cst (by omega) (by omega) ?_
        intro A2 U2
        unfold e_Laws_tellsTo_227
        exact go (st w U2) (by omega)
    have g157 : 1 ≤ x4.toInt → ok (e_Laws_tellsTo_157 (e_Laws_tellsTo_13 n) n P F A J r0 (x3 + 1) x4 x5 v5 v6) (TLc P F A0 r0) := by
      intro h1
      have e4 := i_add (x := x4) (y := -1) (by omega) (by omega)
      rw [lm] at e4
      clear e5 lm
      unfold e_Laws_tellsTo_157
      generalize x4 + (-1 : Int32) = y at e4 ⊢
      have e4b := i_add (x := y) (y := 1) (by omega) (by omega)
      refine ok_cond (fun _ => ?_) (fun _ => ?_)
      · refine ok_ldn (by omega) (by omega) (fun v25 => ?_)
        refine ok_ldn (by omega) (by omega) (fun v26 => ?_)
        refine ok_call s_joined ?_
        intro v27 _
        refine ok_cst (by omega) (by omega) ?_
        intro A2 U2
        exact go (st w U2) (by omega)
      · refine ok_ldn (by omega) (by omega) (fun v29 => ?_)
        refine ok_ldn (by omega) (by omega) (fun v30 => ?_)
        clear e4b
        have e4c : (y + (-1 : Int32)).toInt = y.toInt + -1 := i_add (x := y) (y := -1) (by rw [show (-1 : Int32).toInt = -1 by decide]; omega) (by rw [show (-1 : Int32).toInt = -1 by decide]; omega)
        refine ok_cond (fun _ => ?_) (fun _ => ?_)
        · unfold e_Laws_tellsTo_192 e_Laws_tellsTo_227
          generalize y + (-1 : Int32) = z at e4c ⊢
          exact go w (by omega)
        · unfold e_Laws_tellsTo_192 e_Laws_tellsTo_227
          generalize y + (-1 : Int32) = z at e4c ⊢
          exact go w (by omega)
    refine ok_cond (fun c4 => ?_) (fun c4 => ?_)
    · refine ok_cond (fun c5 => ?_) (fun c5 => ?_)
      · rw [i_eq] at c5
        exact g88 (.inl (by omega))
      · refine ok_cond (fun c6 => ?_) (fun c6 => ?_)
        · refine ok_cond (fun _ => f153) (fun c7 => ?_)
          rw [i_nlt] at c7
          refine ok_cond (fun _ => g157 (by omega)) (fun _ => ?_)
          refine ok_ldn (by omega) (by omega) (fun v12 => ?_)
          exact ok_cond (fun _ => g157 (by omega)) (fun _ => f153)
        · rw [i_nne] at c6
          exact g88 (.inr (by omega))
    · refine ok_cond (fun _ => f0 w) (fun _ => ?_)
      exact ok_ldn (by decide) (by decide) (fun v => fin w)
theorem s_tellsTo {n : Nat} {A : Nat → Nat → Nat → Int32} {x1 : Int32} (hk : c_kind r0 = 6) (R : Rc F A) (H : HVc F A r0) (h1 : 0 ≤ x1.toInt ∧ x1.toInt ≤ 5) (hn : 410 ≤ n) : ok (e_Laws_tellsTo n P F A J r0 x1) (TLc P F A r0) := by
  have l0 : (0 : Int32).toInt = 0 := by decide
  unfold e_Laws_tellsTo
  refine ok_ldn (by omega) (by omega) (fun v => ?_)
  exact s_tellsTo_13 hk R H.2.2.2.2.1 (fun _ _ _ => rfl) (by decide) (by decide) (by omega)
end L88
end Qz77
section Qz78
/-! the class: a night -/
/-- men in a night: house h, state q -/
def NMc (A : Nat → Nat → Nat → Int32) (h q : Nat) (m : Int) : Prop := LVx A h (ci A q 3 m) ∧ (0 ≤ ci A q 3 m → ci A 36 5 m < ci A h 5 (ci A q 3 m / 6) ∧ (0 ≤ ci A 36 4 m → ci A 36 4 m < ci A h 5 (ci A q 3 m / 6))) ∧ (ci A q 3 m < 0 → ci A 36 3 m = 1000000)
def NVc (A : Nat → Nat → Nat → Int32) (h q : Nat) (k : Int) : Prop := ∀ m, 0 ≤ m → m < k → NMc A h q m
/-- what a night changes till morning -/
def NFc (h q : Nat) (F F' : Nat → Nat → Int32) (A A' : Nat → Nat → Nat → Int32) : Prop := (∀ r o, r ≠ 36 → (r = q → o = 3) → (r = h → o ≠ 17) → A' r o = A r o) ∧ (∀ r k, ¬ (r = 36 ∧ k = 101) → F' r k = F r k)
section S89
variable {P : Nat → Nat → Nat} {F F' F1 : Nat → Nat → Int32} {A A' A1 : Nat → Nat → Nat → Int32} {J : Nat → Nat → Nat → Int64} {h q : Nat} {k : Int}
theorem NFc.tr (a : NFc h q F F1 A A1) (b : NFc h q F1 F' A1 A') : NFc h q F F' A A' := ⟨fun r o x y z => (b.1 r o x y z).trans (a.1 r o x y z), fun r k x => (b.2 r k x).trans (a.2 r k x)⟩
theorem NFc.rfl' : NFc h q F F A A := ⟨fun _ _ _ _ _ => rfl, fun _ _ _ => rfl⟩
theorem NFc.st {o : Nat} {r : Nat} {i v : Int} (U : CUm A A' r o i v) (hr : r = 36 ∨ (r = q ∧ o ≠ 3)) : NFc h q F F A A' := ⟨fun r' o' x y z => U.2.2 r' o' (by rintro ⟨rfl, rfl⟩; rcases hr with e | ⟨e, e'⟩; exact x e; exact e' (y e)), fun _ _ _ => rfl⟩
theorem NFc.hv (a : NFc h q F F' A A') (hk : c_kind h = 6) (hq : c_kind q = 2) (H : HVc F A h) : HVc F' A' h := by
  have n1 := k6ne hk
  have n2 := k62 hk hq
  exact H.cg (fun k => a.2 h k (fun e => n1 e.1)) (fun o ho => a.1 h o n1 (fun e => absurd e n2) (fun _ => ho))
theorem NFc.h5 (a : NFc h q F F' A A') (hk : c_kind h = 6) (hq : c_kind q = 2) : A' h 5 = A h 5 := a.1 h 5 (k6ne hk) (fun e => absurd e (k62 hk hq)) (fun _ => by decide)
theorem NFc.q3 (a : NFc h q F F' A A') (hk : c_kind h = 6) (hq : c_kind q = 2) : A' q 3 = A q 3 := a.1 q 3 (k2ne hq) (fun _ => rfl) (fun e => absurd e.symm (k62 hk hq))
theorem NMc.cg {m : Int} (n : NMc A h q m) (h5 : A' h 5 = A h 5) (h3 : A' q 3 = A q 3) (e3 : ci A' 36 3 m = ci A 36 3 m) (e4 : ci A' 36 4 m = ci A 36 4 m) (e5 : ci A' 36 5 m = ci A 36 5 m) : NMc A' h q m := by
  unfold NMc
  rw [ci_fr h5, ci_fr h3, e3, e4, e5]
  exact ⟨n.1.cg h5, n.2⟩
theorem NVc.cg (n : NVc A h q k) (h5 : A' h 5 = A h 5) (h3 : A' q 3 = A q 3) (e : ∀ o, o = 3 ∨ o = 4 ∨ o = 5 → A' 36 o = A 36 o) : NVc A' h q k := fun m m0 m1 => (n m m0 m1).cg h5 h3 (by rw [ci_fr (e 3 (by omega))]) (by rw [ci_fr (e 4 (by omega))]) (by rw [ci_fr (e 5 (by omega))])
theorem nt2 (hq : c_kind q = 2) (o : Nat) (v : Int) : rRc (c_kind q) o v := by rw [hq]; exact trivial
/-- the man's step: what the law tells, within the task's steps -/
theorem s_chosenStep {n : Nat} {x1 x2 x3 : Int32} (e8 : P 36 8 = h) (e9 : P 36 9 = q) (hk : c_kind h = 6) (hq : c_kind q = 2) (R : Rc F A) (H : HVc F A h) (h1 : 0 ≤ x1.toInt ∧ x1.toInt ≤ 5) (h2 : 0 ≤ x2.toInt ∧ x2.toInt ≤ 5) (hn : 420 ≤ n) : ok (e_Sleep_chosenStep n P F A J x1 x2 x3) (fun r => r.2.1 = P ∧ r.2.2.1 = F ∧ (∀ r' o, ¬ (r' = 36 ∧ o = 9) → ¬ (r' = h ∧ o = 17) → r.2.2.2.1 r' o = A r' o) ∧ Rc F r.2.2.2.1 ∧ 0 ≤ r.1.toInt ∧ r.1.toInt ≤ 5 ∧ (0 < ci A h 5 x2.toInt → r.1.toInt < ci A h 5 x2.toInt)) := by
  have l0 : (0 : Int32).toInt = 0 := by decide
  have l1 : (1 : Int32).toInt = 1 := by decide
  have m2 := i_mulR (c := 6) (k := 6) (x := x2) (by decide) (by omega) (by omega)
  unfold e_Sleep_chosenStep
  refine ok_ldc (K := 10) R (by decide) (by omega) (by omega) ?_
  intro v1 _ v1r
  refine ok_cst (by decide) (by decide) ?_
  intro A2 U2
  rw [e9, e8]
  refine ok_chk hq ?_
  have R2 := R.st U2 trivial
  refine ok_ldc (K := 10) R2 (by decide) (by omega) (by omega) ?_
  intro v4 _ v4r
  change 0 ≤ v4.toInt ∧ v4.toInt ≤ 5 at v4r
  have a4 := i_add (x := x2 * 6) (y := v4) (by omega) (by omega)
  refine ok_ldn (by omega) (by omega) (fun v5 => ?_)
  refine ok_cst (by decide) (by decide) ?_
  intro A6 U6
  refine ok_chk hk ?_
  refine ok_ldn (by omega) (by omega) (fun v8 => ?_)
  refine ok_cst (by decide) (by decide) ?_
  intro A9 U9
  refine ok_cst (by decide) (by decide) ?_
  intro A10 U10
  refine ok_chk hq ?_
  refine ok_ldn (by omega) (by omega) (fun v12 => ?_)
  refine ok_cst (by decide) (by decide) ?_
  intro A13 U13
  refine ok_ldn (by omega) (by omega) (fun v14 => ?_)
  refine ok_cst (by decide) (by decide) ?_
  intro A15 U15
  refine ok_chk hk ?_
  have o15 : ∀ r' o, ¬ (r' = 36 ∧ o = 9) → A15 r' o = A r' o := fun r' o hr => (U15.2.2 r' o hr).trans ((U13.2.2 r' o hr).trans ((U10.2.2 r' o hr).trans ((U9.2.2 r' o hr).trans ((U6.2.2 r' o hr).trans (U2.2.2 r' o hr)))))
  have R15 : Rc F A15 := ((((R2.st U6 trivial).st U9 trivial).st U10 trivial).st U13 trivial).st U15 trivial
  have H15 : HVc F A15 h := H.cg (fun _ => rfl) (fun o _ => o15 h o (fun e => k6ne hk e.1))
  refine ok_call (s_tellsTo hk R15 H15 h1 (by omega)) ?_
  rintro ⟨v17, P2, F2, A20, J2⟩ ⟨g1, g2, g3⟩
  dsimp only at g1 g2 g3 ⊢
  subst g1
  subst g2
  rw [e8]
  refine ok_chk hk ?_
  have R20 := LKc.rc g3 hk R15
  refine ok_ldc R20 hk (by omega) (by omega) ?_
  intro v23 v23e v23r
  change 0 ≤ v23.toInt ∧ v23.toInt ≤ 6 at v23r
  have k5 : A20 h 5 = A h 5 := (g3 h 5 (by simp)).trans (o15 h 5 (by simp))
  rw [ci_fr k5] at v23e
  have s23 := i_sub (x := v23) (y := 1) (by omega) (by omega)
  refine ok_some ⟨rfl, rfl, fun r' o a b => (g3 r' o b).trans (o15 r' o a), R20, ?_⟩
  dsimp only
  by_cases c1 : v17 < v23 - 1
  · rw [if_pos c1]
    have d1 := Int32.lt_iff_toInt_lt.mp c1
    by_cases c2 : 0 < v17
    · rw [if_pos c2]
      have d2 := Int32.lt_iff_toInt_lt.mp c2
      exact ⟨by omega, by omega, fun _ => by omega⟩
    · rw [if_neg c2]
      exact ⟨by omega, by omega, fun _ => by omega⟩
  · rw [if_neg c1]
    by_cases c2 : 0 < v23 - 1
    · rw [if_pos c2]
      have d2 := Int32.lt_iff_toInt_lt.mp c2
      exact ⟨by omega, by omega, fun _ => by omega⟩
    · rw [if_neg c2]
      exact ⟨by omega, by omega, fun _ => by omega⟩
/-- what a call of the night leaves -/
def NPc (P : Nat → Nat → Nat) (F : Nat → Nat → Int32) (A : Nat → Nat → Nat → Int32) (h q : Nat) (k : Int) (r : Unit × (Nat → Nat → Nat) × (Nat → Nat → Int32) × (Nat → Nat → Nat → Int32) × (Nat → Nat → Nat → Int64)) : Prop := r.2.1 = P ∧ Rc r.2.2.1 r.2.2.2.1 ∧ NFc h q F r.2.2.1 A r.2.2.2.1 ∧ NVc r.2.2.2.1 h q k
theorem NPc.go {r : Unit × (Nat → Nat → Nat) × (Nat → Nat → Int32) × (Nat → Nat → Nat → Int32) × (Nat → Nat → Nat → Int64)} (a : NFc h q F F1 A A1) (b : NPc P F1 A1 h q k r) : NPc P F A h q k r := ⟨b.1, b.2.1, a.tr b.2.2.1, b.2.2.2⟩
/-- he lies down -/
theorem s_lieDown {x1 x2 : Int32} (e9 : P 36 9 = q) (hk : c_kind h = 6) (hq : c_kind q = 2) (R : Rc F A) (N : NVc A h q k) (h1 : 0 ≤ x1.toInt ∧ x1.toInt ≤ 5) : ok (e_Sleep_lieDown P F A J x1 x2) (NPc P F A h q k) := by
  unfold e_Sleep_lieDown
  rw [e9]
  refine ok_chk hq ?_
  refine ok_cst (by omega) (by omega) ?_
  intro A2 U2
  refine ok_cst (by omega) (by omega) ?_
  intro A3 U3
  have n1 := k2ne hq
  have w2 : NFc h q F F A A2 := NFc.st U2 (.inr ⟨rfl, by decide⟩)
  have w3 : NFc h q F F A2 A3 := NFc.st U3 (.inl rfl)
  refine ok_some ⟨rfl, (R.st U2 (nt2 hq _ _)).st U3 trivial, w2.tr w3, fun m m0 m1 => ?_⟩
  have n0 := (N m m0 m1).cg (w2.h5 hk hq) (w2.q3 hk hq) (by rw [ci_fr (U2.2.2 36 3 (fun e => n1 e.1.symm))]) (by rw [ci_fr (U2.2.2 36 4 (fun e => n1 e.1.symm))]) (by rw [ci_fr (U2.2.2 36 5 (fun e => n1 e.1.symm))])
  by_cases e : m = x1.toInt
  · subst e
    unfold NMc
    rw [show ((), P, F, A3, J).2.2.2.1 = A3 from rfl, ci_fr (w3.h5 hk hq), ci_fr (w3.q3 hk hq), ci_fr (U3.2.2 36 4 (by simp)), ci_fr (U3.2.2 36 5 (by simp))]
    exact ⟨n0.1.cg (w3.h5 hk hq), n0.2.1, fun _ => U3.1.trans (by decide)⟩
  · exact n0.cg (w3.h5 hk hq) (w3.q3 hk hq) (U3.2.1 m m0 e) (by rw [show ((), P, F, A3, J).2.2.2.1 = A3 from rfl, ci_fr (U3.2.2 36 4 (by simp))]) (by rw [show ((), P, F, A3, J).2.2.2.1 = A3 from rfl, ci_fr (U3.2.2 36 5 (by simp))])
end S89
end Qz78
section Qz79
section S90
variable {P : Nat → Nat → Nat} {F : Nat → Nat → Int32} {A : Nat → Nat → Nat → Int32} {J : Nat → Nat → Nat → Int64} {h q : Nat} {k : Int}
theorem NMc.cnt {m : Int} (n : NMc A h q m) (l : 0 ≤ ci A q 3 m) : ci A q 3 m < 36 ∧ 0 < ci A h 5 (ci A q 3 m / 6) := by
  rcases n.1 with e | ⟨_, e1, e2⟩
  · omega
  · exact ⟨e1, by omega⟩
/-- a step begins: doing and due of a man are written -/
theorem NVc.beg {A1 A2 : Nat → Nat → Nat → Int32} {x : Int} {s d : Int} (N : NVc A h q k) (U1 : CUm A A1 36 4 x s) (U2 : CUm A1 A2 36 3 x d) (hk : c_kind h = 6) (hq : c_kind q = 2) (hl : 0 ≤ ci A q 3 x) (hs : s < ci A h 5 (ci A q 3 x / 6)) : NVc A2 h q k := fun m m0 m1 => by
  have n1 := k2ne hq
  have n2 := k6ne hk
  have a5 : A2 h 5 = A h 5 := (U2.2.2 h 5 (fun e => n2 e.1)).trans (U1.2.2 h 5 (fun e => n2 e.1))
  have a3 : A2 q 3 = A q 3 := (U2.2.2 q 3 (fun e => n1 e.1)).trans (U1.2.2 q 3 (fun e => n1 e.1))
  have b5 : A2 36 5 = A 36 5 := (U2.2.2 36 5 (by simp)).trans (U1.2.2 36 5 (by simp))
  by_cases e : m = x
  · subst e
    obtain ⟨y1, y2, y3⟩ := N m m0 m1
    unfold NMc
    rw [ci_fr a5, ci_fr a3, ci_fr b5, ci_fr (U2.2.2 36 4 (by simp)), U1.1]
    exact ⟨y1.cg a5, fun z => ⟨(y2 z).1, fun _ => hs⟩, fun z => absurd hl (by omega)⟩
  · refine (N m m0 m1).cg a5 a3 ?_ ?_ (by rw [ci_fr b5])
    · rw [U2.2.1 m m0 e, ci_fr (U1.2.2 36 3 (by simp))]
    · rw [ci_fr (U2.2.2 36 4 (by simp)), U1.2.1 m m0 e]
theorem s_begin {n : Nat} {x1 x2 : Int32} (e8 : P 36 8 = h) (e9 : P 36 9 = q) (hk : c_kind h = 6) (hq : c_kind q = 2) (R : Rc F A) (H : HVc F A h) (N : NVc A h q k) (h1 : 0 ≤ x1.toInt ∧ x1.toInt < k) (hk6 : k ≤ 6) (hl : 0 ≤ ci A q 3 x1.toInt) (hn : 430 ≤ n) : ok (e_Sleep_begin n P F A J x1 x2) (NPc P F A h q k) := by
  have l0 : (0 : Int32).toInt = 0 := by decide
  have n1 := k2ne hq
  have n2 := k6ne hk
  have nh := k62 hk hq
  have nm := N x1.toInt h1.1 h1.2
  have cn := nm.cnt hl
  have lie : ∀ {F A A' J}, NFc h q F F A A' → Rc F A' → NVc A' h q k → ok (e_Sleep_lieDown P F A' J x1 x2) (NPc P F A h q k) := fun w R N => ok_mono (s_lieDown e9 hk hq R N ⟨by omega, by omega⟩) (fun r hr => hr.go w)
  unfold e_Sleep_begin
  rw [e8, e9]
  refine ok_chk hq ?_
  refine ok_ldc R hq (by omega) (by omega) ?_
  intro v2 v2e _
  refine ok_div1 (by decide) ?_
  intro v3 e3
  have d3 : v3.toInt = v2.toInt / 6 := by rw [e3]; exact i_div6 (by omega)
  refine ok_chk hk ?_
  refine ok_chk hq ?_
  refine ok_call (s_isEnded hk R (by omega) (by omega)) ?_
  intro v6 _
  have f44 : ok (e_Sleep_begin_44 n P F A J x1 x2 v6) (NPc P F A h q k) := by
    have f59 : ∀ s : Int32, ok (e_Sleep_begin_59 n P F A J x1 x2 x1 s) (NPc P F A h q k) := fun s => by
      unfold e_Sleep_begin_59
      refine ok_cst (by omega) (by omega) ?_
      intro A2 U2
      have w2 : NFc h q F F A A2 := NFc.st U2 (.inl rfl)
      refine ok_call (lie w2 (R.st U2 trivial) (N.cg (w2.h5 hk hq) (w2.q3 hk hq) (fun o ho => U2.2.2 36 o (by omega)))) ?_
      rintro ⟨u, P2, F2, A3, J3⟩ hr
      exact ok_some hr
    unfold e_Sleep_begin_44
    exact ok_cond (fun _ => f59 0) (fun _ => f59 1)
  refine ok_cond (fun _ => f44) (fun _ => ?_)
  refine ok_chk hq ?_
  refine ok_ldn (by omega) (by omega) (fun v9 => ?_)
  refine ok_cond (fun _ => ?_) (fun _ => f44)
  refine ok_call (s_chosenStep e8 e9 hk hq R H ⟨by omega, by omega⟩ (x2 := v3) (by omega) (by omega)) ?_
  rintro ⟨v11, P2, F2, A2, J2⟩ ⟨g1, g2, g3, R2, g5, g6, g7⟩
  dsimp only at g1 g2 g3 R2 g5 g6 g7 ⊢
  subst g1
  subst g2
  have w2 : NFc h q F2 F2 A A2 := ⟨fun r o a b c => g3 r o (fun e => a e.1) (fun e => c e.1 e.2), fun _ _ _ => rfl⟩
  have N2 : NVc A2 h q k := N.cg (w2.h5 hk hq) (w2.q3 hk hq) (fun o ho => g3 36 o (by omega) (fun e => n2 e.1.symm))
  have k5 : A2 h 5 = A h 5 := w2.h5 hk hq
  have k3 : A2 q 3 = A q 3 := w2.q3 hk hq
  have hl2 : 0 ≤ ci A2 q 3 x1.toInt := by rw [ci_fr k3]; exact hl
  rw [e8, e9]
  refine ok_chk hk ?_
  have m3 := i_mulR (c := 6) (k := 6) (x := v3) (by decide) (by omega) (by omega)
  have a3 := i_add (x := v3 * 6) (y := v11) (by omega) (by omega)
  have hs : v11.toInt < ci A2 h 5 (ci A2 q 3 x1.toInt / 6) := by
    rw [ci_fr k5, ci_fr k3, ← v2e, ← d3]
    exact g7 (by rw [d3, v2e]; exact cn.2)
  -- the last strokes: doing and due
  have last : ∀ {A3 : Nat → Nat → Nat → Int32} {y : Int32}, NFc h q F2 F2 A2 A3 → Rc F2 A3 → (∀ o, o = 3 ∨ o = 4 ∨ o = 5 → A3 36 o = A2 36 o) → ok ((c_st A3 36 4 6 x1 v11).bind fun A34 => (c_chk 6 h).bind fun q35 => (m_ld (A34 q35 6) 36 ((v3 * 6) + v11)).bind fun v36 => (c_st A34 36 3 6 x1 (x2 + v36)).bind fun A37 => some ((), P2, F2, A37, J2)) (NPc P2 F2 A h q k) := by
    intro A3 y w3 R3 o3
    refine ok_cst (by omega) (by omega) ?_
    intro A4 U4
    refine ok_chk hk ?_
    refine ok_ldn (by omega) (by omega) (fun v36 => ?_)
    refine ok_cst (by omega) (by omega) ?_
    intro A5 U5
    have N3 := N2.cg (w3.h5 hk hq) (w3.q3 hk hq) o3
    refine ok_some ⟨rfl, (R3.st U4 (show -1 ≤ v11.toInt ∧ v11.toInt ≤ 5 by omega)).st U5 trivial, (w2.tr w3).tr ((NFc.st U4 (.inl rfl)).tr (NFc.st U5 (.inl rfl))), N3.beg U4 U5 hk hq (by rw [ci_fr (w3.q3 hk hq)]; exact hl2) (by rw [ci_fr (w3.h5 hk hq), ci_fr (w3.q3 hk hq)]; exact hs)⟩
  have f168 : ok (e_Sleep_begin_168 n P2 F2 A2 J2 x1 x2 v3 v11) (NPc P2 F2 A h q k) := by
    unfold e_Sleep_begin_168
    rw [e8, e9]
    refine ok_chk hq ?_
    refine ok_ldn (by omega) (by omega) (fun v32 => ?_)
    refine ok_cst (by omega) (by omega) ?_
    intro A3 U3
    exact last (y := x1) (NFc.st U3 (.inr ⟨rfl, by decide⟩)) (R2.st U3 (nt2 hq _ _)) (fun o _ => U3.2.2 36 o (fun e => n1 e.1.symm))
  refine ok_ldc R2 hk (by omega) (by omega) ?_
  intro v17 _ v17r
  change -2 ≤ v17.toInt ∧ v17.toInt ≤ 5 at v17r
  refine ok_cond (fun _ => f168) (fun c4 => ?_)
  rw [i_nlt] at c4
  have f140 : ok (e_Sleep_begin_140 n P2 F2 A2 J2 x1 x2 v3 v11 v17) (NPc P2 F2 A h q k) := by
    unfold e_Sleep_begin_140
    rw [e8, e9]
    refine ok_ldn (by omega) (by omega) (fun v38 => ?_)
    refine ok_cond (fun _ => ?_) (fun _ => ?_)
    · refine ok_cst (by omega) (by omega) ?_
      intro A3 U3
      refine ok_chk hq ?_
      refine ok_ldn (by omega) (by omega) (fun v42 => ?_)
      refine ok_cst (by omega) (by omega) ?_
      intro A4 U4
      exact last (y := x1) ((NFc.st U3 (.inl rfl)).tr (NFc.st U4 (.inr ⟨rfl, by decide⟩))) ((R2.st U3 trivial).st U4 (nt2 hq _ _)) (fun o ho => (U4.2.2 36 o (fun e => n1 e.1.symm)).trans (U3.2.2 36 o (by omega)))
    · refine ok_cst (by omega) (by omega) ?_
      intro A3 U3
      have w3 : NFc h q F2 F2 A2 A3 := NFc.st U3 (.inl rfl)
      refine ok_some ⟨rfl, R2.st U3 trivial, w2.tr w3, fun m m0 m1 => ?_⟩
      by_cases e : m = x1.toInt
      · subst e
        obtain ⟨y1, y2, y3⟩ := N2 _ m0 m1
        unfold NMc
        rw [show ((), P2, F2, A3, J2).2.2.2.1 = A3 from rfl, ci_fr (w3.h5 hk hq), ci_fr (w3.q3 hk hq), ci_fr (U3.2.2 36 4 (by simp)), ci_fr (U3.2.2 36 5 (by simp))]
        exact ⟨y1.cg (w3.h5 hk hq), y2, fun z => absurd hl2 (by omega)⟩
      · exact (N2 m m0 m1).cg (w3.h5 hk hq) (w3.q3 hk hq) (U3.2.1 m m0 e) (by rw [show ((), P2, F2, A3, J2).2.2.2.1 = A3 from rfl, ci_fr (U3.2.2 36 4 (by simp))]) (by rw [show ((), P2, F2, A3, J2).2.2.2.1 = A3 from rfl, ci_fr (U3.2.2 36 5 (by simp))])
  refine ok_chk hq ?_
  refine ok_ldn (by omega) (by omega) (fun v20 => ?_)
  refine ok_cond (fun _ => f140) (fun _ => ?_)
  refine ok_chk hk ?_
  refine ok_ldn (by omega) (by omega) (fun v23 => ?_)
  refine ok_cond (fun _ => f140) (fun _ => ?_)
  refine ok_call (lie w2 R2 N2) ?_
  rintro ⟨u, P3, F3, A3, J3⟩ hr
  exact ok_some hr
/-- steps that are over -/
theorem s_finishAll_2 {x1 : Int32} (e8 : P 36 8 = h) (e9 : P 36 9 = q) (hk : c_kind h = 6) (hq : c_kind q = 2) (hm : k = cf F h 17) (h1 : x1.toInt < 1000000) : ∀ {n : Nat} {A : Nat → Nat → Nat → Int32} {J : Nat → Nat → Nat → Int64} {x2 : Int32}, Rc F A → HVc F A h → NVc A h q k → 0 ≤ x2.toInt ∧ x2.toInt ≤ 6 → 7 - x2.toInt < (n : Int) → ok (e_Sleep_finishAll_2 n P F A J x1 x2) (fun r => r.2.2.1 = F ∧ NPc P F A h q k r) := by
  intro n
  induction n with
  | zero => intro A J x2 R H N hx hn; exact absurd hn (by omega)
  | succ n ih =>
    intro A J x2 R H N hx hn
    have l0 : (0 : Int32).toInt = 0 := by decide
    have l1 : (1 : Int32).toInt = 1 := by decide
    have n1 := k2ne hq
    have n2 := k6ne hk
    have rm : 0 ≤ (F h 17).toInt ∧ (F h 17).toInt ≤ 6 := by have := R.1 h 17; rw [hk] at this; exact this
    unfold cf at hm
    unfold e_Sleep_finishAll_2
    rw [e8, e9]
    refine ok_chk hk ?_
    refine ok_cond (fun _ => ok_some ⟨rfl, rfl, R, NFc.rfl', N⟩) (fun c => ?_)
    rw [i_nge] at c
    have e2 := i_add (x := x2) (y := 1) (by omega) (by omega)
    have next : ok (e_Sleep_finishAll_122 (e_Sleep_finishAll_2 n) n P F A J x1 x2) (fun r => r.2.2.1 = F ∧ NPc P F A h q k r) := by
      unfold e_Sleep_finishAll_122
      exact ih R H N (by omega) (by omega)
    refine ok_ldc (K := 10) R (by decide) (by omega) (by omega) ?_
    intro v3 v3e _
    refine ok_cond (fun _ => next) (fun c3 => ?_)
    rw [i_nne] at c3
    refine ok_ldc (K := 10) R (by decide) (by omega) (by omega) ?_
    intro v5 v5e v5r
    change -1 ≤ v5.toInt ∧ v5.toInt ≤ 5 at v5r
    refine ok_cond (fun _ => next) (fun c5 => ?_)
    rw [i_nlt] at c5
    have nm := N x2.toInt hx.1 (by omega)
    have hl : 0 ≤ ci A q 3 x2.toInt := by
      by_cases z : ci A q 3 x2.toInt < 0
      · have := nm.2.2 z; omega
      · omega
    have cn := nm.cnt hl
    have dg := (nm.2.1 hl).2 (by omega)
    refine ok_chk hq ?_
    refine ok_ldc R hq (by omega) (by omega) ?_
    intro v8 v8e _
    refine ok_div1 (by decide) ?_
    intro v9 e9'
    have d9 : v9.toInt = v8.toInt / 6 := by rw [e9']; exact i_div6 (by omega)
    refine ok_ldc (K := 10) R (by decide) (by omega) (by omega) ?_
    intro v10 v10e v10r
    change -1 ≤ v10.toInt ∧ v10.toInt ≤ 5 at v10r
    refine ok_chk hk ?_
    refine ok_chk hq ?_
    have hu := H.2.2.2.1 v9.toInt v10.toInt (by omega) (by omega) (by omega) (by rw [d9, v8e]; omega)
    refine ok_call (s_finish hk hq R (by omega) (by omega) hu) ?_
    rintro ⟨u, P2, F2, A2, J2⟩ ⟨g1, g2, g3, R2⟩
    dsimp only at g1 g2 g3 R2 ⊢
    subst g1
    subst g2
    have w2 : NFc h q F2 F2 A A2 := ⟨fun r o a b c => g3 r o (fun e => absurd (b e.1) (by rw [e.2]; decide)), fun _ _ _ => rfl⟩
    have N2 : NVc A2 h q k := N.cg (w2.h5 hk hq) (w2.q3 hk hq) (fun o _ => g3 36 o (fun e => n1 e.1.symm))
    rw [e8]
    refine ok_chk hk ?_
    have m9 := i_mulR (c := 6) (k := 6) (x := v9) (by decide) (by omega) (by omega)
    have a9 := i_add (x := v9 * 6) (y := v10) (by omega) (by omega)
    refine ok_ldc R2 hk (by omega) (by omega) ?_
    intro v19 _ v19r
    change -2 ≤ v19.toInt ∧ v19.toInt ≤ 5 at v19r
    have tl : ∀ {A3}, NFc h q F2 F2 A2 A3 → Rc F2 A3 → (∀ o, o = 3 ∨ o = 4 ∨ o = 5 → A3 36 o = A2 36 o) → ok ((c_st A3 36 5 6 x2 v10).bind fun A26 => (m_ld (A26 36 6) 6 x2).bind fun v27 => (c_st A26 36 6 6 x2 (v27 + 1)).bind fun A28 => (c_st A28 36 4 6 x2 ((-1))).bind fun A29 => e_Sleep_finishAll_2 n P2 F2 A29 J2 x1 (x2 + 1)) (fun r => r.2.2.1 = F2 ∧ NPc P2 F2 A h q k r) := by
      intro A3 w3 R3 o3
      have N3 := N2.cg (w3.h5 hk hq) (w3.q3 hk hq) o3
      refine ok_cst (by omega) (by omega) ?_
      intro A4 U4
      refine ok_ldn (by omega) (by omega) (fun v27 => ?_)
      refine ok_cst (by omega) (by omega) ?_
      intro A5 U5
      refine ok_cst (by omega) (by omega) ?_
      intro A6 U6
      have w6 : NFc h q F2 F2 A3 A6 := (NFc.st U4 (.inl rfl)).tr ((NFc.st U5 (.inl rfl)).tr (NFc.st U6 (.inl rfl)))
      have R6 : Rc F2 A6 := ((R3.st U4 (show 0 ≤ v10.toInt ∧ v10.toInt ≤ 5 by omega)).st U5 trivial).st U6 (show -1 ≤ (-1 : Int32).toInt ∧ (-1 : Int32).toInt ≤ 5 by decide)
      have wa := (w2.tr w3).tr w6
      have N6 : NVc A6 h q k := fun m m0 m1 => by
        have b3 : ci A6 36 3 m = ci A3 36 3 m := by rw [ci_fr (U6.2.2 36 3 (by simp)), ci_fr (U5.2.2 36 3 (by simp)), ci_fr (U4.2.2 36 3 (by simp))]
        have b5 : ci A6 36 5 = ci A4 36 5 := by rw [ci_fr (U6.2.2 36 5 (by simp)), ci_fr (U5.2.2 36 5 (by simp))]
        by_cases e : m = x2.toInt
        · subst e
          obtain ⟨y1, y2, y3⟩ := N3 _ m0 m1
          have lm : (-1 : Int32).toInt = -1 := by decide
          unfold NMc
          rw [ci_fr (w6.h5 hk hq), ci_fr (w6.q3 hk hq), b3, b5, U4.1, U6.1]
          refine ⟨y1.cg (w6.h5 hk hq), fun z => ⟨?_, fun t => absurd t (by omega)⟩, y3⟩
          rw [ci_fr (w3.h5 hk hq), ci_fr (w3.q3 hk hq), ci_fr (w2.h5 hk hq), ci_fr (w2.q3 hk hq)]
          omega
        · exact (N3 m m0 m1).cg (w6.h5 hk hq) (w6.q3 hk hq) b3 (by rw [U6.2.1 m m0 e, ci_fr (U5.2.2 36 4 (by simp)), ci_fr (U4.2.2 36 4 (by simp))]) (by rw [b5, U4.2.1 m m0 e])
      exact ok_mono (ih R6 (wa.hv hk hq H) N6 (by omega) (by omega)) (fun r hr => ⟨hr.1, hr.2.go wa⟩)
    refine ok_cond (fun _ => ?_) (fun c6 => ?_)
    · unfold e_Sleep_finishAll_97
      exact tl NFc.rfl' R2 (fun _ _ => rfl)
    · rw [i_nlt] at c6
      refine ok_cst (by omega) (by omega) ?_
      intro A3 U3
      exact tl (NFc.st U3 (.inl rfl)) (R2.st U3 trivial) (fun o ho => U3.2.2 36 o (by omega))
theorem s_nextMinute_5 (e8 : P 36 8 = h) (hk : c_kind h = 6) (R : Rc F A) : ∀ {n : Nat} {x1 x2 : Int32}, 0 ≤ x2.toInt ∧ x2.toInt ≤ 6 → 7 - x2.toInt < (n : Int) → ok (e_Sleep_nextMinute_5 n P F A J x1 x2) (fun r => r.2 = (P, F, A, J)) := by
  intro n
  induction n with
  | zero => intro x1 x2 hx hn; exact absurd hn (by omega)
  | succ n ih =>
    intro x1 x2 hx hn
    have l1 : (1 : Int32).toInt = 1 := by decide
    have rm : 0 ≤ (F h 17).toInt ∧ (F h 17).toInt ≤ 6 := by have := R.1 h 17; rw [hk] at this; exact this
    unfold e_Sleep_nextMinute_5
    rw [e8]
    refine ok_chk hk ?_
    refine ok_cond (fun _ => ok_some rfl) (fun c => ?_)
    rw [i_nge] at c
    have e2 := i_add (x := x2) (y := 1) (by omega) (by omega)
    refine ok_ldn (by omega) (by omega) (fun v3 => ?_)
    exact ih (by omega) (by omega)
theorem s_nextMinute {n : Nat} (e8 : P 36 8 = h) (hk : c_kind h = 6) (R : Rc F A) (hn : 10 ≤ n) : ok (e_Sleep_nextMinute n P F A J) (fun r => r.2 = (P, F, A, J)) := by
  have l0 : (0 : Int32).toInt = 0 := by decide
  unfold e_Sleep_nextMinute
  exact s_nextMinute_5 e8 hk R (by decide) (by omega)
end S90
end Qz79
section Qz80
section S91
variable {P : Nat → Nat → Nat} {J : Nat → Nat → Nat → Int64} {h q : Nat} {k : Int}
theorem s_getUp_2 (e8 : P 36 8 = h) (e9 : P 36 9 = q) (hk : c_kind h = 6) (hq : c_kind q = 2) : ∀ {n : Nat} {F : Nat → Nat → Int32} {A : Nat → Nat → Nat → Int32} {J : Nat → Nat → Nat → Int64} {x1 : Int32}, k = cf F h 17 → Rc F A → HVc F A h → LVc A h q → NVc A h q x1.toInt → 0 ≤ x1.toInt ∧ x1.toInt ≤ k → 100 - x1.toInt < (n : Int) → ok (e_Sleep_getUp_2 n P F A J x1) (NPc P F A h q k) := by
  intro n
  induction n with
  | zero =>
    intro F A J x1 hm R H L N hx hn
    have rm : 0 ≤ (F h 17).toInt ∧ (F h 17).toInt ≤ 6 := by have := R.1 h 17; rw [hk] at this; exact this
    unfold cf at hm
    exact absurd hn (by omega)
  | succ n ih =>
    intro F A J x1 hm R H L N hx hn
    have l0 : (0 : Int32).toInt = 0 := by decide
    have l1 : (1 : Int32).toInt = 1 := by decide
    have n1 := k2ne hq
    have n2 := k6ne hk
    have rm : 0 ≤ (F h 17).toInt ∧ (F h 17).toInt ≤ 6 := by have := R.1 h 17; rw [hk] at this; exact this
    have hm' := hm
    unfold cf at hm'
    unfold e_Sleep_getUp_2
    rw [e8, e9]
    refine ok_chk hk ?_
    refine ok_cond (fun c => ?_) (fun c => ?_)
    · rw [i_ge] at c
      have e : k = x1.toInt := by omega
      subst e
      exact ok_some ⟨rfl, R, NFc.rfl', N⟩
    · rw [i_nge] at c
      have e2 := i_add (x := x1) (y := 1) (by omega) (by omega)
      refine ok_chk hq ?_
      refine ok_ldc R hq (by omega) (by omega) ?_
      intro v4 v4e _
      refine ok_cst (by omega) (by omega) ?_
      intro A5 U5
      refine ok_cst (by omega) (by omega) ?_
      intro A6 U6
      refine ok_cst (by omega) (by omega) ?_
      intro A7 U7
      refine ok_cst (by omega) (by omega) ?_
      intro A8 U8
      refine ok_chk hq ?_
      refine ok_cst (by omega) (by omega) ?_
      intro A10 U10
      have w10 : NFc h q F F A A10 := (NFc.st U5 (.inl rfl)).tr ((NFc.st U6 (.inl rfl)).tr ((NFc.st U7 (.inl rfl)).tr ((NFc.st U8 (.inl rfl)).tr (NFc.st U10 (.inr ⟨rfl, by decide⟩)))))
      have R10 : Rc F A10 := ((((R.st U5 (show -1 ≤ (-1 : Int32).toInt ∧ (-1 : Int32).toInt ≤ 5 by decide)).st U6 trivial).st U7 trivial).st U8 trivial).st U10 (nt2 hq _ _)
      have b3 : ci A10 36 3 = ci A8 36 3 := ci_fr (U10.2.2 36 3 (fun e => n1 e.1.symm))
      have b3' : ci A7 36 3 = ci A 36 3 := by rw [ci_fr (U7.2.2 36 3 (by simp)), ci_fr (U6.2.2 36 3 (by simp)), ci_fr (U5.2.2 36 3 (by simp))]
      have b4 : ci A10 36 4 = ci A5 36 4 := by rw [ci_fr (U10.2.2 36 4 (fun e => n1 e.1.symm)), ci_fr (U8.2.2 36 4 (by simp)), ci_fr (U7.2.2 36 4 (by simp)), ci_fr (U6.2.2 36 4 (by simp))]
      have b5 : ci A10 36 5 = ci A 36 5 := by rw [ci_fr (U10.2.2 36 5 (fun e => n1 e.1.symm)), ci_fr (U8.2.2 36 5 (by simp)), ci_fr (U7.2.2 36 5 (by simp)), ci_fr (U6.2.2 36 5 (by simp)), ci_fr (U5.2.2 36 5 (by simp))]
      have old : ∀ m, 0 ≤ m → m < x1.toInt → NMc A10 h q m := fun m m0 m1 => (N m m0 m1).cg (w10.h5 hk hq) (w10.q3 hk hq) (by rw [b3, U8.2.1 m m0 (by omega), b3']) (by rw [b4, U5.2.1 m m0 (by omega)]) (by rw [b5])
      have lv := L x1.toInt (by omega) (by omega)
      have L10 : LVc A10 h q := L.cg (w10.h5 hk hq) (w10.q3 hk hq)
      have d10 : ci A10 36 4 x1.toInt = -1 := by rw [b4, U5.1]; decide
      refine ok_cond (fun c4 => ?_) (fun c4 => ?_)
      · rw [i_lt] at c4
        unfold e_Sleep_getUp_145
        refine ok_mono (ih hm R10 (w10.hv hk hq H) L10 (fun m m0 m1 => ?_) (by omega) (by omega)) (fun r hr => hr.go w10)
        by_cases e : m = x1.toInt
        · subst e
          unfold NMc
          rw [ci_fr (w10.q3 hk hq)]
          exact ⟨lv.cg (w10.h5 hk hq), fun z => absurd z (by omega), fun _ => by rw [b3, U8.1]; decide⟩
        · exact old m m0 (by omega)
      · rw [i_nlt] at c4
        have lv2 : v4.toInt < 36 ∧ v4.toInt % 6 < ci A h 5 (v4.toInt / 6) := by
          rw [v4e]
          rcases lv with z | z
          · omega
          · exact ⟨z.2.1, z.2.2⟩
        refine ok_rem1 (by decide) ?_
        intro v12 e12
        have d12 : v12.toInt = v4.toInt % 6 := by rw [e12]; exact i_rem6 (by omega)
        refine ok_cst (by omega) (by omega) ?_
        intro A13 U13
        have w13 : NFc h q F F A10 A13 := NFc.st U13 (.inl rfl)
        have R13 : Rc F A13 := R10.st U13 (show 0 ≤ v12.toInt ∧ v12.toInt ≤ 5 by omega)
        have H13 : HVc F A13 h := (w10.tr w13).hv hk hq H
        refine ok_chk hk ?_
        refine ok_div1 (by decide) ?_
        intro v15 e15
        have d15 : v15.toInt = v4.toInt / 6 := by rw [e15]; exact i_div6 (by omega)
        refine ok_ldc R13 hk (by omega) (by omega) ?_
        intro v16 v16e v16r
        change -1 ≤ v16.toInt ∧ v16.toInt ≤ 7 at v16r
        have p16 := H13.2.2.1 v15.toInt (by omega) (by omega) (by rw [ci_fr (w13.h5 hk hq), ci_fr (w10.h5 hk hq), d15]; omega)
        refine ok_chk hk ?_
        refine ok_chk hq ?_
        refine ok_chk hk ?_
        refine ok_ldc R13 hk (by omega) (by omega) ?_
        intro v20 v20e v20r
        change -1 ≤ v20.toInt ∧ v20.toInt ≤ 7 at v20r
        have p20 := H13.2.1 x1.toInt (by omega) (by unfold cf; omega)
        refine ok_call (s_between hk R13 H13 ⟨by omega, by omega⟩ ⟨by omega, by omega⟩ (by omega)) ?_
        rintro ⟨v21, P2, F2, A24, J2⟩ ⟨g1, g2, g3, g4⟩
        dsimp only at g1 g2 g3 g4 ⊢
        subst g1
        have w24 : NFc h q F F2 A13 A24 := ⟨fun r o a b c => g3 r o (fun e => a e.1), g2⟩
        refine ok_cst (by omega) (by omega) ?_
        intro A26 U26
        have w26 : NFc h q F2 F2 A24 A26 := NFc.st U26 (.inl rfl)
        have R26 : Rc F2 A26 := g4.st U26 trivial
        have wz : NFc h q F F2 A A26 := (w10.tr w13).tr (w24.tr w26)
        have hm2 : k = cf F2 h 17 := by unfold cf; rw [g2 h 17 (fun e => n2 e.1)]; exact hm
        have N26 : ∀ m, 0 ≤ m → m < x1.toInt + 1 → NMc A26 h q m := fun m m0 m1 => by
          have t5 : A26 h 5 = A10 h 5 := (w26.h5 hk hq).trans ((w24.h5 hk hq).trans (w13.h5 hk hq))
          have t3 : A26 q 3 = A10 q 3 := (w26.q3 hk hq).trans ((w24.q3 hk hq).trans (w13.q3 hk hq))
          have s4 : ci A26 36 4 = ci A10 36 4 := by rw [ci_fr (U26.2.2 36 4 (by simp)), ci_fr (g3 36 4 (by simp)), ci_fr (U13.2.2 36 4 (by simp))]
          have s5 : ci A26 36 5 = ci A13 36 5 := by rw [ci_fr (U26.2.2 36 5 (by simp)), ci_fr (g3 36 5 (by simp))]
          by_cases e : m = x1.toInt
          · subst e
            unfold NMc
            rw [ci_fr t3, ci_fr t5, ci_fr (w10.q3 hk hq), ci_fr (w10.h5 hk hq), s4, s5, U13.1, d10, ← v4e]
            refine ⟨?_, fun _ => ⟨by omega, fun z => absurd z (by omega)⟩, fun z => absurd z (by omega)⟩
            unfold LVx
            rw [ci_fr t5, ci_fr (w10.h5 hk hq)]
            exact .inr ⟨by omega, by omega, by omega⟩
          · refine (old m m0 (by omega)).cg t5 t3 ?_ (by rw [s4]) (by rw [s5, U13.2.1 m m0 e])
            rw [U26.2.1 m m0 e, ci_fr (g3 36 3 (by simp)), ci_fr (U13.2.2 36 3 (by simp))]
        have L26 : LVc A26 h q := L.cg (wz.h5 hk hq) (wz.q3 hk hq)
        refine ok_ldn (by omega) (by omega) (fun v27 => ?_)
        refine ok_cond (fun _ => ?_) (fun _ => ?_)
        · unfold e_Sleep_getUp_145
          exact ok_mono (ih hm2 R26 (wz.hv hk hq H) L26 (by rw [e2, l1]; exact N26) (by omega) (by omega)) (fun r hr => hr.go wz)
        · rw [e9]
          refine ok_chk hq ?_
          refine ok_cst (by omega) (by omega) ?_
          intro A30 U30
          have w30 : NFc h q F2 F2 A26 A30 := NFc.st U30 (.inr ⟨rfl, by decide⟩)
          exact ok_mono (ih hm2 (R26.st U30 (nt2 hq _ _)) ((wz.tr w30).hv hk hq H) (L26.cg (w30.h5 hk hq) (w30.q3 hk hq)) (by rw [e2, l1]; exact NVc.cg N26 (w30.h5 hk hq) (w30.q3 hk hq) (fun o _ => U30.2.2 36 o (fun e => n1 e.1.symm))) (by omega) (by omega)) (fun r hr => hr.go (wz.tr w30))
/-- morning -/
def MPc (P : Nat → Nat → Nat) (F : Nat → Nat → Int32) (A : Nat → Nat → Nat → Int32) (h q : Nat) (r : Unit × (Nat → Nat → Nat) × (Nat → Nat → Int32) × (Nat → Nat → Nat → Int32) × (Nat → Nat → Nat → Int64)) : Prop := r.2.1 = P ∧ Rc r.2.2.1 r.2.2.2.1 ∧ (∀ r' o, r' ≠ 36 → r' ≠ q → (r' = h → o ≠ 17) → r.2.2.2.1 r' o = A r' o) ∧ (∀ r' k, ¬ (r' = 36 ∧ k = 101) → r.2.2.1 r' k = F r' k) ∧ LVc r.2.2.2.1 h q
theorem MPc.go {F F1 : Nat → Nat → Int32} {A A1 : Nat → Nat → Nat → Int32} {r : Unit × (Nat → Nat → Nat) × (Nat → Nat → Int32) × (Nat → Nat → Nat → Int32) × (Nat → Nat → Nat → Int64)} (a : ∀ r' o, r' ≠ 36 → r' ≠ q → (r' = h → o ≠ 17) → A1 r' o = A r' o) (b : ∀ r' k, ¬ (r' = 36 ∧ k = 101) → F1 r' k = F r' k) (m : MPc P F1 A1 h q r) : MPc P F A h q r := ⟨m.1, m.2.1, fun r' o x y z => (m.2.2.1 r' o x y z).trans (a r' o x y z), fun r' k x => (m.2.2.2.1 r' k x).trans (b r' k x), m.2.2.2.2⟩
theorem s_wakeUp_2 {F : Nat → Nat → Int32} (e8 : P 36 8 = h) (e9 : P 36 9 = q) (hk : c_kind h = 6) (hq : c_kind q = 2) (hm : k = cf F h 17) : ∀ {n : Nat} {A : Nat → Nat → Nat → Int32} {J : Nat → Nat → Nat → Int64} {x1 : Int32}, Rc F A → LVc A h q → (∀ m, x1.toInt ≤ m → m < k → NMc A h q m) → 0 ≤ x1.toInt ∧ x1.toInt ≤ 6 → 7 - x1.toInt < (n : Int) → ok (e_Sleep_wakeUp_2 n P F A J x1) (MPc P F A h q) := by
  intro n
  induction n with
  | zero => intro A J x1 R L N hx hn; exact absurd hn (by omega)
  | succ n ih =>
    intro A J x1 R L N hx hn
    have l0 : (0 : Int32).toInt = 0 := by decide
    have l1 : (1 : Int32).toInt = 1 := by decide
    have n1 := k2ne hq
    have n2 := k6ne hk
    have nh := k62 hk hq
    have rm : 0 ≤ (F h 17).toInt ∧ (F h 17).toInt ≤ 6 := by have := R.1 h 17; rw [hk] at this; exact this
    have hm' := hm
    unfold cf at hm'
    unfold e_Sleep_wakeUp_2
    rw [e8, e9]
    refine ok_chk hk ?_
    refine ok_cond (fun c => ok_some ⟨rfl, R, fun _ _ _ _ _ => rfl, fun _ _ _ => rfl, L⟩) (fun c => ?_)
    rw [i_nge] at c
    have e2 := i_add (x := x1) (y := 1) (by omega) (by omega)
    refine ok_chk hq ?_
    refine ok_ldc R hq (by omega) (by omega) ?_
    intro v4 v4e _
    refine ok_chk hq ?_
    refine ok_ldn (by omega) (by omega) (fun v6 => ?_)
    refine ok_cst (by omega) (by omega) ?_
    intro A7 U7
    refine ok_chk hq ?_
    refine ok_ldn (by omega) (by omega) (fun v9 => ?_)
    refine ok_ldn (by omega) (by omega) (fun v10 => ?_)
    refine ok_cst (by omega) (by omega) ?_
    intro A11 U11
    have R11 : Rc F A11 := (R.st U7 (nt2 hq _ _)).st U11 (nt2 hq _ _)
    have oth : ∀ r o, r ≠ q → A11 r o = A r o := fun r o hr => (U11.2.2 r o (fun e => hr e.1)).trans (U7.2.2 r o (fun e => hr e.1))
    have a3 : A11 q 3 = A q 3 := (U11.2.2 q 3 (by simp)).trans (U7.2.2 q 3 (by simp))
    have a5 : A11 h 5 = A h 5 := oth h 5 nh
    have L11 : LVc A11 h q := L.cg a5 a3
    have N11 : ∀ m, x1.toInt ≤ m → m < k → NMc A11 h q m := fun m m0 m1 => (N m m0 m1).cg a5 a3 (by rw [ci_fr (oth 36 3 n1.symm)]) (by rw [ci_fr (oth 36 4 n1.symm)]) (by rw [ci_fr (oth 36 5 n1.symm)])
    have nm := N11 x1.toInt (Int.le_refl _) (by omega)
    have go : ∀ {A' J'}, Rc F A' → (∀ r o, r ≠ q → A' r o = A11 r o) → LVc A' h q → (∀ m, 0 ≤ m → m ≠ x1.toInt → ci A' q 3 m = ci A11 q 3 m) → ok (e_Sleep_wakeUp_2 n P F A' J' (x1 + 1)) (MPc P F A h q) := by
      intro A' J' R' o' L' k3
      refine ok_mono (ih R' L' (fun m m0 m1 => ?_) (by omega) (by omega)) (fun r hr => hr.go (fun r' o x y z => (o' r' o y).trans (oth r' o y)) (fun _ _ _ => rfl))
      obtain ⟨y1, y2, y3⟩ := N11 m (by omega) m1
      unfold NMc
      rw [k3 m (by omega) (by omega), ci_fr (o' h 5 nh), ci_fr (o' 36 3 n1.symm), ci_fr (o' 36 4 n1.symm), ci_fr (o' 36 5 n1.symm)]
      exact ⟨y1.cg (o' h 5 nh), y2, y3⟩
    refine ok_cond (fun _ => ?_) (fun c4 => ?_)
    · unfold e_Sleep_wakeUp_99
      exact go R11 (fun _ _ _ => rfl) L11 (fun _ _ _ => rfl)
    · rw [i_nlt] at c4
      have lft : ci A11 q 3 x1.toInt = v4.toInt := by rw [ci_fr a3]; exact v4e.symm
      have cn := nm.cnt (by omega)
      have ls := (nm.2.1 (by omega)).1
      refine ok_div1 (by decide) ?_
      intro v13 e13
      have d13 : v13.toInt = v4.toInt / 6 := by rw [e13]; exact i_div6 (by omega)
      refine ok_chk hq ?_
      have f98 : ∀ {s2 : Int32}, LVx A11 h s2.toInt → ok (e_Sleep_wakeUp_98 (e_Sleep_wakeUp_2 n) n P F A11 J x1 q x1 s2) (MPc P F A h q) := by
        intro s2 hs
        unfold e_Sleep_wakeUp_98
        refine ok_cst (by omega) (by omega) ?_
        intro A18 U18
        refine go (R11.st U18 (nt2 hq _ _)) (fun r o hr => U18.2.2 r o (fun e => hr e.1)) (fun m m0 m1 => ?_) U18.2.1
        by_cases e : m = x1.toInt
        · subst e
          rw [U18.1]
          exact hs.cg (U18.2.2 h 5 (fun e => nh e.1))
        · rw [U18.2.1 m m0 e]
          exact (L11 m m0 m1).cg (U18.2.2 h 5 (fun e => nh e.1))
      refine ok_ldn (by omega) (by omega) (fun v15 => ?_)
      refine ok_cond (fun _ => ?_) (fun _ => f98 (.inl (by decide)))
      refine ok_ldc (K := 10) R11 (by decide) (by omega) (by omega) ?_
      intro v17 v17e v17r
      change 0 ≤ v17.toInt ∧ v17.toInt ≤ 5 at v17r
      have m13 := i_mulR (c := 6) (k := 6) (x := v13) (by decide) (by omega) (by omega)
      have a13 := i_add (x := v13 * 6) (y := v17) (by omega) (by omega)
      refine f98 (.inr ⟨by omega, by omega, ?_⟩)
      rw [show (v13 * 6 + v17).toInt % 6 = v17.toInt by omega, show (v13 * 6 + v17).toInt / 6 = ci A11 q 3 x1.toInt / 6 by omega, v17e]
      exact ls
/-- a night till a minute -/
theorem s_goTill_31 {x1 : Int32} (e8 : P 36 8 = h) (e9 : P 36 9 = q) (hk : c_kind h = 6) (hq : c_kind q = 2) (h1 : x1.toInt ≤ 600) : ∀ {n : Nat} {F : Nat → Nat → Int32} {A : Nat → Nat → Nat → Int32} {J : Nat → Nat → Nat → Int64} {x4 x5 : Int32}, Rc F A → HVc F A h → LVc A h q → NVc A h q (cf F h 17) → 0 ≤ x5.toInt ∧ x5.toInt ≤ 601 → 1300 - x5.toInt < (n : Int) → ok (e_Sleep_goTill_31 n P F A J x1 x4 x5) (MPc P F A h q) := by
  intro n
  induction n with
  | zero => intro F A J x4 x5 R H L N hx hn; exact absurd hn (by omega)
  | succ n ih =>
    intro F A J x4 x5 R H L N hx hn
    have l0 : (0 : Int32).toInt = 0 := by decide
    have l1 : (1 : Int32).toInt = 1 := by decide
    have n1 := k2ne hq
    have n2 := k6ne hk
    have nh := k62 hk hq
    have e5 := i_add (x := x5) (y := 1) (by omega) (by omega)
    have stop : ok (e_Sleep_goTill_119 n P F A J) (MPc P F A h q) := by
      unfold e_Sleep_goTill_119 e_Sleep_wakeUp
      refine ok_call (s_wakeUp_2 e8 e9 hk hq rfl R L (fun m m0 m1 => N m (by have := l0; omega) m1) (by decide) (by omega)) ?_
      rintro ⟨u, P2, F2, A2, J2⟩ hr
      exact ok_some hr
    unfold e_Sleep_goTill_31
    refine ok_cond (fun _ => stop) (fun c1 => ?_)
    rw [i_ngt] at c1
    refine ok_cond (fun _ => stop) (fun c2 => ?_)
    rw [i_ngt] at c2
    unfold e_Sleep_finishAll
    refine ok_call (s_finishAll_2 e8 e9 hk hq rfl (by omega) R H N (by decide) (by omega)) ?_
    rintro ⟨u, P2, F2, A2, J2⟩ ⟨g0, g1, g2, g3, g4⟩
    dsimp only at g0 g1 g2 g3 g4 ⊢
    subst g1
    subst g0
    have R2 := g2
    have H2 := g3.hv hk hq H
    have L2 : LVc A2 h q := L.cg (g3.h5 hk hq) (g3.q3 hk hq)
    have rm : 0 ≤ (F2 h 17).toInt ∧ (F2 h 17).toInt ≤ 6 := by have := R.1 h 17; rw [hk] at this; exact this
    -- the next turn
    have turn : ∀ {F3 A3 J3 y}, Rc F3 A3 → NFc h q F2 F3 A A3 → NVc A3 h q (cf F2 h 17) → ok (e_Sleep_goTill_31 n P2 F3 A3 J3 x1 y (x5 + 1)) (MPc P2 F2 A h q) := by
      intro F3 A3 J3 y R3 w3 N3
      refine ok_mono (ih R3 (w3.hv hk hq H) (L.cg (w3.h5 hk hq) (w3.q3 hk hq)) (by unfold cf; rw [w3.2 h 17 (fun e => n2 e.1)]; exact N3) (by omega) (by omega)) (fun r hr => hr.go (fun r' o x y z => w3.1 r' o x (fun e => absurd e y) z) w3.2)
    have f96 : ∀ {F3 A3 J3}, Rc F3 A3 → NFc h q F2 F3 A A3 → NVc A3 h q (cf F2 h 17) → ok (e_Sleep_goTill_96 (e_Sleep_goTill_31 n) n P2 F3 A3 J3 x1 x4 x5) (MPc P2 F2 A h q) := by
      intro F3 A3 J3 R3 w3 N3
      unfold e_Sleep_goTill_96
      refine ok_cond (fun _ => ?_) (fun _ => ?_)
      · unfold e_Sleep_goTill_111
        exact turn R3 w3 N3
      · refine ok_call (s_nextMinute e8 hk R3 (by omega)) ?_
        rintro ⟨v, P3, F4, A4, J4⟩ hr
        dsimp only at hr ⊢
        injection hr with q1 hr
        injection hr with q2 hr
        injection hr with q3 q4
        subst q1
        subst q2
        subst q3
        unfold e_Sleep_goTill_111
        exact turn R3 w3 N3
    have f52 : ∀ {m : Nat} {F3 : Nat → Nat → Int32} {A3 : Nat → Nat → Nat → Int32} {J3 : Nat → Nat → Nat → Int64} {x6 : Int32}, m ≤ n → Rc F3 A3 → NFc h q F2 F3 A A3 → NVc A3 h q (cf F2 h 17) → 0 ≤ x6.toInt ∧ x6.toInt ≤ 6 → 450 - x6.toInt < (m : Int) → ok (e_Sleep_goTill_52 (e_Sleep_goTill_31 n) m P2 F3 A3 J3 x1 x4 x5 x6) (MPc P2 F2 A h q) := by
      intro m
      induction m with
      | zero => intro F3 A3 J3 x6 hmn R3 w3 N3 h6 hm; exact absurd hm (by omega)
      | succ m ih2 =>
        intro F3 A3 J3 x6 hmn R3 w3 N3 h6 hm
        have t17 : F3 h 17 = F2 h 17 := w3.2 h 17 (fun e => n2 e.1)
        have f96' : ok (e_Sleep_goTill_96 (e_Sleep_goTill_31 n) m P2 F3 A3 J3 x1 x4 x5) (MPc P2 F2 A h q) := by
          unfold e_Sleep_goTill_96
          refine ok_cond (fun _ => ?_) (fun _ => ?_)
          · unfold e_Sleep_goTill_111
            exact turn R3 w3 N3
          · refine ok_call (s_nextMinute e8 hk R3 (by omega)) ?_
            rintro ⟨v, P3, F4, A4, J4⟩ hr
            dsimp only at hr ⊢
            injection hr with q1 hr
            injection hr with q2 hr
            injection hr with q3 q4
            subst q1
            subst q2
            subst q3
            unfold e_Sleep_goTill_111
            exact turn R3 w3 N3
        unfold e_Sleep_goTill_52
        rw [e8]
        refine ok_chk hk ?_
        refine ok_cond (fun _ => f96') (fun c3 => ?_)
        rw [i_nge, t17] at c3
        refine ok_cond (fun _ => f96') (fun _ => ?_)
        have e6 := i_add (x := x6) (y := 1) (by omega) (by omega)
        refine ok_ldc (K := 10) R3 (by decide) (by omega) (by omega) ?_
        intro v29 v29e _
        refine ok_cond (fun _ => ?_) (fun c4 => ?_)
        · unfold e_Sleep_goTill_90
          exact ih2 (by omega) R3 w3 N3 (by omega) (by omega)
        · rw [i_nne] at c4
          have nm := N3 x6.toInt h6.1 (by unfold cf; omega)
          have hl : 0 ≤ ci A3 q 3 x6.toInt := by
            by_cases z : ci A3 q 3 x6.toInt < 0
            · have := nm.2.2 z; omega
            · omega
          refine ok_call (s_begin (k := cf F2 h 17) e8 e9 hk hq R3 (w3.hv hk hq H) N3 ⟨h6.1, by unfold cf; omega⟩ (by unfold cf; omega) hl (by omega)) ?_
          rintro ⟨u, P4, F4, A4, J4⟩ ⟨b1, b2, b3, b4⟩
          dsimp only at b1 b2 b3 b4 ⊢
          subst b1
          exact ih2 (by omega) b2 (w3.tr b3) b4 (by omega) (by omega)
    exact f52 (Nat.le_refl _) R2 g3 g4 (by decide) (by omega)
theorem s_goTill {n : Nat} {F : Nat → Nat → Int32} {A : Nat → Nat → Nat → Int32} {x1 : Int32} (hk : c_kind h = 6) (hq : c_kind q = 2) (R : Rc F A) (H : HVc F A h) (L : LVc A h q) (h1 : x1.toInt ≤ 600) (hn : 1400 ≤ n) : ok (e_Sleep_goTill n P F A J x1 h q) (fun r => (∀ r' k, r' ≠ 36 → r.2.1 r' k = P r' k) ∧ MPc r.2.1 F A h q r) := by
  have l0 : (0 : Int32).toInt = 0 := by decide
  have n1 := k2ne hq
  have n2 := k6ne hk
  unfold e_Sleep_goTill
  refine ok_cpp ?_
  intro P1 p1 o1
  refine ok_cpp ?_
  intro P2 p2 o2
  have e8 : P2 36 8 = h := (o2 36 8 (by simp)).trans p1
  have e9 : P2 36 9 = q := p2
  have oP : ∀ r' k, r' ≠ 36 → P2 r' k = P r' k := fun r' k hr => (o2 r' k (fun e => hr e.1)).trans (o1 r' k (fun e => hr e.1))
  refine ok_cfi ?_
  intro A3 f1 f2 f3
  have w3 : NFc h q F F A A3 := ⟨fun r o a _ _ => f3 r o (fun e => a e.1), fun _ _ _ => rfl⟩
  have R3 : Rc F A3 := R.fi f1 f2 f3 trivial
  unfold e_Sleep_getUp
  have rm : 0 ≤ (F h 17).toInt ∧ (F h 17).toInt ≤ 6 := by have := R.1 h 17; rw [hk] at this; exact this
  refine ok_call (s_getUp_2 (k := cf F h 17) e8 e9 hk hq rfl R3 (w3.hv hk hq H) (L.cg (w3.h5 hk hq) (w3.q3 hk hq)) (fun m m0 m1 => absurd m1 (by omega)) ⟨by decide, by unfold cf; omega⟩ (by omega)) ?_
  rintro ⟨u, P5, F6, A7, J8⟩ ⟨g1, g2, g3, g4⟩
  dsimp only at g1 g2 g3 g4 ⊢
  subst g1
  refine ok_call (s_nextMinute e8 hk g2 (by omega)) ?_
  rintro ⟨v, P9, F9, A9, J9⟩ hr
  dsimp only at hr ⊢
  injection hr with q1 hr
  injection hr with q2 hr
  injection hr with q3 q4
  subst q1
  subst q2
  subst q3
  have wz := w3.tr g3
  refine ok_mono (s_goTill_31 e8 e9 hk hq h1 g2 (wz.hv hk hq H) (L.cg (wz.h5 hk hq) (wz.q3 hk hq)) (by unfold cf; rw [wz.2 h 17 (fun e => n2 e.1)]; exact g4) (by decide) (by omega)) (fun r hr => ?_)
  have hz := hr.go (fun r' o x y z => wz.1 r' o x (fun e => absurd e y) z) wz.2
  rw [hz.1]
  exact ⟨oP, hz⟩
end S91
end Qz80
section Qz81
/-! the class: states, the past -/
section T92
variable {P P' : Nat → Nat → Nat} {F F' : Nat → Nat → Int32} {A A' : Nat → Nat → Nat → Int32} {J : Nat → Nat → Nat → Int64} {β : Type} {Q : β → Prop} {r0 r1 : Nat}
theorem ok_ccp {r o q k n : Nat} {g : (Nat → Nat → Nat → Int32) → Option β} (kk : ∀ A', (∀ j, 0 ≤ j → j < (n : Int) → ci A' q k j = ci A r o j) → (∀ j, (n : Int) ≤ j → ci A' q k j = ci A q k j) → (∀ r' o', ¬ (r' = q ∧ o' = k) → A' r' o' = A r' o') → ok (g A') Q) : ok ((c_cp A r o q k n).bind g) Q := by
  refine kk _ (fun j hj hn => ?_) (fun j hn => ?_) (fun r' o' hn => ?_)
  · unfold ci
    rw [c_up_same, c_up_same]
    unfold va_cpy
    rw [if_pos (by omega)]
    rw [show 0 + (j.toNat - 0) = j.toNat by omega]
  · unfold ci
    rw [c_up_same, c_up_same]
    unfold va_cpy
    rw [if_neg (by omega)]
  · by_cases e : r' = q
    · subst e
      rw [c_up_same, c_up_ne (fun e => hn ⟨rfl, e⟩)]
    · rw [c_up_ne e]
theorem rc_reg (hk : c_kind r0 = 2) (R : Rc F A) (hA : ∀ r o, r ≠ r0 → A' r o = A r o) (hF : ∀ r k, r ≠ r0 → F' r k = F r k) : Rc F' A' := by
  refine ⟨fun r k => ?_, fun r o i hi => ?_⟩
  · by_cases e : r = r0
    · subst e
      rw [hk]
      exact trivial
    · unfold cf
      rw [hF r k e]
      exact R.1 r k
  · by_cases e : r = r0
    · subst e
      rw [hk]
      exact trivial
    · rw [ci_fr (hA r o e)]
      exact R.2 r o i hi
/-- a state is written anew, its left as said -/
def CPc (P : Nat → Nat → Nat) (F : Nat → Nat → Int32) (A : Nat → Nat → Nat → Int32) (r0 : Nat) (f : Int → Int) (r : Unit × (Nat → Nat → Nat) × (Nat → Nat → Int32) × (Nat → Nat → Nat → Int32) × (Nat → Nat → Nat → Int64)) : Prop := r.2.1 = P ∧ (∀ r' k, r' ≠ r0 → r.2.2.1 r' k = F r' k) ∧ (∀ r' o, r' ≠ r0 → r.2.2.2.1 r' o = A r' o) ∧ Rc r.2.2.1 r.2.2.2.1 ∧ (∀ j, 0 ≤ j → j < 6 → ci r.2.2.2.1 r0 3 j = f j)
theorem s_copy (hk : c_kind r0 = 2) (hne : r1 ≠ r0) (R : Rc F A) : ok (e_State_copy P F A J r0 r1) (CPc P F A r0 (ci A r1 3)) := by
  unfold e_State_copy
  refine ok_ccp ?_
  intro A1 a1 b1 c1
  refine ok_ccp ?_
  intro A2 a2 b2 c2
  refine ok_ccp ?_
  intro A3 a3 b3 c3
  refine ok_ccp ?_
  intro A4 a4 b4 c4
  refine ok_ccp ?_
  intro A5 a5 b5 c5
  refine ok_ccp ?_
  intro A6 a6 b6 c6
  refine ok_ccp ?_
  intro A7 a7 b7 c7
  refine ok_cpf ?_
  intro F8 U8
  refine ok_cpf ?_
  intro F9 U9
  have oA : ∀ r o, r ≠ r0 → A7 r o = A r o := fun r o h => (c7 r o (fun e => h e.1)).trans ((c6 r o (fun e => h e.1)).trans ((c5 r o (fun e => h e.1)).trans ((c4 r o (fun e => h e.1)).trans ((c3 r o (fun e => h e.1)).trans ((c2 r o (fun e => h e.1)).trans (c1 r o (fun e => h e.1)))))))
  have oF : ∀ r k, r ≠ r0 → F9 r k = F r k := fun r k h => (U9.2 r k (fun e => h e.1)).trans (U8.2 r k (fun e => h e.1))
  refine ok_some ⟨rfl, oF, oA, rc_reg hk R oA oF, fun j j0 j1 => ?_⟩
  show ci A7 r0 3 j = _
  rw [ci_fr (c7 r0 3 (by simp)), ci_fr (c6 r0 3 (by simp)), ci_fr (c5 r0 3 (by simp)), ci_fr (c4 r0 3 (by simp)), a3 j j0 (by omega), ci_fr (c2 r1 3 (fun e => hne e.1)), ci_fr (c1 r1 3 (fun e => hne e.1))]
theorem s_clear (hk : c_kind r0 = 2) (R : Rc F A) : ok (e_State_clear P F A J r0) (CPc P F A r0 (fun _ => -1)) := by
  unfold e_State_clear
  refine ok_cfi ?_
  intro A1 a1 b1 c1
  refine ok_cfi ?_
  intro A2 a2 b2 c2
  refine ok_cfi ?_
  intro A3 a3 b3 c3
  refine ok_cfi ?_
  intro A4 a4 b4 c4
  refine ok_cfi ?_
  intro A5 a5 b5 c5
  refine ok_cfi ?_
  intro A6 a6 b6 c6
  refine ok_cfi ?_
  intro A7 a7 b7 c7
  refine ok_cpf ?_
  intro F8 U8
  refine ok_cpf ?_
  intro F9 U9
  have oA : ∀ r o, r ≠ r0 → A7 r o = A r o := fun r o h => (c7 r o (fun e => h e.1)).trans ((c6 r o (fun e => h e.1)).trans ((c5 r o (fun e => h e.1)).trans ((c4 r o (fun e => h e.1)).trans ((c3 r o (fun e => h e.1)).trans ((c2 r o (fun e => h e.1)).trans (c1 r o (fun e => h e.1)))))))
  have oF : ∀ r k, r ≠ r0 → F9 r k = F r k := fun r k h => (U9.2 r k (fun e => h e.1)).trans (U8.2 r k (fun e => h e.1))
  refine ok_some ⟨rfl, oF, oA, rc_reg hk R oA oF, fun j j0 j1 => ?_⟩
  show ci A7 r0 3 j = _
  rw [ci_fr (c7 r0 3 (by simp)), ci_fr (c6 r0 3 (by simp)), ci_fr (c5 r0 3 (by simp)), ci_fr (c4 r0 3 (by simp)), a3 j j0 (by omega)]
  exact (by decide : (-1 : Int32).toInt = -1)
/-- the trial is a copy of now -/
theorem q_trial (G : Gc P F A) : ok (e_State_copy P F A J 33 2) (fun r => r.2.1 = P ∧ QKc P r.2.1 F r.2.2.1 A r.2.2.2.1 ∧ LVc r.2.2.2.1 (P 0 8) 33 ∧ (∀ k, r.2.2.1 32 k = F 32 k)) := by
  refine ok_mono (s_copy (by decide) (by decide) G.1) ?_
  rintro ⟨u, P2, F2, A2, J2⟩ ⟨g1, g2, g3, g4, g5⟩
  dsimp only at g1 g2 g3 g4 g5 ⊢
  subst g1
  have nl : P2 0 8 ≠ 33 := fun e => absurd G.k08 (by rw [e]; decide)
  refine ⟨rfl, ⟨fun _ _ _ => rfl, g4, ⟨fun q hq => ⟨fun k => g2 q k (by omega), fun o _ => g3 q o (by omega)⟩, fun r _ _ h => g3 r 3 h, fun k => g2 4 k (by decide), g2 0 10 (by decide), fun k => g2 1 k (by decide)⟩⟩, fun m m0 m1 => ?_, fun k => g2 32 k (by decide)⟩
  rw [g5 m m0 m1]
  exact (G.2.2.2.2.1 m m0 m1).cg (g3 _ 5 nl)
theorem q_goTill {n : Nat} {x1 : Int32} (G : Gc P F A) (L : LVc A (P 0 8) 33) (h1 : x1.toInt ≤ 600) (hn : 1400 ≤ n) : ok (e_Sleep_goTill n P F A J x1 (P 32 4) 33) (fun r => QKc P r.2.1 F r.2.2.1 A r.2.2.2.1 ∧ (∀ k, r.2.2.1 32 k = F 32 k)) := by
  rw [G.2.2.1]
  refine ok_mono (s_goTill G.k08 (by decide) G.1 G.2.2.2.1 L h1 hn) ?_
  rintro ⟨u, P2, F2, A2, J2⟩ ⟨o1, g1, g2, g3, g4, g5⟩
  dsimp only at o1 g1 g2 g3 g4 g5 ⊢
  have n33 : ∀ r, r = 27 ∨ r = 28 → r ≠ 36 ∧ r ≠ 33 := fun r h => by omega
  refine ⟨⟨o1, g2, ⟨fun q hq => ⟨fun k => g4 q k (fun e => (n33 q hq).1 e.1), fun o ho => g3 q o (n33 q hq).1 (n33 q hq).2 (fun _ => ho)⟩, fun r a b c => g3 r 3 (k2ne a) c (fun e => absurd e.symm (k62 G.k08 a)), fun k => g4 4 k (by simp), g4 0 10 (by simp), fun k => g4 1 k (by simp)⟩⟩, fun k => g4 32 k (by simp)⟩
theorem q_gainOfTrial {n : Nat} (G : Gc P F A) (L : LVc A (P 0 8) 33) (hn : 1400 ≤ n) : ok (e_Evening_gainOfTrial n P F A J) (fun r => QKc P r.2.1 F r.2.2.1 A r.2.2.2.1) := by
  have hm := G.2.2.2.1.2.2.2.2.2
  unfold e_Evening_gainOfTrial
  refine ok_chk G.k324 ?_
  refine ok_chk G.k324 ?_
  refine ok_call (q_goTill G L (by rw [G.2.2.1]; exact hm.2) hn) ?_
  rintro ⟨u, P2, F2, A2, J2⟩ ⟨q, -⟩
  dsimp only at q ⊢
  have G2 := q.g G
  refine ok_chk G2.k324 ?_
  refine ok_call (s_worthOfAll G2.k324 G2.1 (by omega)) ?_
  intro v _
  exact ok_some q
theorem q_stale (G : Gc P F A) : ok (e_Evening_setStale P F A J) (fun r => r.2.1 = P ∧ r.2.2.2.1 = A ∧ QKc P r.2.1 F r.2.2.1 A r.2.2.2.1) := by
  unfold e_Evening_setStale
  refine ok_cpf ?_
  intro F2 U2
  exact ok_some ⟨rfl, rfl, (QKc.rfl' G.1).pf U2 trivial (by decide)⟩
theorem q_offer {x1 x2 x3 : Int32} (G : Gc P F A) : ok (e_Evening_offer P F A J x1 x2 x3) (fun r => QKc P r.2.1 F r.2.2.1 A r.2.2.2.1) := by
  unfold e_Evening_offer
  refine ok_cond (fun _ => ok_some (QKc.rfl' G.1)) (fun _ => ?_)
  refine ok_cpf ?_
  intro F2 U2
  refine ok_cpf ?_
  intro F3 U3
  refine ok_cpf ?_
  intro F4 U4
  exact ok_some ((((QKc.rfl' G.1).pf U2 trivial (by decide)).pf U3 trivial (by decide)).pf U4 trivial (by decide))
theorem q_isAnswered {n : Nat} {x1 x2 x3 : Int32} (G : Gc P F A) (hn : 60 ≤ n) : ok (e_Evening_isAnswered n P F A J x1 x2 x3) (fun r => QKc P r.2.1 F r.2.2.1 A r.2.2.2.1) := by
  have f26 : ok (e_Evening_isAnswered_26 n P F A J x1 x2 x3) (fun r => QKc P r.2.1 F r.2.2.1 A r.2.2.2.1) := by
    unfold e_Evening_isAnswered_26
    refine ok_cpf ?_
    intro F2 U2
    refine ok_cpf ?_
    intro F3 U3
    refine ok_cpf ?_
    intro F4 U4
    have q4 : QKc P P F F4 A A := (((QKc.rfl' G.1).pf U2 trivial (by decide)).pf U3 trivial (by decide)).pf U4 trivial (by decide)
    refine ok_chk G.k324 ?_
    refine ok_call (s_worthOfAll G.k324 q4.2.1 hn) ?_
    intro v _
    refine ok_cpf ?_
    intro F5 U5
    refine ok_cpf ?_
    intro F6 U6
    exact ok_some ((q4.pf U5 trivial (by decide)).pf U6 trivial (by decide))
  unfold e_Evening_isAnswered
  exact ok_cond (fun _ => f26) (fun _ => ok_cond (fun _ => f26) (fun _ => ok_cond (fun _ => f26) (fun _ => ok_some (QKc.rfl' G.1))))
/-- what a man leaves in the trial -/
theorem LVc.put {h q : Nat} {i v : Int} (L : LVc A h q) (U : CUm A A' q 3 i v) (hh : h ≠ q) (hv : LVx A h v) : LVc A' h q := fun m m0 m1 => by
  have e5 : A' h 5 = A h 5 := U.2.2 h 5 (fun e => hh e.1)
  by_cases e : m = i
  · subst e; rw [U.1]; exact hv.cg e5
  · rw [U.2.1 m m0 e]; exact (L m m0 m1).cg e5
theorem Gc.n33 (G : Gc P F A) : P 0 8 ≠ 33 := fun e => absurd G.k08 (by rw [e]; decide)
theorem tf33 : tf 33 3 := ⟨fun h => absurd h (by decide), fun _ => .inr (.inr rfl)⟩
theorem tf33' : tf 33 4 := ⟨fun h => absurd h (by decide), fun _ => .inl (by decide)⟩
end T92
end Qz81
section Qz82
/-! the class: evenings -/
section E93
variable {J : Nat → Nat → Nat → Int64}
theorem s_forOne_13 {x1 : Int32} (h1 : 0 ≤ x1.toInt ∧ x1.toInt ≤ 5) : ∀ {n : Nat} {P : Nat → Nat → Nat} {F : Nat → Nat → Int32} {A : Nat → Nat → Nat → Int32} {J : Nat → Nat → Nat → Int64} {x2 : Int32}, Gc P F A → -1 ≤ x2.toInt ∧ x2.toInt ≤ 36 → 1500 - x2.toInt < (n : Int) → ok (e_Evening_seekForOne_13 n P F A J x1 x2) (fun r => QKc P r.2.1 F r.2.2.1 A r.2.2.2.1) := by
  intro n
  induction n with
  | zero => intro P F A J x2 G hx hn; exact absurd hn (by omega)
  | succ n ih =>
    intro P F A J x2 G hx hn
    have l1 : (1 : Int32).toInt = 1 := by decide
    have l36 : (36 : Int32).toInt = 36 := by decide
    have e2 : (x2 + 1).toInt = x2.toInt + 1 := by rw [i_add (by omega) (by omega), l1]
    unfold e_Evening_seekForOne_13
    refine ok_cond (fun _ => ok_some (QKc.rfl' G.1)) (fun c => ?_)
    rw [i_nge] at c
    refine ok_chk G.k324 ?_
    refine ok_call (s_mayBeLeft G.k324 G.1 ⟨by omega, by omega⟩) ?_
    intro v vp
    refine ok_cond (fun _ => ?_) (fun c2 => ?_)
    · unfold e_Evening_seekForOne_73
      exact ih G (by omega) (by omega)
    · rw [i_neq] at c2
      have lx : LVx A (P 0 8) x2.toInt := by
        rw [← G.2.2.1]
        rcases vp with z | z
        · exact absurd z (by rw [show (0 : Int32).toInt = 0 by decide] at c2; exact c2)
        · exact z.2
      refine ok_call (q_trial G) ?_
      rintro ⟨u, P2, F2, A2, J2⟩ ⟨g1, q2, L2, -⟩
      dsimp only at g1 q2 L2 ⊢
      subst g1
      have G2 := q2.g G
      refine ok_cst (by omega) (by omega) ?_
      intro A3 U3
      have q3 := q2.st U3 trivial tf33
      have G3 := q3.g G
      have L3 : LVc A3 (P2 0 8) 33 := L2.put U3 G2.n33 (lx.cg ((q2.2.2.1 _ G.live).2 5 (by decide)))
      refine ok_call (q_gainOfTrial G3 L3 (by omega)) ?_
      rintro ⟨v4, P4, F4, A4, J4⟩ q4
      dsimp only at q4 ⊢
      have G4 := q4.g G3
      refine ok_call (q_offer G4) ?_
      rintro ⟨u5, P5, F5, A5, J5⟩ q5
      dsimp only at q5 ⊢
      have G5 := q5.g G4
      have qa := (q3.tr q4).tr q5
      refine ok_cond (fun _ => ?_) (fun _ => ?_)
      · unfold e_Evening_seekForOne_73
        exact ok_mono (ih G5 (by omega) (by omega)) (fun r hr => qa.tr hr)
      · refine ok_cpf ?_
        intro F6 U6
        have q6 := (QKc.rfl' (P := P5) G5.1).pf U6 trivial (by decide)
        exact ok_mono (ih (q6.g G5) (by omega) (by omega)) (fun r hr => (qa.tr q6).tr hr)
theorem s_forOne {n : Nat} {P : Nat → Nat → Nat} {F : Nat → Nat → Int32} {A : Nat → Nat → Nat → Int32} {x1 : Int32} (G : Gc P F A) (h1 : 0 ≤ x1.toInt ∧ x1.toInt ≤ 5) (hn : 1600 ≤ n) : ok (e_Evening_seekForOne n P F A J x1) (fun r => QKc P r.2.1 F r.2.2.1 A r.2.2.2.1) := by
  have lm : (-1 : Int32).toInt = -1 := by decide
  unfold e_Evening_seekForOne
  refine ok_call (q_isAnswered G (by omega)) ?_
  rintro ⟨v, P2, F2, A2, J2⟩ q2
  dsimp only at q2 ⊢
  refine ok_cond (fun _ => ?_) (fun _ => ok_some q2)
  exact ok_mono (s_forOne_13 h1 (q2.g G) (by decide) (by omega)) (fun r hr => q2.tr hr)
theorem s_forTwo_22 {Q : Unit × (Nat → Nat → Nat) × (Nat → Nat → Int32) × (Nat → Nat → Nat → Int32) × (Nat → Nat → Nat → Int64) → Prop} {K13 : (Nat → Nat → Nat) → (Nat → Nat → Int32) → (Nat → Nat → Nat → Int32) → (Nat → Nat → Nat → Int64) → Int32 → Int32 → Int32 → Option (Unit × (Nat → Nat → Nat) × (Nat → Nat → Int32) × (Nat → Nat → Nat → Int32) × (Nat → Nat → Nat → Int64))} {P0 : Nat → Nat → Nat} {F0 : Nat → Nat → Int32} {A0 : Nat → Nat → Nat → Int32} {x1 x2 x3 : Int32} (h1 : 0 ≤ x1.toInt ∧ x1.toInt ≤ 5) (h2 : 0 ≤ x2.toInt ∧ x2.toInt ≤ 5) (h3 : -1 ≤ x3.toInt ∧ x3.toInt ≤ 35) (G0 : Gc P0 F0 A0) (hK : ∀ P F A J, QKc P0 P F0 F A0 A → ok (K13 P F A J x1 x2 (x3 + 1)) Q) : ∀ {n : Nat} {P : Nat → Nat → Nat} {F : Nat → Nat → Int32} {A : Nat → Nat → Nat → Int32} {J : Nat → Nat → Nat → Int64} {x4 : Int32}, QKc P0 P F0 F A0 A → -1 ≤ x4.toInt ∧ x4.toInt ≤ 36 → 1500 - x4.toInt < (n : Int) → ok (e_Evening_seekForTwo_22 K13 n P F A J x1 x2 x3 x4) Q := by
  intro n
  induction n with
  | zero => intro P F A J x4 q hx hn; exact absurd hn (by omega)
  | succ n ih =>
    intro P F A J x4 q hx hn
    have G := q.g G0
    have l0 : (0 : Int32).toInt = 0 := by decide
    have l1 : (1 : Int32).toInt = 1 := by decide
    have l36 : (36 : Int32).toInt = 36 := by decide
    have e4 : (x4 + 1).toInt = x4.toInt + 1 := by rw [i_add (by omega) (by omega), l1]
    have f101 : ok (e_Evening_seekForTwo_101 K13 n P F A J x1 x2 x3) Q := by
      unfold e_Evening_seekForTwo_101
      exact hK P F A J q
    unfold e_Evening_seekForTwo_22
    refine ok_cond (fun _ => f101) (fun c => ?_)
    rw [i_nge] at c
    refine ok_chk G.k324 ?_
    refine ok_call (s_mayBeLeft G.k324 G.1 ⟨by omega, by omega⟩) ?_
    intro v vp
    refine ok_cond (fun _ => f101) (fun c2 => ?_)
    rw [i_neq, l0] at c2
    have la : LVx A (P 0 8) x3.toInt := by rw [← G.2.2.1]; exact (vp.resolve_left c2).2
    refine ok_chk G.k324 ?_
    refine ok_call (s_mayBeLeft G.k324 G.1 ⟨by omega, by omega⟩) ?_
    intro w wp
    refine ok_cond (fun _ => ?_) (fun c3 => ?_)
    · unfold e_Evening_seekForTwo_95
      exact ih q (by omega) (by omega)
    · rw [i_neq, l0] at c3
      have lb : LVx A (P 0 8) x4.toInt := by rw [← G.2.2.1]; exact (wp.resolve_left c3).2
      refine ok_call (q_trial G) ?_
      rintro ⟨u, P2, F2, A2, J2⟩ ⟨g1, q2, L2, -⟩
      dsimp only at g1 q2 L2 ⊢
      subst g1
      have G2 := q2.g G
      have k5 := (q2.2.2.1 _ G.live).2 5 (by decide)
      refine ok_cst (by omega) (by omega) ?_
      intro A3 U3
      refine ok_cst (by omega) (by omega) ?_
      intro A4 U4
      have q4 := (q2.st U3 trivial tf33).st U4 trivial tf33
      have G4 := q4.g G
      have L3 : LVc A3 (P2 0 8) 33 := L2.put U3 G2.n33 (la.cg k5)
      have L4 : LVc A4 (P2 0 8) 33 := L3.put U4 G2.n33 ((lb.cg k5).cg (U3.2.2 _ 5 (fun e => G2.n33 e.1)))
      refine ok_call (q_gainOfTrial G4 L4 (by omega)) ?_
      rintro ⟨v5, P5, F5, A5, J5⟩ q5
      dsimp only at q5 ⊢
      refine ok_call (q_offer (q5.g G4)) ?_
      rintro ⟨u6, P6, F6, A6, J6⟩ q6
      dsimp only at q6 ⊢
      exact ih (q.tr ((q4.tr q5).tr q6)) (by omega) (by omega)
theorem s_forTwo_13 {x1 x2 : Int32} (h1 : 0 ≤ x1.toInt ∧ x1.toInt ≤ 5) (h2 : 0 ≤ x2.toInt ∧ x2.toInt ≤ 5) {P0 : Nat → Nat → Nat} {F0 : Nat → Nat → Int32} {A0 : Nat → Nat → Nat → Int32} (G0 : Gc P0 F0 A0) : ∀ {n : Nat} {P : Nat → Nat → Nat} {F : Nat → Nat → Int32} {A : Nat → Nat → Nat → Int32} {J : Nat → Nat → Nat → Int64} {x3 : Int32}, QKc P0 P F0 F A0 A → -1 ≤ x3.toInt ∧ x3.toInt ≤ 36 → 1600 - x3.toInt < (n : Int) → ok (e_Evening_seekForTwo_13 n P F A J x1 x2 x3) (fun r => QKc P0 r.2.1 F0 r.2.2.1 A0 r.2.2.2.1) := by
  intro n
  induction n with
  | zero => intro P F A J x3 q hx hn; exact absurd hn (by omega)
  | succ n ih =>
    intro P F A J x3 q hx hn
    have l1 : (1 : Int32).toInt = 1 := by decide
    have lm : (-1 : Int32).toInt = -1 := by decide
    have l36 : (36 : Int32).toInt = 36 := by decide
    have e3 : (x3 + 1).toInt = x3.toInt + 1 := by rw [i_add (by omega) (by omega), l1]
    unfold e_Evening_seekForTwo_13
    refine ok_cond (fun _ => ok_some q) (fun c => ?_)
    rw [i_nge] at c
    exact s_forTwo_22 h1 h2 ⟨by omega, by omega⟩ G0 (fun P F A J q => ih q (by omega) (by omega)) q (by decide) (by omega)
theorem s_forTwo {n : Nat} {P : Nat → Nat → Nat} {F : Nat → Nat → Int32} {A : Nat → Nat → Nat → Int32} {x1 x2 : Int32} (G : Gc P F A) (h1 : 0 ≤ x1.toInt ∧ x1.toInt ≤ 5) (h2 : 0 ≤ x2.toInt ∧ x2.toInt ≤ 5) (hn : 1700 ≤ n) : ok (e_Evening_seekForTwo n P F A J x1 x2) (fun r => QKc P r.2.1 F r.2.2.1 A r.2.2.2.1) := by
  have lm : (-1 : Int32).toInt = -1 := by decide
  unfold e_Evening_seekForTwo
  refine ok_call (q_isAnswered G (by omega)) ?_
  rintro ⟨v, P2, F2, A2, J2⟩ q2
  dsimp only at q2 ⊢
  refine ok_cond (fun _ => ?_) (fun _ => ok_some q2)
  exact s_forTwo_13 h1 h2 G q2 (by decide) (by omega)
theorem s_hide_13 {x1 : Int32} (h1 : 0 ≤ x1.toInt ∧ x1.toInt ≤ 5) : ∀ {n : Nat} {P : Nat → Nat → Nat} {F : Nat → Nat → Int32} {A : Nat → Nat → Nat → Int32} {J : Nat → Nat → Nat → Int64} {x2 : Int32}, Gc P F A → 0 ≤ x2.toInt ∧ x2.toInt ≤ 14 → 1500 - x2.toInt < (n : Int) → ok (e_Evening_seekHidingPlace_13 n P F A J x1 x2) (fun r => QKc P r.2.1 F r.2.2.1 A r.2.2.2.1) := by
  intro n
  induction n with
  | zero => intro P F A J x2 G hx hn; exact absurd hn (by omega)
  | succ n ih =>
    intro P F A J x2 G hx hn
    have l1 : (1 : Int32).toInt = 1 := by decide
    have e2 : (x2 + 1).toInt = x2.toInt + 1 := by rw [i_add (by omega) (by omega), l1]
    have a1 : 0 ≤ (F (P 32 4) 13).toInt ∧ (F (P 32 4) 13).toInt ≤ 8 := by have := G.1.1 (P 32 4) 13; rw [G.k324] at this; exact this
    have a2 : 0 ≤ (F (P 32 4) 17).toInt ∧ (F (P 32 4) 17).toInt ≤ 6 := by have := G.1.1 (P 32 4) 17; rw [G.k324] at this; exact this
    have a3 := i_add (x := F (P 32 4) 13) (y := F (P 32 4) 17) (by omega) (by omega)
    have f59 : x2.toInt < 14 → ∀ s0 : Int32, ok (e_Evening_seekHidingPlace_59 (e_Evening_seekHidingPlace_13 n) n P F A J x1 x2 s0) (fun r => QKc P r.2.1 F r.2.2.1 A r.2.2.2.1) := by
      intro hlt s0
      unfold e_Evening_seekHidingPlace_59
      refine ok_call (q_trial G) ?_
      rintro ⟨u, P2, F2, A2, J2⟩ ⟨g1, q2, L2, -⟩
      dsimp only at g1 q2 L2 ⊢
      subst g1
      have G2 := q2.g G
      refine ok_cst (by omega) (by omega) ?_
      intro A3 U3
      have q3 := q2.st U3 trivial tf33'
      have G3 := q3.g G
      have L3 : LVc A3 (P2 0 8) 33 := L2.cg (U3.2.2 _ 5 (fun e => G2.n33 e.1)) (U3.2.2 33 3 (by simp))
      refine ok_call (q_gainOfTrial G3 L3 (by omega)) ?_
      rintro ⟨v4, P4, F4, A4, J4⟩ q4
      dsimp only at q4 ⊢
      refine ok_call (q_offer (q4.g G3)) ?_
      rintro ⟨u5, P5, F5, A5, J5⟩ q5
      dsimp only at q5 ⊢
      exact ok_mono (ih (q5.g (q4.g G3)) (by omega) (by omega)) (fun r hr => ((q3.tr q4).tr q5).tr hr)
    unfold e_Evening_seekHidingPlace_13
    refine ok_chk G.k324 ?_
    refine ok_chk G.k324 ?_
    refine ok_cond (fun _ => ok_some (QKc.rfl' G.1)) (fun c => ?_)
    rw [i_nge] at c
    refine ok_chk G.k324 ?_
    refine ok_cond (fun _ => ?_) (fun _ => f59 (by omega) _)
    refine ok_chk G.k324 ?_
    exact f59 (by omega) _
theorem s_hide {n : Nat} {P : Nat → Nat → Nat} {F : Nat → Nat → Int32} {A : Nat → Nat → Nat → Int32} {x1 : Int32} (G : Gc P F A) (h1 : 0 ≤ x1.toInt ∧ x1.toInt ≤ 5) (hn : 1600 ≤ n) : ok (e_Evening_seekHidingPlace n P F A J x1) (fun r => QKc P r.2.1 F r.2.2.1 A r.2.2.2.1) := by
  have l0 : (0 : Int32).toInt = 0 := by decide
  unfold e_Evening_seekHidingPlace
  refine ok_call (q_isAnswered G (by omega)) ?_
  rintro ⟨v, P2, F2, A2, J2⟩ q2
  dsimp only at q2 ⊢
  refine ok_cond (fun _ => ?_) (fun _ => ok_some q2)
  exact ok_mono (s_hide_13 h1 (q2.g G) (by decide) (by omega)) (fun r hr => q2.tr hr)
theorem s_isSoIn_2 {P : Nat → Nat → Nat} {F : Nat → Nat → Int32} {A : Nat → Nat → Nat → Int32} {r1 : Nat} {x2 : Int32} (R : Rc F A) : ∀ {n : Nat} {x3 : Int32}, 0 ≤ x3.toInt ∧ x3.toInt ≤ 30 → 31 - x3.toInt < (n : Int) → ok (e_Told_isSoIn_2 n P F A J r1 x2 x3) (fun _ => True) := by
  intro n
  induction n with
  | zero => intro x3 hx hn; exact absurd hn (by omega)
  | succ n ih =>
    intro x3 hx hn
    have l1 : (1 : Int32).toInt = 1 := by decide
    have a1 : 0 ≤ (F 25 2).toInt ∧ (F 25 2).toInt ≤ 30 := R.1 25 2
    unfold e_Told_isSoIn_2
    refine ok_cond (fun _ => ok_some trivial) (fun _ => ?_)
    refine ok_cond (fun _ => ok_some trivial) (fun c => ?_)
    rw [i_nge] at c
    have e3 := i_add (x := x3) (y := 1) (by omega) (by omega)
    refine ok_ldc (K := 4) R (by decide) (by omega) (by omega) ?_
    intro v3 _ v3r
    change 0 ≤ v3.toInt ∧ v3.toInt ≤ 35 at v3r
    refine ok_ldn (by omega) (by omega) (fun v4 => ?_)
    refine ok_ldn (by omega) (by omega) (fun v5 => ?_)
    exact ok_cond (fun _ => ih (by omega) (by omega)) (fun _ => ok_some trivial)
theorem s_isSoIn {n : Nat} {P : Nat → Nat → Nat} {F : Nat → Nat → Int32} {A : Nat → Nat → Nat → Int32} {r1 : Nat} {x2 : Int32} (R : Rc F A) (hn : 40 ≤ n) : ok (e_Told_isSoIn n P F A J r1 x2) (fun _ => True) := by
  have l0 : (0 : Int32).toInt = 0 := by decide
  unfold e_Told_isSoIn
  exact s_isSoIn_2 R (by decide) (by omega)
theorem s_fits_18 {x1 x2 : Int32} (h1 : 0 ≤ x1.toInt ∧ x1.toInt ≤ 5) : ∀ {n : Nat} {P : Nat → Nat → Nat} {F : Nat → Nat → Int32} {A : Nat → Nat → Nat → Int32} {J : Nat → Nat → Nat → Int64} {x3 : Int32}, Gc P F A → -1 ≤ x3.toInt ∧ x3.toInt ≤ 36 → cf F 32 15 ≤ x3.toInt + 1 → 1500 - x3.toInt < (n : Int) → ok (e_Evening_seekFits_18 n P F A J x1 x2 x3) (fun r => QKc P r.2.1 F r.2.2.1 A r.2.2.2.1) := by
  intro n
  induction n with
  | zero => intro P F A J x3 G hx hf hn; exact absurd hn (by omega)
  | succ n ih =>
    intro P F A J x3 G hx hf hn
    have l0 : (0 : Int32).toInt = 0 := by decide
    have l1 : (1 : Int32).toInt = 1 := by decide
    have l36 : (36 : Int32).toInt = 36 := by decide
    have e3 : (x3 + 1).toInt = x3.toInt + 1 := by rw [i_add (by omega) (by omega), l1]
    unfold e_Evening_seekFits_18
    refine ok_cond (fun _ => ok_some (QKc.rfl' G.1)) (fun c => ?_)
    rw [i_nge] at c
    refine ok_chk G.k324 ?_
    refine ok_call (s_mayBeLeft G.k324 G.1 ⟨by omega, by omega⟩) ?_
    intro v vp
    refine ok_cond (fun _ => ?_) (fun c2 => ?_)
    · unfold e_Evening_seekFits_113
      exact ih G (by omega) (by omega) (by omega)
    · rw [i_neq, l0] at c2
      have la : LVx A (P 0 8) x3.toInt := by rw [← G.2.2.1]; exact (vp.resolve_left c2).2
      refine ok_call (q_trial G) ?_
      rintro ⟨u, P2, F2, A2, J2⟩ ⟨g1, q2, L2, k2⟩
      dsimp only at g1 q2 L2 k2 ⊢
      subst g1
      have G2 := q2.g G
      refine ok_cst (by omega) (by omega) ?_
      intro A3 U3
      have q3 := q2.st U3 trivial tf33
      have G3 := q3.g G
      have L3 : LVc A3 (P2 0 8) 33 := L2.put U3 G2.n33 (la.cg ((q2.2.2.1 _ G.live).2 5 (by decide)))
      refine ok_chk G3.k324 ?_
      refine ok_chk G3.k324 ?_
      refine ok_call (q_goTill G3 L3 (by rw [G3.2.2.1]; exact G3.2.2.2.1.2.2.2.2.2.2) (by omega)) ?_
      rintro ⟨u4, P4, F4, A4, J4⟩ ⟨q4, k4⟩
      dsimp only at q4 k4 ⊢
      have G4 := q4.g G3
      have qa := q3.tr q4
      have k15 : F4 32 15 = F 32 15 := (k4 15).trans (k2 15)
      refine ok_call (s_isSoIn G4.1 (by omega)) ?_
      intro v5 _
      unfold cf at hf
      refine ok_cond (fun _ => ?_) (fun _ => ?_)
      · unfold e_Evening_seekFits_113
        exact ok_mono (ih G4 (by omega) (by unfold cf; rw [k15]; omega) (by omega)) (fun r hr => qa.tr hr)
      · have a1 : 0 ≤ (F4 32 15).toInt ∧ (F4 32 15).toInt ≤ 37 := G4.1.1 32 15
        rw [k15] at a1
        have e15 : (F4 32 15 + 1).toInt = (F 32 15).toInt + 1 := by rw [k15, i_add (by omega) (by omega), l1]
        refine ok_cst (by rw [k15]; omega) (by rw [k15]; omega) ?_
        intro A6 U6
        refine ok_cpf ?_
        intro F7 U7
        have q7 := ((QKc.rfl' (P := P4) G4.1).st U6 trivial ⟨fun h => absurd h (by decide), fun h => absurd h (by decide)⟩).pf U7 (show 0 ≤ (F4 32 15 + 1).toInt ∧ (F4 32 15 + 1).toInt ≤ 37 by omega) (by decide)
        exact ok_mono (ih (q7.g G4) (by omega) (by unfold cf; rw [U7.1]; omega) (by omega)) (fun r hr => (qa.tr q7).tr hr)
theorem s_fits {n : Nat} {P : Nat → Nat → Nat} {F : Nat → Nat → Int32} {A : Nat → Nat → Nat → Int32} {x1 x2 : Int32} (G : Gc P F A) (h1 : 0 ≤ x1.toInt ∧ x1.toInt ≤ 5) (hn : 1600 ≤ n) : ok (e_Evening_seekFits n P F A J x1 x2) (fun r => QKc P r.2.1 F r.2.2.1 A r.2.2.2.1) := by
  have lm : (-1 : Int32).toInt = -1 := by decide
  have l0 : (0 : Int32).toInt = 0 := by decide
  unfold e_Evening_seekFits
  refine ok_call (q_isAnswered G (by omega)) ?_
  rintro ⟨v, P2, F2, A2, J2⟩ q2
  dsimp only at q2 ⊢
  refine ok_cond (fun _ => ?_) (fun _ => ok_some q2)
  refine ok_cpf ?_
  intro F3 U3
  have q3 := q2.pf U3 (show 0 ≤ (0 : Int32).toInt ∧ (0 : Int32).toInt ≤ 37 by decide) (by decide)
  exact ok_mono (s_fits_18 h1 (q3.g G) (by decide) (by unfold cf; rw [U3.1]; omega) (by omega)) (fun r hr => q3.tr hr)
theorem s_isSuspect_2 {x1 x2 : Int32} (h1 : 0 ≤ x1.toInt ∧ x1.toInt ≤ 5) : ∀ {n : Nat} {P : Nat → Nat → Nat} {F : Nat → Nat → Int32} {A : Nat → Nat → Nat → Int32} {J : Nat → Nat → Nat → Int64} {x3 : Int32}, Gc P F A → -1 ≤ x3.toInt ∧ x3.toInt ≤ 36 → 1500 - x3.toInt < (n : Int) → ok (e_Evening_isSuspect_2 n P F A J x1 x2 x3) (fun r => QKc P r.2.1 F r.2.2.1 A r.2.2.2.1) := by
  intro n
  induction n with
  | zero => intro P F A J x3 G hx hn; exact absurd hn (by omega)
  | succ n ih =>
    intro P F A J x3 G hx hn
    have l0 : (0 : Int32).toInt = 0 := by decide
    have l1 : (1 : Int32).toInt = 1 := by decide
    have l36 : (36 : Int32).toInt = 36 := by decide
    have e3 : (x3 + 1).toInt = x3.toInt + 1 := by rw [i_add (by omega) (by omega), l1]
    unfold e_Evening_isSuspect_2
    refine ok_cond (fun _ => ok_some (QKc.rfl' G.1)) (fun c => ?_)
    rw [i_nge] at c
    refine ok_chk G.k324 ?_
    refine ok_call (s_mayBeLeft G.k324 G.1 ⟨by omega, by omega⟩) ?_
    intro v vp
    have next : ∀ {P' F' A' J'}, QKc P P' F F' A A' → ok (e_Evening_isSuspect_92 (e_Evening_isSuspect_2 n) n P' F' A' J' x1 x2 x3) (fun r => QKc P r.2.1 F r.2.2.1 A r.2.2.2.1) := fun q => by
      unfold e_Evening_isSuspect_92
      exact ok_mono (ih (q.g G) (by omega) (by omega)) (fun r hr => q.tr hr)
    refine ok_cond (fun _ => next (QKc.rfl' G.1)) (fun c2 => ?_)
    rw [i_neq, l0] at c2
    have la : LVx A (P 0 8) x3.toInt := by rw [← G.2.2.1]; exact (vp.resolve_left c2).2
    refine ok_ldn (by omega) (by omega) (fun v5 => ?_)
    refine ok_cond (fun _ => next (QKc.rfl' G.1)) (fun _ => ?_)
    refine ok_call (q_trial G) ?_
    rintro ⟨u, P2, F2, A2, J2⟩ ⟨g1, q2, L2, k2⟩
    dsimp only at g1 q2 L2 k2 ⊢
    subst g1
    have G2 := q2.g G
    refine ok_cst (by omega) (by omega) ?_
    intro A3 U3
    have q3 := q2.st U3 trivial tf33
    have G3 := q3.g G
    have L3 : LVc A3 (P2 0 8) 33 := L2.put U3 G2.n33 (la.cg ((q2.2.2.1 _ G.live).2 5 (by decide)))
    refine ok_chk G3.k324 ?_
    refine ok_chk G3.k324 ?_
    refine ok_call (q_goTill G3 L3 (by rw [G3.2.2.1]; exact G3.2.2.2.1.2.2.2.2.2.2) (by omega)) ?_
    rintro ⟨u4, P4, F4, A4, J4⟩ ⟨q4, k4⟩
    dsimp only at q4 k4 ⊢
    refine ok_call (s_isSoIn (q4.g G3).1 (by omega)) ?_
    intro v5 _
    exact ok_cond (fun _ => next (q3.tr q4)) (fun _ => ok_some (q3.tr q4))
theorem s_suspectBits_4 {x1 : Int32} : ∀ {n : Nat} {P : Nat → Nat → Nat} {F : Nat → Nat → Int32} {A : Nat → Nat → Nat → Int32} {J : Nat → Nat → Nat → Int64} {x2 x3 : Int32}, Gc P F A → 0 ≤ x3.toInt ∧ x3.toInt ≤ 6 → 1600 - x3.toInt < (n : Int) → ok (e_Evening_suspectBits_4 n P F A J x1 x2 x3) (fun r => QKc P r.2.1 F r.2.2.1 A r.2.2.2.1) := by
  intro n
  induction n with
  | zero => intro P F A J x2 x3 G hx hn; exact absurd hn (by omega)
  | succ n ih =>
    intro P F A J x2 x3 G hx hn
    have l1 : (1 : Int32).toInt = 1 := by decide
    have lm : (-1 : Int32).toInt = -1 := by decide
    have e3 : (x3 + 1).toInt = x3.toInt + 1 := by rw [i_add (by omega) (by omega), l1]
    have a2 : 0 ≤ (F (P 32 4) 17).toInt ∧ (F (P 32 4) 17).toInt ≤ 6 := by have := G.1.1 (P 32 4) 17; rw [G.k324] at this; exact this
    unfold e_Evening_suspectBits_4
    refine ok_chk G.k324 ?_
    refine ok_cond (fun _ => ok_some (QKc.rfl' G.1)) (fun c => ?_)
    rw [i_nge] at c
    unfold e_Evening_isSuspect
    refine ok_call (s_isSuspect_2 ⟨by omega, by omega⟩ G (by decide) (by omega)) ?_
    rintro ⟨v, P2, F2, A2, J2⟩ q2
    dsimp only at q2 ⊢
    refine ok_cond (fun _ => ?_) (fun _ => ?_)
    · unfold e_Evening_suspectBits_30
      exact ok_mono (ih (q2.g G) (by omega) (by omega)) (fun r hr => q2.tr hr)
    · unfold e_Evening_suspectBits_30
      exact ok_mono (ih (q2.g G) (by omega) (by omega)) (fun r hr => q2.tr hr)
theorem s_pairs_16 {Q : Int32 × (Nat → Nat → Nat) × (Nat → Nat → Int32) × (Nat → Nat → Nat → Int32) × (Nat → Nat → Nat → Int64) → Prop} {K6 : (Nat → Nat → Nat) → (Nat → Nat → Int32) → (Nat → Nat → Nat → Int32) → (Nat → Nat → Nat → Int64) → Int32 → Int32 → Int32 → Int32 → Int32 → Option (Int32 × (Nat → Nat → Nat) × (Nat → Nat → Int32) × (Nat → Nat → Nat → Int32) × (Nat → Nat → Nat → Int64))} {P0 : Nat → Nat → Nat} {F0 : Nat → Nat → Int32} {A0 : Nat → Nat → Nat → Int32} {x1 x2 x3 x5 : Int32} (h1 : 0 ≤ x1.toInt ∧ x1.toInt ≤ 5) (h2 : 0 ≤ x2.toInt ∧ x2.toInt ≤ 5) (h5 : -1 ≤ x5.toInt ∧ x5.toInt ≤ 35) (G0 : Gc P0 F0 A0) (hK : ∀ P F A J x4, QKc P0 P F0 F A0 A → ok (K6 P F A J x1 x2 x3 x4 (x5 + 1)) Q) : ∀ {n : Nat} {P : Nat → Nat → Nat} {F : Nat → Nat → Int32} {A : Nat → Nat → Nat → Int32} {J : Nat → Nat → Nat → Int64} {x4 x6 : Int32}, QKc P0 P F0 F A0 A → -1 ≤ x6.toInt ∧ x6.toInt ≤ 36 → 1500 - x6.toInt < (n : Int) → ok (e_Evening_fittingPairs_16 K6 n P F A J x1 x2 x3 x4 x5 x6) Q := by
  intro n
  induction n with
  | zero => intro P F A J x4 x6 q hx hn; exact absurd hn (by omega)
  | succ n ih =>
    intro P F A J x4 x6 q hx hn
    have G := q.g G0
    have l0 : (0 : Int32).toInt = 0 := by decide
    have l1 : (1 : Int32).toInt = 1 := by decide
    have l36 : (36 : Int32).toInt = 36 := by decide
    have e6 : (x6 + 1).toInt = x6.toInt + 1 := by rw [i_add (by omega) (by omega), l1]
    have f133 : ok (e_Evening_fittingPairs_133 K6 n P F A J x1 x2 x3 x4 x5) Q := by
      unfold e_Evening_fittingPairs_133
      exact hK P F A J x4 q
    unfold e_Evening_fittingPairs_16
    refine ok_cond (fun _ => f133) (fun c => ?_)
    rw [i_nge] at c
    refine ok_chk G.k324 ?_
    refine ok_call (s_mayBeLeft G.k324 G.1 ⟨by omega, by omega⟩) ?_
    intro v vp
    refine ok_cond (fun _ => f133) (fun c2 => ?_)
    rw [i_neq, l0] at c2
    have la : LVx A (P 0 8) x5.toInt := by rw [← G.2.2.1]; exact (vp.resolve_left c2).2
    refine ok_chk G.k324 ?_
    refine ok_call (s_mayBeLeft G.k324 G.1 ⟨by omega, by omega⟩) ?_
    intro w wp
    refine ok_cond (fun _ => ?_) (fun c3 => ?_)
    · unfold e_Evening_fittingPairs_127
      exact ih q (by omega) (by omega)
    · rw [i_neq, l0] at c3
      have lb : LVx A (P 0 8) x6.toInt := by rw [← G.2.2.1]; exact (wp.resolve_left c3).2
      refine ok_call (q_trial G) ?_
      rintro ⟨u, P2, F2, A2, J2⟩ ⟨g1, q2, L2, -⟩
      dsimp only at g1 q2 L2 ⊢
      subst g1
      have G2 := q2.g G
      have k5 := (q2.2.2.1 _ G.live).2 5 (by decide)
      refine ok_cst (by omega) (by omega) ?_
      intro A3 U3
      refine ok_cst (by omega) (by omega) ?_
      intro A4 U4
      have q4 := (q2.st U3 trivial tf33).st U4 trivial tf33
      have G4 := q4.g G
      have L3 : LVc A3 (P2 0 8) 33 := L2.put U3 G2.n33 (la.cg k5)
      have L4 : LVc A4 (P2 0 8) 33 := L3.put U4 G2.n33 ((lb.cg k5).cg (U3.2.2 _ 5 (fun e => G2.n33 e.1)))
      refine ok_chk G4.k324 ?_
      refine ok_chk G4.k324 ?_
      refine ok_call (q_goTill G4 L4 (by rw [G4.2.2.1]; exact G4.2.2.2.1.2.2.2.2.2.2) (by omega)) ?_
      rintro ⟨u5, P5, F5, A5, J5⟩ ⟨q5, k5⟩
      dsimp only at q5 k5 ⊢
      refine ok_call (s_isSoIn (q5.g G4).1 (by omega)) ?_
      intro v6 _
      refine ok_cond (fun _ => ?_) (fun _ => ?_)
      · unfold e_Evening_fittingPairs_124 e_Evening_fittingPairs_127
        exact ih (q.tr (q4.tr q5)) (by omega) (by omega)
      · unfold e_Evening_fittingPairs_124 e_Evening_fittingPairs_127
        exact ih (q.tr (q4.tr q5)) (by omega) (by omega)
theorem s_pairs_6 {x1 x2 x3 : Int32} (h1 : 0 ≤ x1.toInt ∧ x1.toInt ≤ 5) (h2 : 0 ≤ x2.toInt ∧ x2.toInt ≤ 5) {P0 : Nat → Nat → Nat} {F0 : Nat → Nat → Int32} {A0 : Nat → Nat → Nat → Int32} (G0 : Gc P0 F0 A0) : ∀ {n : Nat} {P : Nat → Nat → Nat} {F : Nat → Nat → Int32} {A : Nat → Nat → Nat → Int32} {J : Nat → Nat → Nat → Int64} {x4 x5 : Int32}, QKc P0 P F0 F A0 A → -1 ≤ x5.toInt ∧ x5.toInt ≤ 36 → 1600 - x5.toInt < (n : Int) → ok (e_Evening_fittingPairs_6 n P F A J x1 x2 x3 x4 x5) (fun r => QKc P0 r.2.1 F0 r.2.2.1 A0 r.2.2.2.1) := by
  intro n
  induction n with
  | zero => intro P F A J x4 x5 q hx hn; exact absurd hn (by omega)
  | succ n ih =>
    intro P F A J x4 x5 q hx hn
    have l1 : (1 : Int32).toInt = 1 := by decide
    have lm : (-1 : Int32).toInt = -1 := by decide
    have l36 : (36 : Int32).toInt = 36 := by decide
    have e3 : (x5 + 1).toInt = x5.toInt + 1 := by rw [i_add (by omega) (by omega), l1]
    unfold e_Evening_fittingPairs_6
    refine ok_cond (fun _ => ok_some q) (fun c => ?_)
    rw [i_nge] at c
    exact s_pairs_16 h1 h2 ⟨by omega, by omega⟩ G0 (fun P F A J x4 q => ih q (by omega) (by omega)) q (by decide) (by omega)
end E93
end Qz82
section Qz83
/-! the class: what hands do, the past, what is held -/
section H94
variable {P P' : Nat → Nat → Nat} {F F' : Nat → Nat → Int32} {A A' : Nat → Nat → Nat → Int32} {J : Nat → Nat → Nat → Int64} {r0 : Nat}
theorem Gc.mk2 (G : Gc P F A) (R : Rc F' A') (h8 : P' 0 8 = P 0 8) (h9 : P' 0 9 = P 0 9) (h4 : P' 32 4 = P 32 4) (hF : ∀ q, q = 27 ∨ q = 28 → ∀ k, F' q k = F q k) (hA : ∀ q, q = 27 ∨ q = 28 → ∀ o, o ≠ 17 → A' q o = A q o) (h3 : ∀ r, c_kind r = 2 → r ≠ 3 → r ≠ 33 → r ≠ r0 → A' r 3 = A r 3) (L : LVc A' (P 0 8) r0)
    (hw : ∀ u, 0 ≤ u → u < cf F' 4 2 → 5 + ((cf F' 4 1 + u) % 20).toNat = r0 ∨ ∃ u', 0 ≤ u' ∧ u' < cf F 4 2 ∧ (cf F' 4 1 + u) % 20 = (cf F 4 1 + u') % 20)
    (hs : ∀ s : Nat, s < 3 → (F' 0 10 &&& (1 <<< (Int32.ofNat s &&& 31))) ≠ 0 → 29 + s = r0 ∨ (F 0 10 &&& (1 <<< (Int32.ofNat s &&& 31))) ≠ 0) : Gc P' F' A' := by
  have hl := G.live
  obtain ⟨g1, g2, g3, g4, g5, g6, g7⟩ := G
  have d5 := hA _ hl 5 (by decide)
  have reg : ∀ r, c_kind r = 2 → r ≠ 3 → r ≠ 33 → LVc A (P 0 8) r → LVc A' (P 0 8) r := fun r a b c l => by
    by_cases e : r = r0
    · rw [e]; exact L
    · exact l.cg d5 (h3 r a b c e)
  refine ⟨R, by rw [h8, h9]; exact g2, by rw [h4, h8]; exact g3, by rw [h8]; exact g4.cg (hF _ hl) (hA _ hl), by rw [h8]; exact reg 2 (by decide) (by decide) (by decide) g5, fun u u0 u1 => ?_, fun s s0 s1 => ?_⟩
  · rw [h8]
    rcases hw u u0 u1 with e | ⟨u', p0, p1, p2⟩
    · rw [e]; exact L
    · rw [p2]
      have := k_st (m := ((cf F 4 1 + u') % 20).toNat) (by omega)
      exact reg _ this.1 this.2.1 this.2.2 (g6 u' p0 p1)
  · rw [h8]
    have := k_sl s0
    rcases hs s s0 s1 with e | e
    · rw [e]; exact L
    · exact reg _ this.1 this.2.1 this.2.2 (g7 s s0 e)
theorem Gc.kp (G : Gc P F A) (u : Int) (u0 : 0 ≤ u) (u1 : u < cf F 4 2) : ∃ u', 0 ≤ u' ∧ u' < cf F 4 2 ∧ (cf F 4 1 + u) % 20 = (cf F 4 1 + u') % 20 := ⟨u, u0, u1, rfl⟩
/-- a call's end -/
def CAc (P : Nat → Nat → Nat) (F : Nat → Nat → Int32) (A : Nat → Nat → Nat → Int32) (r : Int32 × (Nat → Nat → Nat) × (Nat → Nat → Int32) × (Nat → Nat → Nat → Int32) × (Nat → Nat → Nat → Int64)) : Prop := Gc r.2.1 r.2.2.1 r.2.2.2.1 ∧ (r.2.2.1 1 1, r.2.1 32 9) = (F 1 1, P 32 9)
/-- the tape's length and the row of what was seen -/
theorem pe2 {x y : Int32} {p q : Nat} (e : x = y) (f : p = q) : (x, p) = (y, q) := by rw [e, f]
theorem pe {x y : Int32} {p : Nat} (e : x = y) : (x, p) = (y, p) := by rw [e]
theorem QKc.ca {r : Int32 × (Nat → Nat → Nat) × (Nat → Nat → Int32) × (Nat → Nat → Nat → Int32) × (Nat → Nat → Nat → Int64)} (G : Gc P F A) (q : QKc P r.2.1 F r.2.2.1 A r.2.2.2.1) : CAc P F A r := ⟨q.g G, pe2 (q.2.2.2.2.2.2 1) (q.1 32 9 (by decide))⟩
theorem ca0 {v : Int32} (G : Gc P F A) : ok (some (v, P, F, A, J)) (CAc P F A) := ok_some ⟨G, rfl⟩
theorem CAc.st {F1 : Nat → Nat → Int32} {P1 : Nat → Nat → Nat} {A1 : Nat → Nat → Nat → Int32} {r : Int32 × (Nat → Nat → Nat) × (Nat → Nat → Int32) × (Nat → Nat → Nat → Int32) × (Nat → Nat → Nat → Int64)} (h : CAc P1 F1 A1 r) (e : (F1 1 1, P1 32 9) = (F 1 1, P 32 9)) : CAc P F A r := ⟨h.1, h.2.trans e⟩
/-- the end of a call that makes the evening stale -/
theorem ca_stale {v : Int32} {F1 : Nat → Nat → Int32} {A1 : Nat → Nat → Nat → Int32} {P1 : Nat → Nat → Nat} (G : Gc P1 F1 A1) (e : (F1 1 1, P1 32 9) = (F 1 1, P 32 9)) : ok ((e_Evening_setStale P1 F1 A1 J).bind fun (_, P7, F8, A9, J10) => some (v, P7, F8, A9, J10)) (CAc P F A) := by
  refine ok_call (q_stale G) ?_
  rintro ⟨u, P2, F2, A2, J2⟩ ⟨-, -, q⟩
  dsimp only at q ⊢
  exact ok_some ⟨q.g G, (pe2 (q.2.2.2.2.2.2 1) (q.1 32 9 (by decide))).trans e⟩
theorem s_isMan {x1 : Int32} (G : Gc P F A) : ok (e_SleepWork_isMan P F A J x1) (fun v => v.toInt = 0 ∨ (v.toInt = 1 ∧ 0 ≤ x1.toInt ∧ x1.toInt < cf F (P 0 8) 17 ∧ x1.toInt ≤ 5)) := by
  have l0 : (0 : Int32).toInt = 0 := by decide
  have a1 : 0 ≤ (F (P 0 8) 17).toInt ∧ (F (P 0 8) 17).toInt ≤ 6 := by have := G.1.1 (P 0 8) 17; rw [G.k08] at this; exact this
  unfold e_SleepWork_isMan
  refine ok_cond (fun _ => ok_some (.inl (by decide))) (fun c => ?_)
  rw [i_nlt] at c
  refine ok_chk G.k08 ?_
  refine ok_cond (fun _ => ok_some (.inl (by decide))) (fun c2 => ?_)
  rw [i_nge] at c2
  exact ok_some (.inr ⟨by decide, by omega, c2, by omega⟩)
theorem s_isTool {x1 : Int32} (G : Gc P F A) : ok (e_SleepWork_isTool P F A J x1) (fun v => v.toInt = 0 ∨ (v.toInt = 1 ∧ 0 ≤ x1.toInt ∧ x1.toInt ≤ 5)) := by
  have l0 : (0 : Int32).toInt = 0 := by decide
  have a1 : 0 ≤ (F (P 0 8) 15).toInt ∧ (F (P 0 8) 15).toInt ≤ 6 := by have := G.1.1 (P 0 8) 15; rw [G.k08] at this; exact this
  unfold e_SleepWork_isTool
  refine ok_cond (fun _ => ok_some (.inl (by decide))) (fun c => ?_)
  rw [i_nlt] at c
  refine ok_chk G.k08 ?_
  refine ok_cond (fun _ => ok_some (.inl (by decide))) (fun c2 => ?_)
  rw [i_nge] at c2
  exact ok_some (.inr ⟨by decide, by omega, by omega⟩)
theorem s_isRoom {x1 : Int32} (G : Gc P F A) : ok (e_SleepWork_isRoom P F A J x1) (fun v => v.toInt = 0 ∨ (v.toInt = 1 ∧ 0 ≤ x1.toInt ∧ x1.toInt ≤ 7)) := by
  have l0 : (0 : Int32).toInt = 0 := by decide
  have a1 : 0 ≤ (F (P 0 8) 13).toInt ∧ (F (P 0 8) 13).toInt ≤ 8 := by have := G.1.1 (P 0 8) 13; rw [G.k08] at this; exact this
  unfold e_SleepWork_isRoom
  refine ok_cond (fun _ => ok_some (.inl (by decide))) (fun c => ?_)
  rw [i_nlt] at c
  refine ok_chk G.k08 ?_
  refine ok_cond (fun _ => ok_some (.inl (by decide))) (fun c2 => ?_)
  rw [i_nge] at c2
  exact ok_some (.inr ⟨by decide, by omega, by omega⟩)
theorem s_areTwoMen {x1 x2 : Int32} (G : Gc P F A) : ok (e_SleepWork_areTwoMen P F A J x1 x2) (fun v => v.toInt = 0 ∨ (v.toInt = 1 ∧ 0 ≤ x1.toInt ∧ x1.toInt ≤ 5 ∧ 0 ≤ x2.toInt ∧ x2.toInt ≤ 5)) := by
  have l0 : (0 : Int32).toInt = 0 := by decide
  unfold e_SleepWork_areTwoMen
  refine ok_call (s_isMan G) ?_
  intro v vp
  refine ok_cond (fun _ => ok_some (.inl (by decide))) (fun c => ?_)
  rw [i_neq, l0] at c
  refine ok_call (s_isMan G) ?_
  intro w wp
  refine ok_cond (fun _ => ok_some (.inl (by decide))) (fun c2 => ?_)
  rw [i_neq, l0] at c2
  have a := vp.resolve_left c
  have b := wp.resolve_left c2
  exact ok_cond (fun _ => ok_some (.inl (by decide))) (fun _ => ok_some (.inr ⟨by decide, by omega, by omega, by omega, by omega⟩))
theorem s_isKnownBy {x1 : Int32} : ok (e_SleepWork_isKnownBy P F A J x1) (fun _ => True) := by
  unfold e_SleepWork_isKnownBy
  exact ok_cond (fun _ => ok_some trivial) (fun _ => ok_cond (fun _ => ok_some trivial) (fun _ => ok_some trivial))
theorem s_cTask {n : Nat} {x1 x2 : Int32} (G : Gc P F A) (hn : 60 ≤ n) : ok (e_SleepWork_task n P F A J x1 x2) (fun _ => True) := by
  have l0 : (0 : Int32).toInt = 0 := by decide
  have a1 : 0 ≤ (F (P 0 8) 16).toInt ∧ (F (P 0 8) 16).toInt ≤ 6 := by have := G.1.1 (P 0 8) 16; rw [G.k08] at this; exact this
  unfold e_SleepWork_task
  refine ok_cond (fun _ => ok_some trivial) (fun c => ?_)
  rw [i_nlt] at c
  refine ok_chk G.k08 ?_
  refine ok_cond (fun c2 => ?_) (fun _ => ok_some trivial)
  rw [i_lt] at c2
  refine ok_cond (fun _ => ok_chk G.k08 (ok_ldn (by omega) (by omega) (fun v => ok_some trivial))) (fun _ => ?_)
  refine ok_cond (fun _ => ok_chk G.k08 (ok_ldn (by omega) (by omega) (fun v => ok_some trivial))) (fun _ => ?_)
  refine ok_cond (fun _ => ok_ldn (by omega) (by omega) (fun v => ok_some trivial)) (fun _ => ?_)
  refine ok_cond (fun _ => ok_chk G.k08 (ok_call (s_worth G.k08 G.1 (by omega) (by omega)) (fun v _ => ok_some trivial))) (fun _ => ?_)
  refine ok_cond (fun _ => ok_chk G.k08 (ok_call (s_isEnded G.k08 G.1 (by omega) (by omega)) (fun v _ => ok_cond (fun _ => ok_some trivial) (fun _ => ok_some trivial)))) (fun _ => ok_some trivial)
theorem s_cStep {x1 x2 x3 : Int32} (G : Gc P F A) : ok (e_SleepWork_step P F A J x1 x2 x3) (fun _ => True) := by
  have l0 : (0 : Int32).toInt = 0 := by decide
  unfold e_SleepWork_step
  refine ok_chk G.k08 ?_
  refine ok_call (s_hasStep G.k08 G.1) ?_
  intro v vp
  refine ok_cond (fun c => ?_) (fun _ => ok_some trivial)
  rw [i_ne, l0] at c
  have a := vp.resolve_left c
  have m := i_mulR (c := 6) (k := 6) (x := x1) (by decide) (by omega) (by omega)
  have b := i_add (x := x1 * 6) (y := x2) (by omega) (by omega)
  refine ok_cond (fun _ => ok_ldn (by omega) (by omega) (fun v => ok_some trivial)) (fun _ => ?_)
  refine ok_cond (fun _ => ok_chk G.k08 (ok_ldn (by omega) (by omega) (fun v => ok_some trivial))) (fun _ => ?_)
  refine ok_cond (fun _ => ok_chk G.k08 (ok_ldn (by omega) (by omega) (fun v => ok_some trivial))) (fun _ => ?_)
  refine ok_cond (fun _ => ok_chk G.k08 (ok_ldn (by omega) (by omega) (fun v => ok_some trivial))) (fun _ => ?_)
  refine ok_cond (fun _ => ok_chk G.k08 (ok_ldn (by omega) (by omega) (fun v => ok_some trivial))) (fun _ => ?_)
  refine ok_cond (fun _ => ok_chk G.k08 (ok_ldn (by omega) (by omega) (fun v => ok_some trivial))) (fun _ => ?_)
  refine ok_cond (fun _ => ok_chk G.k08 (ok_ldn (by omega) (by omega) (fun v => ok_some trivial))) (fun _ => ok_some trivial)
theorem s_cMan {x1 x2 : Int32} (G : Gc P F A) : ok (e_SleepWork_man P F A J x1 x2) (fun _ => True) := by
  have l0 : (0 : Int32).toInt = 0 := by decide
  unfold e_SleepWork_man
  refine ok_call (s_isMan G) ?_
  intro v vp
  refine ok_cond (fun c => ?_) (fun _ => ok_some trivial)
  rw [i_ne, l0] at c
  have a := vp.resolve_left c
  refine ok_ldn (by omega) (by omega) (fun v3 => ?_)
  refine ok_cond (fun _ => ok_chk G.k08 (ok_ldn (by omega) (by omega) (fun v => ok_some trivial))) (fun _ => ?_)
  refine ok_cond (fun _ => ok_cond (fun _ => ok_div1 (by decide) (fun _ _ => ok_some trivial)) (fun _ => ok_some trivial)) (fun _ => ?_)
  refine ok_cond (fun _ => ok_cond (fun _ => ok_rem1 (by decide) (fun _ _ => ok_some trivial)) (fun _ => ok_some trivial)) (fun _ => ?_)
  refine ok_cond (fun _ => ok_ldn (by omega) (by omega) (fun v => ok_some trivial)) (fun _ => ?_)
  refine ok_cond (fun _ => ok_ldn (by omega) (by omega) (fun v => ok_some trivial)) (fun _ => ?_)
  exact ok_cond (fun _ => ok_ldn (by omega) (by omega) (fun v => ok_some trivial)) (fun _ => ok_some trivial)
theorem s_cTool {x1 : Int32} (G : Gc P F A) : ok (e_SleepWork_tool P F A J x1) (fun _ => True) := by
  have l0 : (0 : Int32).toInt = 0 := by decide
  unfold e_SleepWork_tool
  refine ok_call (s_isTool G) ?_
  intro v vp
  refine ok_cond (fun _ => ok_some trivial) (fun c => ?_)
  rw [i_neq, l0] at c
  have a := vp.resolve_left c
  exact ok_ldn (by omega) (by omega) (fun v => ok_some trivial)
theorem q_minutesBetween {n : Nat} {x1 x2 : Int32} (G : Gc P F A) (h1 : 0 ≤ x1.toInt ∧ x1.toInt ≤ 7) (h2 : 0 ≤ x2.toInt ∧ x2.toInt ≤ 7) (hn : 70 ≤ n) : ok (e_Evening_minutesBetween n P F A J x1 x2) (fun r => QKc P r.2.1 F r.2.2.1 A r.2.2.2.1) := by
  unfold e_Evening_minutesBetween
  refine ok_chk G.k324 ?_
  refine ok_call (s_between G.k324 G.1 (by rw [G.2.2.1]; exact G.2.2.2.1) h1 h2 hn) ?_
  rintro ⟨v, P2, F2, A2, J2⟩ ⟨g1, g2, g3, g4⟩
  dsimp only at g1 g2 g3 g4 ⊢
  subst g1
  exact ok_some ⟨fun _ _ _ => rfl, g4, ⟨fun q hq => ⟨fun k => g2 q k (by omega), fun o _ => g3 q o (by omega)⟩, fun r a _ _ => g3 r 3 (by simp), fun k => g2 4 k (by simp), g2 0 10 (by simp), fun k => g2 1 k (by simp)⟩⟩
theorem s_cWay {n : Nat} {x1 x2 : Int32} (G : Gc P F A) (hn : 70 ≤ n) : ok (e_SleepWork_way n P F A J x1 x2) (CAc P F A) := by
  have l0 : (0 : Int32).toInt = 0 := by decide
  unfold e_SleepWork_way
  refine ok_call (s_isRoom G) ?_
  intro v vp
  refine ok_cond (fun _ => ca0 G) (fun c => ?_)
  rw [i_neq, l0] at c
  have a := vp.resolve_left c
  refine ok_call (s_isRoom G) ?_
  intro w wp
  refine ok_cond (fun c2 => ?_) (fun _ => ca0 G)
  rw [i_ne, l0] at c2
  have b := wp.resolve_left c2
  refine ok_call (q_minutesBetween G ⟨by omega, by omega⟩ ⟨by omega, by omega⟩ hn) ?_
  rintro ⟨v5, P2, F2, A2, J2⟩ q
  dsimp only at q ⊢
  exact ok_cond (fun _ => ok_some (QKc.ca G q)) (fun _ => ok_some (QKc.ca G q))
theorem s_cWhere {n : Nat} {x1 x2 : Int32} (G : Gc P F A) (hn : 70 ≤ n) : ok (e_SleepWork_where n P F A J x1 x2) (CAc P F A) := by
  have l0 : (0 : Int32).toInt = 0 := by decide
  unfold e_SleepWork_where
  refine ok_call (s_isMan G) ?_
  intro v vp
  refine ok_cond (fun _ => ca0 G) (fun c => ?_)
  rw [i_neq, l0] at c
  have a := vp.resolve_left c
  refine ok_cond (fun _ => ca0 G) (fun _ => ?_)
  refine ok_chk G.k08 ?_
  refine ok_cond (fun _ => ?_) (fun _ => ca0 G)
  refine ok_chk G.k08 ?_
  refine ok_ldc G.1 G.k08 (by omega) (by omega) ?_
  intro v7 v7e v7r
  change -1 ≤ v7.toInt ∧ v7.toInt ≤ 7 at v7r
  have h7 := G.2.2.2.1.2.1 x1.toInt (by omega) a.2.2.1
  refine ok_ldc (K := 2) G.1 (by decide) (by omega) (by omega) ?_
  intro v8 v8e _
  refine ok_cond (fun c8 => ?_) (fun _ => ca0 G)
  rw [i_ge] at c8
  have lv := G.2.2.2.2.1 x1.toInt (by omega) (by omega)
  have l2 : v8.toInt < 36 ∧ v8.toInt % 6 < ci A (P 0 8) 5 (v8.toInt / 6) := by
    rw [v8e]
    rcases lv with z | z
    · omega
    · exact ⟨z.2.1, z.2.2⟩
  refine ok_chk G.k08 ?_
  refine ok_div1 (by decide) ?_
  intro v11 e11
  have d11 : v11.toInt = v8.toInt / 6 := by rw [e11]; exact i_div6 (by omega)
  refine ok_ldc G.1 G.k08 (by omega) (by omega) ?_
  intro v12 v12e v12r
  change -1 ≤ v12.toInt ∧ v12.toInt ≤ 7 at v12r
  have h12 := G.2.2.2.1.2.2.1 v11.toInt (by omega) (by omega) (by rw [d11]; omega)
  refine ok_call (q_minutesBetween G ⟨by omega, by omega⟩ ⟨by omega, by omega⟩ hn) ?_
  rintro ⟨v5, P2, F2, A2, J2⟩ q
  dsimp only at q ⊢
  exact ok_cond (fun _ => ok_some (QKc.ca G q)) (fun _ => ok_some (QKc.ca G q))
/-- a row of the state of now that nothing rests on -/
theorem Gc.st2 {o : Nat} {i v : Int} (G : Gc P F A) (U : CUm A A' 2 o i v) (ho : o ≠ 3) : Gc P F A' := ((QKc.rfl' (P := P) G.1).st U trivial ⟨fun h => absurd h (by decide), fun _ => .inl ho⟩).g G
theorem s_cLeave {x1 x2 x3 : Int32} (G : Gc P F A) : ok (e_SleepWork_leave P F A J x1 x2 x3) (CAc P F A) := by
  have l0 : (0 : Int32).toInt = 0 := by decide
  unfold e_SleepWork_leave
  refine ok_call (s_isMan G) ?_
  intro v vp
  refine ok_cond (fun c => ?_) (fun _ => ca0 G)
  rw [i_ne, l0] at c
  have a := vp.resolve_left c
  have f69 : ∀ {s2 : Int32}, LVx A (P 0 8) s2.toInt → ok (e_SleepWork_leave_69 P F A J x1 s2) (CAc P F A) := by
    intro s2 hs
    unfold e_SleepWork_leave_69
    refine ok_cst (by omega) (by omega) ?_
    intro A2 U2
    have n2 : P 0 8 ≠ 2 := fun e => absurd G.k08 (by rw [e]; decide)
    have G2 : Gc P F A2 := G.mk2 (r0 := 2) (G.1.st U2 trivial) rfl rfl rfl (fun _ _ _ => rfl) (fun q hq o _ => U2.2.2 q o (by omega)) (fun r _ _ _ h => U2.2.2 r 3 (fun e => h e.1)) (G.2.2.2.2.1.put U2 n2 hs) (fun u u0 u1 => .inr (G.kp u u0 u1)) (fun s _ h => .inr h)
    exact ca_stale G2 rfl
  have f25 : ∀ {s0 : Int32}, (s0.toInt = 0 ∨ s0.toInt ≠ 0) → ok (e_SleepWork_leave_25 P F A J x1 x2 x3 s0) (CAc P F A) := by
    intro s0 _
    unfold e_SleepWork_leave_25
    refine ok_cond (fun c1 => ?_) (fun c1 => ?_)
    · rw [i_ne] at c1
      unfold e_SleepWork_leave_46
      refine ok_cond (fun c2 => ?_) (fun _ => f69 (.inl (by decide)))
      rw [i_eq] at c2
      exact absurd c2 c1
    · refine ok_chk G.k08 ?_
      refine ok_call (s_hasStep G.k08 G.1) ?_
      intro w wp
      refine ok_cond (fun c2 => ?_) (fun _ => ca0 G)
      rw [i_ne, l0] at c2
      have b := wp.resolve_left c2
      unfold e_SleepWork_leave_46
      refine ok_cond (fun _ => ?_) (fun _ => f69 (.inl (by decide)))
      have m := i_mulR (c := 6) (k := 6) (x := x2) (by decide) (by omega) (by omega)
      have d := i_add (x := x2 * 6) (y := x3) (by omega) (by omega)
      refine f69 (.inr ⟨by omega, by omega, ?_⟩)
      rw [show (x2 * 6 + x3).toInt % 6 = x3.toInt by omega, show (x2 * 6 + x3).toInt / 6 = x2.toInt by omega]
      exact b.2.2.2.2.1
  have f24 : ok (e_SleepWork_leave_24 P F A J x1 x2 x3) (CAc P F A) := by
    unfold e_SleepWork_leave_24
    exact f25 (.inl l0)
  exact ok_cond (fun _ => f24) (fun _ => ok_cond (fun _ => f24) (fun _ => f25 (.inr (by decide))))
theorem s_cWork {x1 x2 : Int32} (G : Gc P F A) : ok (e_SleepWork_work P F A J x1 x2) (CAc P F A) := by
  have l0 : (0 : Int32).toInt = 0 := by decide
  unfold e_SleepWork_work
  refine ok_chk G.k08 ?_
  refine ok_call (s_hasStep G.k08 G.1) ?_
  intro w wp
  refine ok_cond (fun _ => ca0 G) (fun c2 => ?_)
  rw [i_neq, l0] at c2
  have b := wp.resolve_left c2
  refine ok_ldn (by omega) (by omega) (fun v4 => ?_)
  refine ok_cond (fun _ => ?_) (fun _ => ca0 G)
  refine ok_ldn (by omega) (by omega) (fun v6 => ?_)
  refine ok_cst (by omega) (by omega) ?_
  intro A2 U2
  have G2 := G.st2 U2 (by decide)
  refine ok_chk G2.k08 ?_
  have hu := G2.2.2.2.1.2.2.2.1 x1.toInt x2.toInt (by omega) (by omega) (by omega) (by rw [ci_fr (U2.2.2 _ 5 (by simp))]; omega)
  refine ok_call (s_finish (r1 := 2) G2.k08 (by decide) G2.1 (by omega) (by omega) hu) ?_
  rintro ⟨u, P3, F3, A3, J3⟩ ⟨g1, g2, g3, g4⟩
  dsimp only at g1 g2 g3 g4 ⊢
  subst g1
  subst g2
  have G3 : Gc P3 F3 A3 := G2.cg g4 ⟨fun q hq => ⟨fun _ => rfl, fun o _ => g3 q o (by omega)⟩, fun r _ _ _ => g3 r 3 (by simp), fun _ => rfl, rfl, fun _ => rfl⟩ rfl rfl rfl
  exact ca_stale G3 rfl
theorem s_cLay {x1 x2 : Int32} (G : Gc P F A) : ok (e_SleepWork_lay P F A J x1 x2) (CAc P F A) := by
  have l0 : (0 : Int32).toInt = 0 := by decide
  unfold e_SleepWork_lay
  refine ok_call (s_isTool G) ?_
  intro v vp
  refine ok_cond (fun _ => ca0 G) (fun c => ?_)
  rw [i_neq, l0] at c
  have a := vp.resolve_left c
  refine ok_call (s_isRoom G) ?_
  intro w wp
  refine ok_cond (fun _ => ?_) (fun _ => ca0 G)
  refine ok_cst (by omega) (by omega) ?_
  intro A2 U2
  exact ca_stale (G.st2 U2 (by decide)) rfl
theorem s_cGive {x1 x2 : Int32} (G : Gc P F A) : ok (e_SleepWork_give P F A J x1 x2) (CAc P F A) := by
  have l0 : (0 : Int32).toInt = 0 := by decide
  unfold e_SleepWork_give
  refine ok_call (s_isTool G) ?_
  intro v vp
  refine ok_cond (fun _ => ca0 G) (fun c => ?_)
  rw [i_neq, l0] at c
  have a := vp.resolve_left c
  refine ok_call (s_isMan G) ?_
  intro w wp
  refine ok_cond (fun _ => ?_) (fun _ => ca0 G)
  refine ok_cst (by omega) (by omega) ?_
  intro A2 U2
  exact ca_stale (G.st2 U2 (by decide)) rfl
theorem s_cBar {x1 x2 : Int32} (G : Gc P F A) : ok (e_SleepWork_bar P F A J x1 x2) (CAc P F A) := by
  have f52 : ∀ s1 : Int32, ok (e_SleepWork_bar_52 P F A J 2 s1) (CAc P F A) := fun s1 => by
    unfold e_SleepWork_bar_52
    refine ok_cpf ?_
    intro F2 U2
    have q2 := (QKc.rfl' (P := P) G.1).pf U2 trivial (by decide)
    exact ca_stale (q2.g G) (pe (q2.2.2.2.2.2.2 1))
  unfold e_SleepWork_bar
  refine ok_cond (fun _ => ca0 G) (fun _ => ?_)
  refine ok_chk G.k08 ?_
  exact ok_cond (fun _ => ok_cond (fun _ => f52 _) (fun _ => f52 _)) (fun _ => ca0 G)
end H94
end Qz83
section Qz84
/-! the class: nights, evenings, what is held, the tape -/
theorem i_rem20 {v : Int32} (h : 0 ≤ v.toInt) : (v - v / 20 * 20).toInt = v.toInt % 20 := by
  have r := i_rng v
  have e : (20 : Int32).toInt = 20 := by decide
  have d : (v / 20).toInt = v.toInt / 20 := by
    rw [Int32.toInt_div, e, Int.tdiv_eq_ediv_of_nonneg h]
    exact Int.bmod_eq_of_le (by omega) (by omega)
  have m := i_mulR (c := 20) (k := 20) (x := v / 20) (by decide) (by omega) (by omega)
  have s := i_sub (x := v) (y := v / 20 * 20) (by omega) (by omega)
  omega
theorem i_nat {x : Int32} (h : 0 ≤ x.toInt) : x = Int32.ofNat x.toInt.toNat := by
  have r := i_rng x
  refine i_ext ?_
  rw [Int32.toInt_ofNat_of_lt (by omega)]
  omega
theorem b_hold : ∀ a : Fin 8, ∀ x s : Fin 3, ((Int32.ofNat a.val ||| (1 <<< (Int32.ofNat x.val &&& 31))) &&& (1 <<< (Int32.ofNat s.val &&& 31))) ≠ 0 → s.val = x.val ∨ (Int32.ofNat a.val &&& (1 <<< (Int32.ofNat s.val &&& 31))) ≠ 0 := by decide
theorem b_rng : ∀ a : Fin 8, ∀ x : Fin 3, 0 ≤ (Int32.ofNat a.val ||| (1 <<< (Int32.ofNat x.val &&& 31))).toInt ∧ (Int32.ofNat a.val ||| (1 <<< (Int32.ofNat x.val &&& 31))).toInt ≤ 7 := by decide
theorem b_none : ∀ s : Fin 3, ((0 : Int32) &&& (1 <<< (Int32.ofNat s.val &&& 31))) = 0 := by decide
section C95
variable {P P' : Nat → Nat → Nat} {F F' : Nat → Nat → Int32} {A A' : Nat → Nat → Nat → Int32} {J : Nat → Nat → Nat → Int64}
theorem Gc.n2 (G : Gc P F A) : P 0 8 ≠ 2 := fun e => absurd G.k08 (by rw [e]; decide)
theorem Gc.nk {r : Nat} (G : Gc P F A) (hr : c_kind r = 2) : P 0 8 ≠ r := fun e => absurd G.k08 (by rw [e, hr]; decide)
/-- the past: a state is put there -/
theorem s_push (G : Gc P F A) : ok (e_Past_push P F A J 2) (fun r => r.2.1 = P ∧ Gc r.2.1 r.2.2.1 r.2.2.2.1 ∧ r.2.2.1 1 1 = F 1 1) := by
  have l1 : (1 : Int32).toInt = 1 := by decide
  have l20 : (20 : Int32).toInt = 20 := by decide
  have a1 : 0 ≤ (F 4 1).toInt ∧ (F 4 1).toInt ≤ 19 := G.1.1 4 1
  have a2 : 0 ≤ (F 4 2).toInt ∧ (F 4 2).toInt ≤ 20 := G.1.1 4 2
  unfold e_Past_push
  refine ok_cond (fun c => ?_) (fun c => ?_)
  · rw [i_ne, l20] at c
    have e2 := i_add (x := F 4 2) (y := 1) (by omega) (by omega)
    refine ok_cpf ?_
    intro F2 U2
    have k1 : F2 4 1 = F 4 1 := U2.2 4 1 (by simp)
    have k2 : (F2 4 2).toInt = (F 4 2).toInt + 1 := by rw [U2.1]; omega
    have e3 := i_add (x := F2 4 1) (y := F2 4 2) (by rw [k1]; omega) (by rw [k1]; omega)
    rw [k1] at e3
    have e4 := i_sub (x := F2 4 1 + F2 4 2) (y := 1) (by rw [k1]; omega) (by rw [k1]; omega)
    rw [k1] at e4
    refine ok_rem1 (by decide) ?_
    intro v3 e5
    have d3 : v3.toInt = ((F 4 1).toInt + (F 4 2).toInt) % 20 := by
      rw [e5, i_rem20 (by rw [k1]; omega), k1]
      have : (F 4 1 + F2 4 2 - 1).toInt = (F 4 1).toInt + (F 4 2).toInt := by omega
      rw [this]
    have kk := k_st (m := v3.toInt.toNat) (by omega)
    refine ok_car (by omega) (by omega) kk.1 ?_
    have R2 : Rc F2 A := G.1.pf U2 (show 0 ≤ (F 4 2 + 1).toInt ∧ (F 4 2 + 1).toInt ≤ 20 by omega)
    refine ok_call (s_copy (r1 := 2) kk.1 (by omega) R2) ?_
    rintro ⟨u, P3, F3, A3, J3⟩ ⟨g1, g2, g3, g4, g5⟩
    dsimp only at g1 g2 g3 g4 g5 ⊢
    subst g1
    have hne := G.nk kk.1
    have t1 : F3 4 1 = F 4 1 := (g2 4 1 (by omega)).trans k1
    have t2 : (F3 4 2).toInt = (F 4 2).toInt + 1 := by rw [g2 4 2 (by omega)]; exact k2
    have t3 : ∀ r k, r ≠ 4 → r ≠ 5 + v3.toInt.toNat → F3 r k = F r k := fun r k a b => (g2 r k b).trans (U2.2 r k (fun e => a e.1))
    have G3 : Gc P3 F3 A3 := by
      refine G.mk2 (r0 := 5 + v3.toInt.toNat) g4 rfl rfl rfl (fun q hq k => t3 q k (by omega) (by omega)) (fun q hq o _ => g3 q o (by omega)) (fun r _ _ _ h => g3 r 3 h) (fun m m0 m1 => ?_) (fun u u0 u1 => ?_) (fun s _ h => .inr ?_)
      · rw [g5 m m0 m1]
        exact (G.2.2.2.2.1 m m0 m1).cg (g3 _ 5 hne)
      · unfold cf at u1 ⊢
        rw [t1]
        by_cases e : u = (F 4 2).toInt
        · left
          rw [e, d3]
        · right
          exact ⟨u, u0, by omega, rfl⟩
      · rw [t3 0 10 (by decide) (by omega)] at h
        exact h
    exact ok_some ⟨rfl, G3, t3 1 1 (by decide) (by omega)⟩
  · rw [i_nne, l20] at c
    have e2 := i_add (x := F 4 1) (y := 1) (by omega) (by omega)
    refine ok_rem1 (by decide) ?_
    intro v10 e10
    have d10 : v10.toInt = ((F 4 1).toInt + 1) % 20 := by
      rw [e10, i_rem20 (by omega)]
      have : (F 4 1 + 1).toInt = (F 4 1).toInt + 1 := by omega
      rw [this]
    refine ok_cpf ?_
    intro F2 U2
    have k1 : (F2 4 1).toInt = v10.toInt := by rw [U2.1]
    have k2 : F2 4 2 = F 4 2 := U2.2 4 2 (by simp)
    unfold e_Past_push_35
    have e3 := i_add (x := F2 4 1) (y := F2 4 2) (by rw [k2]; omega) (by rw [k2]; omega)
    rw [k2] at e3
    have e4 := i_sub (x := F2 4 1 + F2 4 2) (y := 1) (by rw [k2]; omega) (by rw [k2]; omega)
    rw [k2] at e4
    refine ok_rem1 (by decide) ?_
    intro v3 e5
    have d3 : v3.toInt = (v10.toInt + 19) % 20 := by
      rw [e5, i_rem20 (by rw [k2]; omega), k2]
      have : (F2 4 1 + F 4 2 - 1).toInt = v10.toInt + 19 := by omega
      rw [this]
    have kk := k_st (m := v3.toInt.toNat) (by omega)
    refine ok_car (by omega) (by omega) kk.1 ?_
    have R2 : Rc F2 A := G.1.pf U2 (show 0 ≤ v10.toInt ∧ v10.toInt ≤ 19 by omega)
    refine ok_call (s_copy (r1 := 2) kk.1 (by omega) R2) ?_
    rintro ⟨u, P3, F3, A3, J3⟩ ⟨g1, g2, g3, g4, g5⟩
    dsimp only at g1 g2 g3 g4 g5 ⊢
    subst g1
    have hne := G.nk kk.1
    have t1 : (F3 4 1).toInt = v10.toInt := by rw [g2 4 1 (by omega)]; exact k1
    have t2 : (F3 4 2).toInt = 20 := by rw [g2 4 2 (by omega), k2]; exact c
    have t3 : ∀ r k, r ≠ 4 → r ≠ 5 + v3.toInt.toNat → F3 r k = F r k := fun r k a b => (g2 r k b).trans (U2.2 r k (fun e => a e.1))
    have G3 : Gc P3 F3 A3 := by
      refine G.mk2 (r0 := 5 + v3.toInt.toNat) g4 rfl rfl rfl (fun q hq k => t3 q k (by omega) (by omega)) (fun q hq o _ => g3 q o (by omega)) (fun r _ _ _ h => g3 r 3 h) (fun m m0 m1 => ?_) (fun u u0 u1 => ?_) (fun s _ h => .inr ?_)
      · rw [g5 m m0 m1]
        exact (G.2.2.2.2.1 m m0 m1).cg (g3 _ 5 hne)
      · unfold cf at u1 ⊢
        rw [t1]
        by_cases e : u = 19
        · left
          rw [e, d3]
        · right
          exact ⟨u + 1, by omega, by omega, by omega⟩
      · rw [t3 0 10 (by decide) (by omega)] at h
        exact h
    exact ok_some ⟨rfl, G3, t3 1 1 (by decide) (by omega)⟩
/-- now is another state, as good -/
theorem Gc.now {r1 : Nat} {f : Int → Int} {r : Unit × (Nat → Nat → Nat) × (Nat → Nat → Int32) × (Nat → Nat → Nat → Int32) × (Nat → Nat → Nat → Int64)} {F0 : Nat → Nat → Int32} (G : Gc P F A) (h : CPc P F0 A 2 f r) (hf : ∀ m, 0 ≤ m → m < 6 → LVx A (P 0 8) (f m)) (t3 : ∀ r k, r ≠ 4 → F0 r k = F r k) (t1 : F0 4 1 = F 4 1) (t2 : cf F0 4 2 ≤ cf F 4 2) : Gc P r.2.2.1 r.2.2.2.1 ∧ r.2.2.1 1 1 = F 1 1 := by
  obtain ⟨g1, g2, g3, g4, g5⟩ := h
  refine ⟨G.mk2 (r0 := 2) g4 rfl rfl rfl (fun q hq k => (g2 q k (by omega)).trans (t3 q k (by omega))) (fun q hq o _ => g3 q o (by omega)) (fun r _ _ _ h => g3 r 3 h) (fun m m0 m1 => ?_) (fun u u0 u1 => .inr ⟨u, u0, ?_, ?_⟩) (fun s _ h => .inr ?_), (g2 1 1 (by decide)).trans (t3 1 1 (by decide))⟩
  · rw [g5 m m0 m1]
    exact (hf m m0 m1).cg (g3 _ 5 G.n2)
  · unfold cf at u1 t2 ⊢
    rw [g2 4 2 (by decide)] at u1
    omega
  · unfold cf
    rw [g2 4 1 (by decide), t1]
  · rw [g2 0 10 (by decide), t3 0 10 (by decide)] at h
    exact h
theorem s_cUndo (G : Gc P F A) : ok (e_SleepWork_undo P F A J) (CAc P F A) := by
  have l0 : (0 : Int32).toInt = 0 := by decide
  have l1 : (1 : Int32).toInt = 1 := by decide
  have a1 : 0 ≤ (F 4 1).toInt ∧ (F 4 1).toInt ≤ 19 := G.1.1 4 1
  have a2 : 0 ≤ (F 4 2).toInt ∧ (F 4 2).toInt ≤ 20 := G.1.1 4 2
  unfold e_SleepWork_undo e_Past_pull
  have rest : ∀ {v : Int32} {F3 A3 J3}, Gc P F3 A3 → F3 1 1 = F 1 1 → ok (cond (g_cnd .ne v 0) ((e_Evening_setStale P F3 A3 J3).bind fun (_, P8, F9, A10, J11) => some ((1 : Int32), P8, F9, A10, J11)) (some ((0 : Int32), P, F3, A3, J3))) (CAc P F A) := fun G3 e => ok_cond (fun _ => ca_stale G3 (pe e)) (fun _ => ok_some ⟨G3, pe e⟩)
  have pull : ok (cond (g_cnd .ne (F 4 2) 0) ((c_pf F 4 2 ((F 4 2) - 1)).bind fun F2 => (m_rem ((F2 4 1) + (F2 4 2)) 20).bind fun v3 => (c_ar 20 5 2 v3).bind fun q4 => (e_State_copy P F2 A J 2 q4).bind fun (_, P6, F7, A8, J9) => some ((1 : Int32), P6, F7, A8, J9)) (some (0, P, F, A, J))) (fun r => r.2.1 = P ∧ Gc P r.2.2.1 r.2.2.2.1 ∧ r.2.2.1 1 1 = F 1 1) := by
    refine ok_cond (fun c => ?_) (fun _ => ok_some ⟨rfl, G, rfl⟩)
    rw [i_ne, l0] at c
    have e2 := i_sub (x := F 4 2) (y := 1) (by omega) (by omega)
    refine ok_cpf ?_
    intro F2 U2
    have k1 : F2 4 1 = F 4 1 := U2.2 4 1 (by simp)
    have k2 : (F2 4 2).toInt = (F 4 2).toInt - 1 := by rw [U2.1]; omega
    have e3 := i_add (x := F2 4 1) (y := F2 4 2) (by rw [k1]; omega) (by rw [k1]; omega)
    rw [k1] at e3
    refine ok_rem1 (by decide) ?_
    intro v3 e5
    have d3 : v3.toInt = ((F 4 1).toInt + ((F 4 2).toInt - 1)) % 20 := by
      rw [e5, i_rem20 (by rw [k1]; omega), k1]
      have : (F 4 1 + F2 4 2).toInt = (F 4 1).toInt + ((F 4 2).toInt - 1) := by omega
      rw [this]
    have kk := k_st (m := v3.toInt.toNat) (by omega)
    refine ok_car (by omega) (by omega) kk.1 ?_
    have R2 : Rc F2 A := G.1.pf U2 (show 0 ≤ (F 4 2 - 1).toInt ∧ (F 4 2 - 1).toInt ≤ 20 by omega)
    refine ok_call (s_copy (r0 := 2) (r1 := 5 + v3.toInt.toNat) (by decide) (by omega) R2) ?_
    rintro ⟨u, P3, F3, A3, J3⟩ hc
    have hp := hc.1
    dsimp only at hp
    have lv := G.2.2.2.2.2.1 ((F 4 2).toInt - 1) (by omega) (by unfold cf; omega)
    unfold cf at lv
    rw [← d3] at lv
    obtain ⟨G3, e11⟩ := Gc.now (r1 := 2) G hc (fun m m0 m1 => lv m m0 m1) (fun r k h => U2.2 r k (fun e => h e.1)) k1 (by unfold cf; omega)
    exact ok_some ⟨hp, G3, e11⟩
  refine ok_call pull ?_
  rintro ⟨v, P3, F3, A3, J3⟩ ⟨e1, G3, e11⟩
  dsimp only at e1 G3 e11 ⊢
  subst e1
  exact rest G3 e11
theorem s_cNight {n : Nat} (G : Gc P F A) (hn : 1500 ≤ n) : ok (e_SleepWork_night n P F A J) (CAc P F A) := by
  unfold e_SleepWork_night
  refine ok_call (s_push G) ?_
  rintro ⟨u, P2, F2, A2, J2⟩ ⟨g1, G2, e2⟩
  dsimp only at g1 G2 e2 ⊢
  refine ok_chk G2.k08 ?_
  refine ok_call (s_worthOfAll G2.k08 G2.1 (by omega)) ?_
  intro v7 _
  unfold e_Evening_goBy
  have goBy : ok ((c_chk 6 (P2 32 4)).bind fun q1 => (c_chk 6 (P2 32 4)).bind fun q2 => (e_Sleep_goTill n P2 F2 A2 J2 (F2 q1 18) q2 2).bind fun (_, P4, F5, A6, J7) => (c_pf F5 2 8 ((F5 2 8) + 1)).bind fun F8 => (e_Evening_setStale P4 F8 A6 J7).bind fun (_, P10, F11, A12, J13) => some ((), P10, F11, A12, J13)) (fun r => Gc r.2.1 r.2.2.1 r.2.2.2.1 ∧ (r.2.2.1 1 1, r.2.1 32 9) = (F 1 1, P 32 9)) := by
    refine ok_chk G2.k324 ?_
    refine ok_chk G2.k324 ?_
    rw [G2.2.2.1]
    refine ok_call (s_goTill G2.k08 (by decide) G2.1 G2.2.2.2.1 G2.2.2.2.2.1 G2.2.2.2.1.2.2.2.2.2.2 (by omega)) ?_
    rintro ⟨u, P3, F3, A3, J3⟩ ⟨o1, h1, h2, h3, h4, h5⟩
    dsimp only at o1 h1 h2 h3 h4 h5 ⊢
    have G3 : Gc P3 F3 A3 := by
      refine G2.mk2 (r0 := 2) h2 (o1 0 8 (by decide)) (o1 0 9 (by decide)) (o1 32 4 (by decide)) (fun q hq k => h4 q k (by omega)) (fun q hq o ho => h3 q o (by omega) (by omega) (fun _ => ho)) (fun r a _ _ h => h3 r 3 (k2ne a) h (fun e => absurd e.symm (k62 G2.k08 a))) h5 (fun u u0 u1 => .inr ⟨u, u0, ?_, ?_⟩) (fun s _ h => .inr ?_)
      · unfold cf at u1 ⊢
        rw [h4 4 2 (by simp)] at u1
        exact u1
      · unfold cf
        rw [h4 4 1 (by simp)]
      · rw [h4 0 10 (by simp)] at h
        exact h
    refine ok_cpf ?_
    intro F4 U4
    have q4 := (QKc.rfl' (P := P3) G3.1).pf U4 trivial (by decide)
    have G4 := q4.g G3
    refine ok_call (q_stale G4) ?_
    rintro ⟨u5, P5, F5, A5, J5⟩ ⟨-, -, q5⟩
    dsimp only at q5 ⊢
    exact ok_some ⟨q5.g G4, pe2 ((q5.2.2.2.2.2.2 1).trans ((q4.2.2.2.2.2.2 1).trans ((h4 1 1 (by simp)).trans e2))) (((q5.1 32 9 (by decide)).trans (o1 32 9 (by decide))).trans (by rw [g1]))⟩
  refine ok_call goBy ?_
  rintro ⟨u6, P6, F6, A6, J6⟩ ⟨G6, e6⟩
  dsimp only at G6 e6 ⊢
  refine ok_chk G6.k08 ?_
  refine ok_call (s_worthOfAll G6.k08 G6.1 (by omega)) ?_
  intro v14 _
  exact ok_some ⟨G6, e6⟩
theorem s_cGain {n : Nat} (G : Gc P F A) (hn : 1500 ≤ n) : ok (e_SleepWork_gain n P F A J) (CAc P F A) := by
  unfold e_SleepWork_gain e_Evening_gainAsItIs
  have body : ok ((c_chk 6 (P 32 4)).bind fun q1 => (e_House_worthOfAll n P F A J q1 2).bind fun v2 => (c_pf F 32 5 v2).bind fun F3 => (e_State_copy P F3 A J 33 2).bind fun (_, P5, F6, A7, J8) => (e_Evening_gainOfTrial n P5 F6 A7 J8).bind fun (v9, P10, F11, A12, J13) => some (v9, P10, F11, A12, J13)) (CAc P F A) := by
    refine ok_chk G.k324 ?_
    refine ok_call (s_worthOfAll G.k324 G.1 (by omega)) ?_
    intro v2 _
    refine ok_cpf ?_
    intro F3 U3
    have q3 := (QKc.rfl' (P := P) G.1).pf U3 trivial (by decide)
    have G3 := q3.g G
    refine ok_call (q_trial G3) ?_
    rintro ⟨u, P2, F2, A2, J2⟩ ⟨g1, q2, L2, -⟩
    dsimp only at g1 q2 L2 ⊢
    subst g1
    refine ok_call (q_gainOfTrial (q2.g G3) L2 (by omega)) ?_
    rintro ⟨v4, P4, F4, A4, J4⟩ q4
    dsimp only at q4 ⊢
    exact ok_some (QKc.ca G ((q3.tr q2).tr q4))
  refine ok_call body ?_
  rintro ⟨v, P2, F2, A2, J2⟩ hr
  exact ok_some hr
theorem s_codeOf {x0 : Int32} : ok (e_SleepWork_codeOf P F A J x0) (fun _ => True) := by
  unfold e_SleepWork_codeOf
  exact ok_cond (fun _ => ok_div1 (by decide) (fun _ _ => ok_rem1 (by decide) (fun _ _ => ok_some trivial))) (fun _ => ok_some trivial)
theorem s_cBest {n : Nat} {x1 x2 : Int32} (G : Gc P F A) (hn : 1800 ≤ n) : ok (e_SleepWork_best n P F A J x1 x2) (CAc P F A) := by
  have l0 : (0 : Int32).toInt = 0 := by decide
  unfold e_SleepWork_best
  refine ok_call (s_isMan G) ?_
  intro v vp
  refine ok_cond (fun _ => ca0 G) (fun c => ?_)
  rw [i_neq, l0] at c
  have a := vp.resolve_left c
  refine ok_cond (fun _ => ca0 G) (fun _ => ?_)
  refine ok_cond (fun _ => ?_) (fun _ => ca0 G)
  refine ok_call (s_forOne G ⟨by omega, by omega⟩ (by omega)) ?_
  rintro ⟨u, P2, F2, A2, J2⟩ q
  dsimp only at q ⊢
  refine ok_cond (fun _ => ?_) (fun _ => ok_some (QKc.ca G q))
  exact ok_call s_codeOf (fun v _ => ok_some (QKc.ca G q))
theorem s_cBestOfTwo {n : Nat} {x1 x2 x3 : Int32} (G : Gc P F A) (hn : 1800 ≤ n) : ok (e_SleepWork_bestOfTwo n P F A J x1 x2 x3) (CAc P F A) := by
  have l0 : (0 : Int32).toInt = 0 := by decide
  unfold e_SleepWork_bestOfTwo
  refine ok_call (s_areTwoMen G) ?_
  intro v vp
  refine ok_cond (fun _ => ca0 G) (fun c => ?_)
  rw [i_neq, l0] at c
  have a := vp.resolve_left c
  refine ok_cond (fun _ => ca0 G) (fun _ => ?_)
  refine ok_cond (fun _ => ?_) (fun _ => ca0 G)
  refine ok_call (s_forTwo G ⟨by omega, by omega⟩ ⟨by omega, by omega⟩ (by omega)) ?_
  rintro ⟨u, P2, F2, A2, J2⟩ q
  dsimp only at q ⊢
  refine ok_cond (fun _ => ok_cond (fun _ => ?_) (fun _ => ?_)) (fun _ => ok_some (QKc.ca G q))
  · exact ok_call s_codeOf (fun v _ => ok_some (QKc.ca G q))
  · unfold e_SleepWork_bestOfTwo_63
    exact ok_call s_codeOf (fun v _ => ok_some (QKc.ca G q))
theorem s_cHire {n : Nat} {x1 : Int32} (G : Gc P F A) (hn : 1800 ≤ n) : ok (e_SleepWork_hire n P F A J x1) (CAc P F A) := by
  have l0 : (0 : Int32).toInt = 0 := by decide
  unfold e_SleepWork_hire
  refine ok_call (s_isMan G) ?_
  intro v vp
  refine ok_cond (fun c => ?_) (fun _ => ca0 G)
  rw [i_ne, l0] at c
  have a := vp.resolve_left c
  refine ok_call (s_forOne G ⟨by omega, by omega⟩ (by omega)) ?_
  rintro ⟨u, P2, F2, A2, J2⟩ q
  exact ok_some (QKc.ca G q)
theorem s_cHide {n : Nat} {x1 x2 : Int32} (G : Gc P F A) (hn : 1800 ≤ n) : ok (e_SleepWork_hide n P F A J x1 x2) (CAc P F A) := by
  have l0 : (0 : Int32).toInt = 0 := by decide
  unfold e_SleepWork_hide
  refine ok_call (s_isTool G) ?_
  intro v vp
  refine ok_cond (fun _ => ca0 G) (fun c => ?_)
  rw [i_neq, l0] at c
  have a := vp.resolve_left c
  refine ok_chk G.k08 ?_
  refine ok_cond (fun _ => ca0 G) (fun _ => ?_)
  refine ok_cond (fun _ => ca0 G) (fun _ => ?_)
  refine ok_cond (fun _ => ?_) (fun _ => ca0 G)
  refine ok_call (s_hide G ⟨by omega, by omega⟩ (by omega)) ?_
  rintro ⟨u, P2, F2, A2, J2⟩ q
  dsimp only at q ⊢
  exact ok_cond (fun _ => ok_some (QKc.ca G q)) (fun _ => ok_some (QKc.ca G q))
theorem s_cStrokes {n : Nat} {x1 x2 : Int32} (G : Gc P F A) (hn : 1500 ≤ n) : ok (e_SleepWork_strokes n P F A J x1 x2) (CAc P F A) := by
  have l0 : (0 : Int32).toInt = 0 := by decide
  have h6 : (F (P 0 8) 18).toInt ≤ 600 := G.2.2.2.1.2.2.2.2.2.2
  unfold e_SleepWork_strokes
  refine ok_call (s_isMan G) ?_
  intro v vp
  refine ok_cond (fun _ => ca0 G) (fun c => ?_)
  rw [i_neq, l0] at c
  have a := vp.resolve_left c
  refine ok_cond (fun _ => ca0 G) (fun _ => ?_)
  refine ok_chk G.k08 ?_
  refine ok_cond (fun c2 => ?_) (fun _ => ca0 G)
  rw [i_le] at c2
  unfold e_Evening_strokesTill
  have body : ok ((e_State_copy P F A J 33 2).bind fun (_, P2, F3, A4, J5) => (c_chk 6 (P2 32 4)).bind fun q6 => (e_Sleep_goTill n P2 F3 A4 J5 x2 q6 33).bind fun (_, P8, F9, A10, J11) => (m_ld (A10 33 5) 6 x1).bind fun v12 => some (v12, P8, F9, A10, J11)) (CAc P F A) := by
    refine ok_call (q_trial G) ?_
    rintro ⟨u, P2, F2, A2, J2⟩ ⟨g1, q2, L2, -⟩
    dsimp only at g1 q2 L2 ⊢
    subst g1
    have G2 := q2.g G
    refine ok_chk G2.k324 ?_
    refine ok_call (q_goTill G2 L2 (by omega) (by omega)) ?_
    rintro ⟨u3, P3, F3, A3, J3⟩ ⟨q3, -⟩
    dsimp only at q3 ⊢
    exact ok_ldn (by omega) (by omega) (fun v => ok_some (QKc.ca G (q2.tr q3)))
  refine ok_call body ?_
  rintro ⟨v, P2, F2, A2, J2⟩ hr
  exact ok_some hr
theorem s_cTell {x1 x2 x3 : Int32} (G : Gc P F A) : ok (e_SleepWork_tell P F A J x1 x2 x3) (CAc P F A) := by
  have l0 : (0 : Int32).toInt = 0 := by decide
  have l1 : (1 : Int32).toInt = 1 := by decide
  have l30 : (30 : Int32).toInt = 30 := by decide
  have a1 : 0 ≤ (F 25 2).toInt ∧ (F 25 2).toInt ≤ 30 := G.1.1 25 2
  unfold e_SleepWork_tell
  refine ok_chk G.k08 ?_
  refine ok_call (s_hasStep G.k08 G.1) ?_
  intro w wp
  refine ok_cond (fun _ => ca0 G) (fun c2 => ?_)
  rw [i_neq, l0] at c2
  have b := wp.resolve_left c2
  refine ok_cond (fun _ => ca0 G) (fun _ => ?_)
  refine ok_cond (fun _ => ca0 G) (fun _ => ?_)
  unfold e_Told_isFull
  have full : ok (cond (g_cnd .lt (F 25 2) 30) (some (0 : Int32)) (some 1)) (fun v => v.toInt = 1 ∨ (v.toInt = 0 ∧ (F 25 2).toInt < 30)) := by
    refine ok_cond (fun c => ?_) (fun _ => ok_some (.inl l1))
    rw [i_lt] at c
    exact ok_some (.inr ⟨l0, by omega⟩)
  refine ok_call full ?_
  intro v6 v6p
  refine ok_cond (fun c6 => ?_) (fun _ => ca0 G)
  rw [i_eq] at c6
  have m := i_mulR (c := 6) (k := 6) (x := x1) (by decide) (by omega) (by omega)
  have d := i_add (x := x1 * 6) (y := x2) (by omega) (by omega)
  have e2 := i_add (x := F 25 2) (y := 1) (by omega) (by omega)
  unfold e_Told_add
  have body : ok ((c_st A 25 1 30 (F 25 2) ((x1 * 6) + x2)).bind fun A1 => (c_st A1 25 2 30 (F 25 2) x3).bind fun A2 => (c_pf F 25 2 ((F 25 2) + 1)).bind fun F3 => some ((F3 25 2) - 1, P, F3, A2, J)) (CAc P F A) := by
    refine ok_cst (by omega) (by omega) ?_
    intro A2 U2
    refine ok_cst (by omega) (by omega) ?_
    intro A3 U3
    refine ok_cpf ?_
    intro F4 U4
    have q4 := (((QKc.rfl' (P := P) G.1).st U2 (show 0 ≤ (x1 * 6 + x2).toInt ∧ (x1 * 6 + x2).toInt ≤ 35 by omega) ⟨fun h => absurd h (by decide), fun h => absurd h (by decide)⟩).st U3 trivial ⟨fun h => absurd h (by decide), fun h => absurd h (by decide)⟩).pf U4 (show 0 ≤ (F 25 2 + 1).toInt ∧ (F 25 2 + 1).toInt ≤ 30 by omega) (by decide)
    exact ok_some (QKc.ca G q4)
  refine ok_call body ?_
  rintro ⟨v, P2, F2, A2, J2⟩ hr
  exact ok_some hr
theorem s_cForget (G : Gc P F A) : ok (e_SleepWork_forget P F A J) (CAc P F A) := by
  unfold e_SleepWork_forget
  refine ok_cpf ?_
  intro F2 U2
  have q2 := (QKc.rfl' (P := P) G.1).pf U2 (show 0 ≤ (0 : Int32).toInt ∧ (0 : Int32).toInt ≤ 30 by decide) (by decide)
  exact ca_stale (q2.g G) (pe (q2.2.2.2.2.2.2 1))
theorem s_cFits {n : Nat} {x1 x2 x3 : Int32} (G : Gc P F A) (hn : 1800 ≤ n) : ok (e_SleepWork_fits n P F A J x1 x2 x3) (CAc P F A) := by
  have l0 : (0 : Int32).toInt = 0 := by decide
  have lm : (-1 : Int32).toInt = -1 := by decide
  unfold e_SleepWork_fits
  refine ok_call (s_isMan G) ?_
  intro v vp
  refine ok_cond (fun _ => ca0 G) (fun c => ?_)
  rw [i_neq, l0] at c
  have a := vp.resolve_left c
  refine ok_call s_isKnownBy ?_
  intro w _
  refine ok_cond (fun _ => ca0 G) (fun _ => ?_)
  refine ok_cond (fun c3 => ?_) (fun _ => ca0 G)
  rw [i_ge] at c3
  refine ok_call (s_fits G ⟨by omega, by omega⟩ (by omega)) ?_
  rintro ⟨u, P2, F2, A2, J2⟩ q
  dsimp only at q ⊢
  refine ok_cond (fun c4 => ?_) (fun _ => ok_some (QKc.ca G q))
  rw [i_ne] at c4
  refine ok_cond (fun _ => ok_some (QKc.ca G q)) (fun c5 => ?_)
  rw [i_nge] at c5
  have a1 : 0 ≤ (F2 32 15).toInt ∧ (F2 32 15).toInt ≤ 37 := q.2.1.1 32 15
  refine ok_ldn (by omega) (by omega) (fun v13 => ?_)
  exact ok_call s_codeOf (fun v _ => ok_some (QKc.ca G q))
theorem s_cSuspects {n : Nat} {x1 : Int32} (G : Gc P F A) (hn : 1800 ≤ n) : ok (e_SleepWork_suspects n P F A J x1) (CAc P F A) := by
  have l0 : (0 : Int32).toInt = 0 := by decide
  unfold e_SleepWork_suspects
  refine ok_call s_isKnownBy ?_
  intro w _
  refine ok_cond (fun _ => ca0 G) (fun _ => ?_)
  unfold e_Evening_suspectBits
  refine ok_call (s_suspectBits_4 G (by decide) (by omega)) ?_
  rintro ⟨v, P2, F2, A2, J2⟩ q
  exact ok_some (QKc.ca G q)
theorem s_cPairs {n : Nat} {x1 x2 x3 : Int32} (G : Gc P F A) (hn : 1800 ≤ n) : ok (e_SleepWork_pairs n P F A J x1 x2 x3) (CAc P F A) := by
  have l0 : (0 : Int32).toInt = 0 := by decide
  have lm : (-1 : Int32).toInt = -1 := by decide
  unfold e_SleepWork_pairs
  refine ok_call (s_areTwoMen G) ?_
  intro v vp
  refine ok_cond (fun _ => ca0 G) (fun c => ?_)
  rw [i_neq, l0] at c
  have a := vp.resolve_left c
  refine ok_call s_isKnownBy ?_
  intro w _
  refine ok_cond (fun _ => ?_) (fun _ => ca0 G)
  unfold e_Evening_fittingPairs
  refine ok_call (s_pairs_6 ⟨by omega, by omega⟩ ⟨by omega, by omega⟩ G (QKc.rfl' G.1) (by decide) (by omega)) ?_
  rintro ⟨v, P2, F2, A2, J2⟩ q
  exact ok_some (QKc.ca G q)
theorem s_cHold {x1 : Int32} (G : Gc P F A) : ok (e_SleepWork_hold P F A J x1) (CAc P F A) := by
  have l0 : (0 : Int32).toInt = 0 := by decide
  have l3 : (3 : Int32).toInt = 3 := by decide
  unfold e_SleepWork_hold
  refine ok_cond (fun _ => ca0 G) (fun c => ?_)
  rw [i_nlt] at c
  refine ok_cond (fun c2 => ?_) (fun _ => ca0 G)
  rw [i_lt] at c2
  have kk := k_sl (m := x1.toInt.toNat) (by omega)
  refine ok_car (by omega) (by omega) kk.1 ?_
  refine ok_call (s_copy (r1 := 2) kk.1 (by omega) G.1) ?_
  rintro ⟨u, P3, F3, A3, J3⟩ ⟨g1, g2, g3, g4, g5⟩
  dsimp only at g1 g2 g3 g4 g5 ⊢
  subst g1
  refine ok_cpf ?_
  intro F4 U4
  have a1 : 0 ≤ (F 0 10).toInt ∧ (F 0 10).toInt ≤ 7 := G.1.1 0 10
  have k10 : F3 0 10 = F 0 10 := g2 0 10 (by omega)
  rw [k10] at U4
  have ex : x1 = Int32.ofNat x1.toInt.toNat := i_nat (by omega)
  have eh : F 0 10 = Int32.ofNat (F 0 10).toInt.toNat := i_nat (by omega)
  have rg : 0 ≤ (F 0 10 ||| (1 <<< (x1 &&& 31))).toInt ∧ (F 0 10 ||| (1 <<< (x1 &&& 31))).toInt ≤ 7 := by
    have := b_rng ⟨(F 0 10).toInt.toNat, by omega⟩ ⟨x1.toInt.toNat, by omega⟩
    rw [← ex, ← eh] at this
    exact this
  have R4 := g4.pf U4 rg
  have t3 : ∀ r k, ¬ (r = 0 ∧ k = 10) → r ≠ 29 + x1.toInt.toNat → F4 r k = F r k := fun r k a b => (U4.2 r k a).trans (g2 r k b)
  have hne := G.nk kk.1
  refine ok_some ⟨G.mk2 (r0 := 29 + x1.toInt.toNat) R4 rfl rfl rfl (fun q hq k => t3 q k (by omega) (by omega)) (fun q hq o _ => g3 q o (by omega)) (fun r _ _ _ h => g3 r 3 h) (fun m m0 m1 => ?_) (fun u u0 u1 => .inr ⟨u, u0, ?_, ?_⟩) (fun s s0 h => ?_), pe (t3 1 1 (by simp) (by omega))⟩
  · rw [show ((1 : Int32), P3, F4, A3, J3).2.2.2.1 = A3 from rfl, g5 m m0 m1]
    exact (G.2.2.2.2.1 m m0 m1).cg (g3 _ 5 hne)
  · have u2 : u < (F4 4 2).toInt := u1
    rw [t3 4 2 (by simp) (by omega)] at u2
    exact u2
  · show ((F4 4 1).toInt + u) % 20 = _
    rw [t3 4 1 (by simp) (by omega)]
    rfl
  · have h' : (F4 0 10 &&& (1 <<< (Int32.ofNat s &&& 31))) ≠ 0 := h
    rw [U4.1] at h'
    have bh := b_hold ⟨(F 0 10).toInt.toNat, by omega⟩ ⟨x1.toInt.toNat, by omega⟩ ⟨s, s0⟩
    rw [← ex, ← eh] at bh
    rcases bh h' with z | z
    · left
      have z' : s = x1.toInt.toNat := z
      omega
    · exact .inr z
theorem s_cRestore {x1 : Int32} (G : Gc P F A) : ok (e_SleepWork_restore P F A J x1) (CAc P F A) := by
  have l0 : (0 : Int32).toInt = 0 := by decide
  have l3 : (3 : Int32).toInt = 3 := by decide
  unfold e_SleepWork_restore
  refine ok_cond (fun _ => ca0 G) (fun c => ?_)
  rw [i_nlt] at c
  refine ok_cond (fun _ => ca0 G) (fun c2 => ?_)
  rw [i_nge] at c2
  refine ok_cond (fun c3 => ?_) (fun _ => ca0 G)
  rw [i_ne] at c3
  have kk := k_sl (m := x1.toInt.toNat) (by omega)
  have ex : x1 = Int32.ofNat x1.toInt.toNat := i_nat (by omega)
  refine ok_car (by omega) (by omega) kk.1 ?_
  have lv : LVc A (P 0 8) (29 + x1.toInt.toNat) := G.2.2.2.2.2.2 x1.toInt.toNat (by omega) (by rw [← ex]; exact fun e => c3 (by rw [e]))
  refine ok_call (s_copy (r0 := 2) (r1 := 29 + x1.toInt.toNat) (by decide) (by omega) G.1) ?_
  rintro ⟨u, P3, F3, A3, J3⟩ hc
  have hp := hc.1
  dsimp only at hp ⊢
  subst hp
  obtain ⟨G3, e11⟩ := Gc.now (r1 := 2) G hc (fun m m0 m1 => lv m m0 m1) (fun r k h => rfl) rfl (Int.le_refl _)
  dsimp only at G3 e11
  refine ok_cpf ?_
  intro F4 U4
  have G4 : Gc P3 F4 A3 := G3.mk2 (r0 := 2) (G3.1.pf U4 (show 0 ≤ (0 : Int32).toInt ∧ (0 : Int32).toInt ≤ 20 by decide)) rfl rfl rfl (fun q hq k => U4.2 q k (by omega)) (fun _ _ _ _ => rfl) (fun _ _ _ _ _ => rfl) G3.2.2.2.2.1 (fun u u0 u1 => absurd u1 (by unfold cf; rw [U4.1]; omega)) (fun s _ h => .inr (by rw [U4.2 0 10 (by simp)] at h; exact h))
  exact ca_stale G4 (pe ((U4.2 1 1 (by simp)).trans e11))
theorem s_cCount {n : Nat} {x1 : Int32} (G : Gc P F A) (hn : 60 ≤ n) : ok (e_SleepWork_count n P F A J x1) (fun _ => True) := by
  unfold e_SleepWork_count
  refine ok_cond (fun _ => ok_chk G.k08 (ok_some trivial)) (fun _ => ?_)
  refine ok_cond (fun _ => ok_chk G.k08 (ok_some trivial)) (fun _ => ?_)
  refine ok_cond (fun _ => ok_chk G.k08 (ok_some trivial)) (fun _ => ?_)
  refine ok_cond (fun _ => ok_chk G.k08 (ok_some trivial)) (fun _ => ?_)
  refine ok_cond (fun _ => ok_chk G.k08 (ok_some trivial)) (fun _ => ?_)
  refine ok_cond (fun _ => ok_chk G.k08 (ok_some trivial)) (fun _ => ?_)
  refine ok_cond (fun _ => ok_some trivial) (fun _ => ?_)
  refine ok_cond (fun _ => ?_) (fun _ => ?_)
  · unfold e_Integer_bitCount
    exact ok_some trivial
  · refine ok_cond (fun _ => ok_chk G.k08 (ok_call (s_worthOfAll G.k08 G.1 hn) (fun _ _ => ok_some trivial))) (fun _ => ?_)
    refine ok_cond (fun _ => ok_some trivial) (fun _ => ?_)
    refine ok_cond (fun _ => ok_some trivial) (fun _ => ?_)
    refine ok_cond (fun _ => ok_some trivial) (fun _ => ?_)
    refine ok_cond (fun _ => ?_) (fun _ => ok_some trivial)
    unfold e_Integer_bitCount
    exact ok_some trivial
end C95
end Qz84
