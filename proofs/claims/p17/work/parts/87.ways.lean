/-! the class: ways, house, laws -/
section W87
variable {P : Nat → Nat → Nat} {F : Nat → Nat → Int32} {A A' A0 A1 : Nat → Nat → Nat → Int32} {J : Nat → Nat → Nat → Int64} {β : Type} {Q : β → Prop} {r0 r1 h : Nat}
theorem ok_ldn {f : Nat → Int32} {n : Nat} {i : Int32} {g : Int32 → Option β} (h0 : 0 ≤ i.toInt) (h1 : i.toInt < (n : Int)) (kk : ∀ v : Int32, ok (g v) Q) : ok ((m_ld f n i).bind g) Q := ok_ld0 h0 h1 (kk _)
theorem k6ne (hk : c_kind h = 6) : h ≠ 36 := fun e => absurd hk (by rw [e]; decide)
theorem k2ne (hk : c_kind h = 2) : h ≠ 36 := fun e => absurd hk (by rw [e]; decide)
theorem k62 (hk : c_kind h = 6) (hk' : c_kind r0 = 2) : h ≠ r0 := fun e => absurd hk (by rw [e, hk']; decide)
/-- only the table of ways has changed -/
def AWc (A A' : Nat → Nat → Nat → Int32) : Prop := ∀ r o, ¬ (r = 36 ∧ o = 2) → A' r o = A r o
theorem AWc.tr (a : AWc A A1) (b : AWc A1 A') : AWc A A' := fun r o hr => (b r o hr).trans (a r o hr)
theorem AWc.rc (a : AWc A A') (R : Rc F A) : Rc F A' := by
  refine ⟨R.1, fun r o i hi => ?_⟩
  by_cases e : r = 36 ∧ o = 2
  · obtain ⟨rfl, rfl⟩ := e
    exact trivial
  · rw [ci_fr (a r o e)]
    exact R.2 r o i hi
theorem AWc.cu {i v : Int} (U : CUm A A' 36 2 i v) : AWc A A' := U.2.2
theorem AWc.hv (a : AWc A A') (hk : c_kind h = 6) (H : HVc F A h) : HVc F A' h := H.cg (fun _ => rfl) (fun o _ => a h o (fun e => k6ne hk e.1))
theorem s_takeDoors_39 (hk : c_kind r1 = 6) {x2 : Int32} : ∀ {n : Nat} {A : Nat → Nat → Nat → Int32} {J : Nat → Nat → Nat → Int64} {x3 : Int32}, Rc F A → HVc F A r1 → 0 ≤ x3.toInt ∧ x3.toInt ≤ 12 → 13 - x3.toInt < (n : Int) → ok (e_Ways_takeDoors_39 n P F A J r1 x2 x3) (fun r => r.2.1 = P ∧ r.2.2.1 = F ∧ AWc A r.2.2.2.1) := by
  intro n
  induction n with
  | zero => intro A J x3 R H hx hn; exact absurd hn (by omega)
  | succ n ih =>
    intro A J x3 R H hx hn
    have l1 : (1 : Int32).toInt = 1 := by decide
    have rd : 0 ≤ (F r1 14).toInt ∧ (F r1 14).toInt ≤ 12 := by have := R.1 r1 14; rw [hk] at this; exact this
    unfold e_Ways_takeDoors_39
    refine ok_cond (fun _ => ok_some ⟨rfl, rfl, fun _ _ _ => rfl⟩) (fun c => ?_)
    rw [i_nge] at c
    have e3 := i_add (x := x3) (y := 1) (by omega) (by omega)
    refine ok_cond (fun _ => ?_) (fun _ => ?_)
    · unfold e_Ways_takeDoors_127
      exact ih R H (by omega) (by omega)
    · have hv := H.1 x3.toInt hx.1 c
      refine ok_ldc R hk (by omega) (by omega) ?_
      intro v6 v6e v6r
      change -1 ≤ v6.toInt ∧ v6.toInt ≤ 7 at v6r
      refine ok_ldc R hk (by omega) (by omega) ?_
      intro v7 v7e v7r
      change -1 ≤ v7.toInt ∧ v7.toInt ≤ 7 at v7r
      refine ok_ldc R hk (by omega) (by omega) ?_
      intro v8 v8e v8r
      change -1 ≤ v8.toInt ∧ v8.toInt ≤ 7 at v8r
      refine ok_ldc R hk (by omega) (by omega) ?_
      intro v9 v9e v9r
      change -1 ≤ v9.toInt ∧ v9.toInt ≤ 7 at v9r
      have m6 := i_mulR (c := 8) (k := 8) (x := v6) (by decide) (by omega) (by omega)
      have m8 := i_mulR (c := 8) (k := 8) (x := v8) (by decide) (by omega) (by omega)
      have a6 := i_add (x := v6 * 8) (y := v7) (by omega) (by omega)
      have a8 := i_add (x := v8 * 8) (y := v9) (by omega) (by omega)
      refine ok_ldn (by omega) (by omega) (fun v10 => ?_)
      refine ok_ldn (by omega) (by omega) (fun v11 => ?_)
      refine ok_cst (by omega) (by omega) ?_
      intro A2 U2
      refine ok_cst (by omega) (by omega) ?_
      intro A3 U3
      have w : AWc A A3 := (AWc.cu U2).tr (AWc.cu U3)
      exact ok_mono (ih (w.rc R) (w.hv hk H) (by omega) (by omega)) (fun r hr => ⟨hr.1, hr.2.1, w.tr hr.2.2⟩)
theorem s_takeDoors_11 (hk : c_kind r1 = 6) {x2 : Int32} : ∀ {n : Nat} {A : Nat → Nat → Nat → Int32} {J : Nat → Nat → Nat → Int64} {x3 : Int32}, Rc F A → HVc F A r1 → 0 ≤ x3.toInt ∧ x3.toInt ≤ 8 → 30 - x3.toInt < (n : Int) → ok (e_Ways_takeDoors_11 n P F A J r1 x2 x3) (fun r => r.2.1 = P ∧ r.2.2.1 = F ∧ AWc A r.2.2.2.1) := by
  intro n
  induction n with
  | zero => intro A J x3 R H hx hn; exact absurd hn (by omega)
  | succ n ih =>
    intro A J x3 R H hx hn
    have l1 : (1 : Int32).toInt = 1 := by decide
    have l0 : (0 : Int32).toInt = 0 := by decide
    have rd : 0 ≤ (F r1 13).toInt ∧ (F r1 13).toInt ≤ 8 := by have := R.1 r1 13; rw [hk] at this; exact this
    unfold e_Ways_takeDoors_11
    refine ok_cond (fun _ => s_takeDoors_39 hk R H (by decide) (by omega)) (fun c => ?_)
    rw [i_nge] at c
    have e3 := i_add (x := x3) (y := 1) (by omega) (by omega)
    have m6 := i_mulR (c := 8) (k := 8) (x := x3) (by decide) (by omega) (by omega)
    have a6 := i_add (x := x3 * 8) (y := x3) (by omega) (by omega)
    refine ok_cst (by omega) (by omega) ?_
    intro A2 U2
    have w : AWc A A2 := AWc.cu U2
    exact ok_mono (ih (w.rc R) (w.hv hk H) (by omega) (by omega)) (fun r hr => ⟨hr.1, hr.2.1, w.tr hr.2.2⟩)
theorem s_takeDoors {n : Nat} {x2 : Int32} (hk : c_kind r1 = 6) (R : Rc F A) (H : HVc F A r1) (hn : 40 ≤ n) : ok (e_Ways_takeDoors n P F A J r1 x2) (fun r => r.2.1 = P ∧ r.2.2.1 = F ∧ AWc A r.2.2.2.1) := by
  have l0 : (0 : Int32).toInt = 0 := by decide
  unfold e_Ways_takeDoors
  refine ok_cfi ?_
  intro A2 h1 h2 h3
  have w : AWc A A2 := h3
  exact ok_mono (s_takeDoors_11 hk (w.rc R) (w.hv hk H) (by decide) (by omega)) (fun r hr => ⟨hr.1, hr.2.1, w.tr hr.2.2⟩)
section JW
variable {Q : Unit × (Nat → Nat → Nat) × (Nat → Nat → Int32) × (Nat → Nat → Nat → Int32) × (Nat → Nat → Nat → Int64) → Prop}
variable {K2 : (Nat → Nat → Nat) → (Nat → Nat → Int32) → (Nat → Nat → Nat → Int32) → (Nat → Nat → Nat → Int64) → Int32 → Int32 → Option (Unit × (Nat → Nat → Nat) × (Nat → Nat → Int32) × (Nat → Nat → Nat → Int32) × (Nat → Nat → Nat → Int64))}
variable {K9 : (Nat → Nat → Nat) → (Nat → Nat → Int32) → (Nat → Nat → Nat → Int32) → (Nat → Nat → Nat → Int64) → Int32 → Int32 → Int32 → Option (Unit × (Nat → Nat → Nat) × (Nat → Nat → Int32) × (Nat → Nat → Nat → Int32) × (Nat → Nat → Nat → Int64))}
variable {x1 x2 x3 : Int32}
theorem s_join_30 (h1 : x1.toInt ≤ 8) (h2 : 0 ≤ x2.toInt ∧ x2.toInt < 8) (h3 : 0 ≤ x3.toInt ∧ x3.toInt < 8) (hK : ∀ A J, AWc A0 A → ok (K9 P F A J x1 x2 (x3 + 1)) Q) : ∀ {n : Nat} {A : Nat → Nat → Nat → Int32} {J : Nat → Nat → Nat → Int64} {x4 x5 : Int32}, AWc A0 A → 0 ≤ x5.toInt ∧ x5.toInt ≤ 8 → 9 - x5.toInt < (n : Int) → ok (e_Ways_joinWays_30 K2 K9 n P F A J x1 x2 x3 x4 x5) Q := by
  intro n
  induction n with
  | zero => intro A J x4 x5 w hx hn; exact absurd hn (by omega)
  | succ n ih =>
    intro A J x4 x5 w hx hn
    have l1 : (1 : Int32).toInt = 1 := by decide
    have go : ok (e_Ways_joinWays_97 K2 K9 n P F A J x1 x2 x3) Q := by
      unfold e_Ways_joinWays_97
      exact hK A J w
    unfold e_Ways_joinWays_30
    refine ok_cond (fun _ => go) (fun c => ?_)
    rw [i_nge] at c
    refine ok_cond (fun _ => go) (fun _ => ?_)
    have e3 := i_add (x := x5) (y := 1) (by omega) (by omega)
    have m2 := i_mulR (c := 8) (k := 8) (x := x2) (by decide) (by omega) (by omega)
    have m3 := i_mulR (c := 8) (k := 8) (x := x3) (by decide) (by omega) (by omega)
    have a2 := i_add (x := x2 * 8) (y := x5) (by omega) (by omega)
    have a3 := i_add (x := x3 * 8) (y := x5) (by omega) (by omega)
    refine ok_ldn (by omega) (by omega) (fun v6 => ?_)
    refine ok_ldn (by omega) (by omega) (fun v7 => ?_)
    refine ok_cond (fun _ => ?_) (fun _ => ?_)
    · unfold e_Ways_joinWays_91
      exact ih w (by omega) (by omega)
    · refine ok_cst (by omega) (by omega) ?_
      intro A2 U2
      exact ih (w.tr (AWc.cu U2)) (by omega) (by omega)
theorem s_join_9 (h1 : x1.toInt ≤ 8) (h2 : 0 ≤ x2.toInt ∧ x2.toInt < 8) (hK : ∀ A J, AWc A0 A → ok (K2 P F A J x1 (x2 + 1)) Q) : ∀ {n : Nat} {A : Nat → Nat → Nat → Int32} {J : Nat → Nat → Nat → Int64} {x3 : Int32}, AWc A0 A → 0 ≤ x3.toInt ∧ x3.toInt ≤ 8 → 30 - x3.toInt < (n : Int) → ok (e_Ways_joinWays_9 K2 n P F A J x1 x2 x3) Q := by
  intro n
  induction n with
  | zero => intro A J x3 w hx hn; exact absurd hn (by omega)
  | succ n ih =>
    intro A J x3 w hx hn
    have l1 : (1 : Int32).toInt = 1 := by decide
    have l0 : (0 : Int32).toInt = 0 := by decide
    unfold e_Ways_joinWays_9
    refine ok_cond (fun _ => hK A J w) (fun c => ?_)
    rw [i_nge] at c
    have e3 := i_add (x := x3) (y := 1) (by omega) (by omega)
    have m3 := i_mulR (c := 8) (k := 8) (x := x3) (by decide) (by omega) (by omega)
    have a3 := i_add (x := x3 * 8) (y := x2) (by omega) (by omega)
    refine ok_ldn (by omega) (by omega) (fun v3 => ?_)
    exact s_join_30 h1 h2 ⟨by omega, by omega⟩ (fun A J w => ih w (by omega) (by omega)) w (by decide) (by omega)
theorem s_join_2 (h1 : x1.toInt ≤ 8) : ∀ {n : Nat} {A : Nat → Nat → Nat → Int32} {J : Nat → Nat → Nat → Int64} {x2 : Int32}, AWc A0 A → 0 ≤ x2.toInt ∧ x2.toInt ≤ 8 → 60 - x2.toInt < (n : Int) → ok (e_Ways_joinWays_2 n P F A J x1 x2) (fun r => r.2.1 = P ∧ r.2.2.1 = F ∧ AWc A0 r.2.2.2.1) := by
  intro n
  induction n with
  | zero => intro A J x2 w hx hn; exact absurd hn (by omega)
  | succ n ih =>
    intro A J x2 w hx hn
    have l1 : (1 : Int32).toInt = 1 := by decide
    have l0 : (0 : Int32).toInt = 0 := by decide
    unfold e_Ways_joinWays_2
    refine ok_cond (fun _ => ok_some ⟨rfl, rfl, w⟩) (fun c => ?_)
    rw [i_nge] at c
    have e3 := i_add (x := x2) (y := 1) (by omega) (by omega)
    exact s_join_9 h1 ⟨by omega, by omega⟩ (fun A J w => ih w (by omega) (by omega)) w (by decide) (by omega)
end JW
/-- what 'between' leaves -/
def BWc (P : Nat → Nat → Nat) (F : Nat → Nat → Int32) (A : Nat → Nat → Nat → Int32) (r : Int32 × (Nat → Nat → Nat) × (Nat → Nat → Int32) × (Nat → Nat → Nat → Int32) × (Nat → Nat → Nat → Int64)) : Prop := r.2.1 = P ∧ (∀ r' k, ¬ (r' = 36 ∧ k = 101) → r.2.2.1 r' k = F r' k) ∧ AWc A r.2.2.2.1 ∧ Rc r.2.2.1 r.2.2.2.1
theorem s_between {n : Nat} {x2 x3 x4 : Int32} (hk : c_kind r1 = 6) (R : Rc F A) (H : HVc F A r1) (h3 : 0 ≤ x3.toInt ∧ x3.toInt ≤ 7) (h4 : 0 ≤ x4.toInt ∧ x4.toInt ≤ 7) (hn : 70 ≤ n) : ok (e_Ways_between n P F A J r1 x2 x3 x4) (BWc P F A) := by
  have m3 := i_mulR (c := 8) (k := 8) (x := x3) (by decide) (by omega) (by omega)
  have a3 := i_add (x := x3 * 8) (y := x4) (by omega) (by omega)
  have l0 : (0 : Int32).toInt = 0 := by decide
  unfold e_Ways_between
  refine ok_cond (fun _ => ?_) (fun _ => ?_)
  · unfold e_Ways_between_27
    refine ok_ldn (by omega) (by omega) (fun v => ?_)
    exact ok_some ⟨rfl, fun _ _ _ => rfl, fun _ _ _ => rfl, R⟩
  · refine ok_call (s_takeDoors hk R H (by omega)) ?_
    rintro ⟨u, P2, F2, A2, J2⟩ ⟨e1, e2, w⟩
    dsimp only at e1 e2 w ⊢
    subst e1
    subst e2
    have rd : 0 ≤ (F2 r1 13).toInt ∧ (F2 r1 13).toInt ≤ 8 := by have := R.1 r1 13; rw [hk] at this; exact this
    unfold e_Ways_joinWays
    refine ok_call (s_join_2 (A0 := A2) rd.2 (fun _ _ _ => rfl) (by decide) (by omega)) ?_
    rintro ⟨u3, P3, F3, A3, J3⟩ ⟨e1, e2, w3⟩
    dsimp only at e1 e2 w3 ⊢
    subst e1
    subst e2
    refine ok_cpf ?_
    intro F4 U4
    refine ok_ldn (by omega) (by omega) (fun v => ?_)
    exact ok_some ⟨rfl, U4.2, w.tr w3, ((w.tr w3).rc R).pf U4 trivial⟩
theorem s_isEnded_18 : ∀ {n : Nat} {x3 x4 : Int32}, x3.toInt ≤ 36 → 0 ≤ x4.toInt ∧ x4.toInt ≤ 36 → 37 - x4.toInt < (n : Int) → ok (e_House_isEnded_18 n P F A J r0 r1 x3 x4) (fun v => v.toInt = 0 ∨ v.toInt = 1) := by
  intro n
  induction n with
  | zero => intro x3 x4 h3 hx hn; exact absurd hn (by omega)
  | succ n ih =>
    intro x3 x4 h3 hx hn
    have l1 : (1 : Int32).toInt = 1 := by decide
    unfold e_House_isEnded_18
    refine ok_cond (fun _ => ok_some (.inr (by decide))) (fun c => ?_)
    rw [i_nge] at c
    have e3 := i_add (x := x4) (y := 1) (by omega) (by omega)
    refine ok_ldn (by omega) (by omega) (fun v3 => ?_)
    refine ok_ldn (by omega) (by omega) (fun v4 => ?_)
    exact ok_cond (fun _ => ih h3 (by omega) (by omega)) (fun _ => ok_some (.inl (by decide)))
theorem s_isEnded {n : Nat} {x2 : Int32} (hk : c_kind r0 = 6) (R : Rc F A) (h2 : 0 ≤ x2.toInt ∧ x2.toInt ≤ 5) (hn : 40 ≤ n) : ok (e_House_isEnded n P F A J r0 r1 x2) (fun v => v.toInt = 0 ∨ v.toInt = 1) := by
  unfold e_House_isEnded
  refine ok_ldc R hk (by omega) (by omega) ?_
  intro v _ vr
  change 0 ≤ v.toInt ∧ v.toInt ≤ 6 at vr
  have m := i_mulR (c := 6) (k := 6) (x := x2) (by decide) (by omega) (by omega)
  have a := i_add (x := x2 * 6) (y := v) (by omega) (by omega)
  exact s_isEnded_18 (by omega) (by omega) (by omega)
theorem s_worth_21 : ∀ {n : Nat} {x3 x4 x5 : Int32}, x4.toInt ≤ 36 → 0 ≤ x5.toInt ∧ x5.toInt ≤ 36 → 37 - x5.toInt < (n : Int) → ok (e_House_worth_21 n P F A J r0 r1 x3 x4 x5) (fun _ => True) := by
  intro n
  induction n with
  | zero => intro x3 x4 x5 h3 hx hn; exact absurd hn (by omega)
  | succ n ih =>
    intro x3 x4 x5 h3 hx hn
    have l1 : (1 : Int32).toInt = 1 := by decide
    unfold e_House_worth_21
    refine ok_cond (fun _ => ok_some trivial) (fun c => ?_)
    rw [i_nge] at c
    have e3 := i_add (x := x5) (y := 1) (by omega) (by omega)
    refine ok_ldn (by omega) (by omega) (fun v3 => ?_)
    refine ok_ldn (by omega) (by omega) (fun v4 => ?_)
    refine ok_ldn (by omega) (by omega) (fun v5 => ?_)
    refine ok_ldn (by omega) (by omega) (fun v6 => ?_)
    refine ok_ldn (by omega) (by omega) (fun v7 => ?_)
    exact ih h3 (by omega) (by omega)
theorem s_worth {n : Nat} {x2 : Int32} (hk : c_kind r0 = 6) (R : Rc F A) (h2 : 0 ≤ x2.toInt ∧ x2.toInt ≤ 5) (hn : 40 ≤ n) : ok (e_House_worth n P F A J r0 r1 x2) (fun _ => True) := by
  unfold e_House_worth
  refine ok_ldc R hk (by omega) (by omega) ?_
  intro v _ vr
  change 0 ≤ v.toInt ∧ v.toInt ≤ 6 at vr
  have m := i_mulR (c := 6) (k := 6) (x := x2) (by decide) (by omega) (by omega)
  have a := i_add (x := x2 * 6) (y := v) (by omega) (by omega)
  exact s_worth_21 (by omega) (by omega) (by omega)
theorem s_worthOfAll_4 (hk : c_kind r0 = 6) (R : Rc F A) : ∀ {n : Nat} {x2 x3 : Int32}, 0 ≤ x3.toInt ∧ x3.toInt ≤ 6 → 50 - x3.toInt < (n : Int) → ok (e_House_worthOfAll_4 n P F A J r0 r1 x2 x3) (fun _ => True) := by
  intro n
  induction n with
  | zero => intro x2 x3 hx hn; exact absurd hn (by omega)
  | succ n ih =>
    intro x2 x3 hx hn
    have l1 : (1 : Int32).toInt = 1 := by decide
    have rd : 0 ≤ (F r0 16).toInt ∧ (F r0 16).toInt ≤ 6 := by have := R.1 r0 16; rw [hk] at this; exact this
    unfold e_House_worthOfAll_4
    refine ok_cond (fun _ => ok_some trivial) (fun c => ?_)
    rw [i_nge] at c
    have e3 := i_add (x := x3) (y := 1) (by omega) (by omega)
    refine ok_call (s_worth hk R (by omega) (by omega)) ?_
    intro v _
    exact ih (by omega) (by omega)
theorem s_worthOfAll {n : Nat} (hk : c_kind r0 = 6) (R : Rc F A) (hn : 60 ≤ n) : ok (e_House_worthOfAll n P F A J r0 r1) (fun _ => True) := by
  have l0 : (0 : Int32).toInt = 0 := by decide
  unfold e_House_worthOfAll
  exact s_worthOfAll_4 hk R (by decide) (by omega)
/-- a step is over -/
theorem s_finish {x2 x3 : Int32} (hk : c_kind r0 = 6) (hk1 : c_kind r1 = 2) (R : Rc F A) (h2 : 0 ≤ x2.toInt ∧ x2.toInt ≤ 5) (h3 : 0 ≤ x3.toInt ∧ x3.toInt ≤ 5) (hu : ci A r0 11 (x2.toInt * 6 + x3.toInt) ≤ 5) : ok (e_House_finish P F A J r0 r1 x2 x3) (fun r => r.2.1 = P ∧ r.2.2.1 = F ∧ (∀ r' o, ¬ (r' = r1 ∧ o = 1) → r.2.2.2.1 r' o = A r' o) ∧ Rc F r.2.2.2.1) := by
  have l0 : (0 : Int32).toInt = 0 := by decide
  have m := i_mulR (c := 6) (k := 6) (x := x2) (by decide) (by omega) (by omega)
  have a := i_add (x := x2 * 6) (y := x3) (by omega) (by omega)
  have nt : ∀ v, rRc (c_kind r1) 1 v := fun v => by rw [hk1]; exact trivial
  unfold e_House_finish
  refine ok_ldn (by omega) (by omega) (fun v1 => ?_)
  refine ok_cst (by omega) (by omega) ?_
  intro A2 U2
  refine ok_ldc (R.st U2 (nt _)) hk (by omega) (by omega) ?_
  intro v3 v3e _
  rw [ci_fr (U2.2.2 r0 11 (fun e => absurd e.2 (by decide))), a, m] at v3e
  refine ok_cond (fun _ => ok_some ⟨rfl, rfl, U2.2.2, R.st U2 (nt _)⟩) (fun c => ?_)
  rw [i_nlt] at c
  have a2 := i_add (x := x2 * 6) (y := v3) (by omega) (by omega)
  refine ok_ldn (by omega) (by omega) (fun v5 => ?_)
  refine ok_cond (fun _ => ok_some ⟨rfl, rfl, U2.2.2, R.st U2 (nt _)⟩) (fun _ => ?_)
  refine ok_ldn (by omega) (by omega) (fun v7 => ?_)
  refine ok_cst (by omega) (by omega) ?_
  intro A3 U3
  exact ok_some ⟨rfl, rfl, fun r' o hr => (U3.2.2 r' o hr).trans (U2.2.2 r' o hr), (R.st U2 (nt _)).st U3 (nt _)⟩
theorem s_hasStep {x1 x2 : Int32} (hk : c_kind r0 = 6) (R : Rc F A) : ok (e_House_hasStep P F A J r0 x1 x2) (fun v => v.toInt = 0 ∨ (v.toInt = 1 ∧ 0 ≤ x1.toInt ∧ x1.toInt ≤ 5 ∧ 0 ≤ x2.toInt ∧ x2.toInt < ci A r0 5 x1.toInt ∧ x2.toInt ≤ 5)) := by
  have l0 : (0 : Int32).toInt = 0 := by decide
  have rd : 0 ≤ (F r0 16).toInt ∧ (F r0 16).toInt ≤ 6 := by have := R.1 r0 16; rw [hk] at this; exact this
  unfold e_House_hasStep
  refine ok_cond (fun _ => ok_some (.inl (by decide))) (fun c1 => ?_)
  rw [i_nlt] at c1
  refine ok_cond (fun _ => ok_some (.inl (by decide))) (fun c2 => ?_)
  rw [i_nge] at c2
  refine ok_cond (fun _ => ok_some (.inl (by decide))) (fun c3 => ?_)
  rw [i_nlt] at c3
  refine ok_ldc R hk (by omega) (by omega) ?_
  intro v ve vr
  change 0 ≤ v.toInt ∧ v.toInt ≤ 6 at vr
  refine ok_cond (fun _ => ok_some (.inl (by decide))) (fun c4 => ok_some (.inr ⟨by decide, ?_⟩))
  rw [i_nge] at c4
  exact ⟨by omega, by omega, by omega, by omega, by omega⟩
theorem s_mayBeLeft {x1 : Int32} (hk : c_kind r0 = 6) (R : Rc F A) (h1 : -1 ≤ x1.toInt ∧ x1.toInt ≤ 35) : ok (e_House_mayBeLeft P F A J r0 x1) (fun v => v.toInt = 0 ∨ (v.toInt = 1 ∧ LVx A r0 x1.toInt)) := by
  have l0 : (0 : Int32).toInt = 0 := by decide
  have l6 : (6 : Int32).toInt = 6 := by decide
  unfold e_House_mayBeLeft
  refine ok_cond (fun c1 => ?_) (fun c1 => ?_)
  · rw [i_lt] at c1
    exact ok_some (.inr ⟨by decide, .inl (by omega)⟩)
  · rw [i_nlt] at c1
    refine ok_rem1 (by decide) ?_
    intro v2 e2
    refine ok_div1 (by decide) ?_
    intro v3 e3
    have q2 : v2.toInt = x1.toInt % 6 := by rw [e2]; exact i_rem6 (by omega)
    have q3 : v3.toInt = x1.toInt / 6 := by rw [e3]; exact i_div6 (by omega)
    refine ok_ldc R hk (by omega) (by omega) ?_
    intro v ve vr
    refine ok_cond (fun _ => ok_some (.inl (by decide))) (fun c4 => ok_some (.inr ⟨by decide, .inr ?_⟩))
    rw [i_nge] at c4
    rw [q3] at ve
    exact ⟨by omega, by omega, by omega⟩
end W87
