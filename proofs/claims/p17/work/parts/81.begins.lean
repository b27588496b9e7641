/-! the first evening of a text -/
def BGm (F : Nat → Int32) (A : Nat → Nat → Int32) (k : Int) (r : Unit × (Nat → Int32) × (Nat → Nat → Int32) × (Nat → Nat → Int64)) : Prop := r.2.1 = F ∧ IAm r.2.2.1 ∧ (∀ q, q ≠ 47 → r.2.2.1 q = A q) ∧ RVm F r.2.2.1 47 k
section BG
variable {F : Nat → Int32} {A : Nat → Nat → Int32} {J : Nat → Nat → Int64} {k : Int}
theorem BGm.go {A' : Nat → Nat → Int32} {r : Unit × (Nat → Int32) × (Nat → Nat → Int32) × (Nat → Nat → Int64)} (h : BGm F A' k r) (o : ∀ q, q ≠ 47 → A' q = A q) : BGm F A k r := ⟨h.1, h.2.1, fun q hq => (h.2.2.1 q hq).trans (o q hq), h.2.2.2⟩
theorem s_d_begins_176 (hF : IFm F) (hk : k ≤ 6) : ∀ {n : Nat} {A : Nat → Nat → Int32} {J : Nat → Nat → Int64} {x1 : Int32}, IAm A → RVm F A 47 k → 0 ≤ x1.toInt ∧ x1.toInt ≤ 12 → 13 - x1.toInt < (n : Int) → ok (d_begins_176 n F A J x1) (BGm F A k) := by
  intro n
  induction n with
  | zero => intro A J x1 hA R hx hn; exact absurd hn (by omega)
  | succ n ih =>
    intro A J x1 hA R hx hn
    have r18 : 0 ≤ (F 18).toInt ∧ (F 18).toInt ≤ 1 := hF 18
    have l1 : (1 : Int32).toInt = 1 := by decide
    have l12 : (12 : Int32).toInt = 12 := by decide
    have l78 : (78 : Int32).toInt = 78 := by decide
    unfold d_begins_176
    refine ok_ld (j := 12) hA (by omega) (by omega) ?_
    intro v ve vr
    change 0 ≤ v.toInt ∧ v.toInt ≤ 12 at vr
    refine ok_cond (fun c => ok_some ⟨rfl, hA, fun _ _ => rfl, R⟩) (fun c => ?_)
    rw [i_nge] at c
    have e1 := i_mulL (c := 12) (k := 12) (x := F 18) (by decide) (by omega) (by omega)
    have e2 := i_add (x := 12 * F 18) (y := x1) (by omega) (by omega)
    have e3 := i_add (x := x1) (y := 1) (by omega) (by omega)
    refine ok_ld (j := 16) hA (by omega) (by omega) ?_
    intro v20 _ _
    refine ok_cond (fun _ => ?_) (fun _ => ?_)
    · unfold d_begins_219
      exact ih hA R (by omega) (by omega)
    · refine ok_ld (j := 47) hA (by omega) (by omega) ?_
      intro v22 _ _
      refine ok_st (j := 47) hA (by omega) (by omega) trivial ?_
      intro A2 a2 o2 s2 n2
      exact ok_mono (ih a2 (R.st (by decide) o2 n2 (by omega) hk) (by omega) (by omega)) (fun r h => h.go o2)
theorem s_d_begins_132 (hF : IFm F) (hk : k ≤ 6) : ∀ {n : Nat} {A : Nat → Nat → Int32} {J : Nat → Nat → Int64} {x1 : Int32}, IAm A → RVm F A 47 k → 0 ≤ x1.toInt ∧ x1.toInt ≤ 6 → 40 - x1.toInt < (n : Int) → ok (d_begins_132 n F A J x1) (BGm F A k) := by
  intro n
  induction n with
  | zero => intro A J x1 hA R hx hn; exact absurd hn (by omega)
  | succ n ih =>
    intro A J x1 hA R hx hn
    have r18 : 0 ≤ (F 18).toInt ∧ (F 18).toInt ≤ 1 := hF 18
    have l0 : (0 : Int32).toInt = 0 := by decide
    have l1 : (1 : Int32).toInt = 1 := by decide
    have l72 : (72 : Int32).toInt = 72 := by decide
    unfold d_begins_132
    refine ok_ld (j := 17) hA (by omega) (by omega) ?_
    intro v ve vr
    change 0 ≤ v.toInt ∧ v.toInt ≤ 6 at vr
    refine ok_cond (fun c => s_d_begins_176 hF hk hA R (by decide) (by omega)) (fun c => ?_)
    rw [i_nge] at c
    have e1 := i_mulL (c := 6) (k := 6) (x := F 18) (by decide) (by omega) (by omega)
    have e2 := i_add (x := 6 * F 18) (y := x1) (by omega) (by omega)
    have e3 := i_add (x := x1) (y := 1) (by omega) (by omega)
    have e4 := i_add (x := 72) (y := x1) (by omega) (by omega)
    refine ok_ld (j := 18) hA (by omega) (by omega) ?_
    intro v16 _ _
    refine ok_st (j := 47) hA (by omega) (by omega) trivial ?_
    intro A2 a2 o2 s2 n2
    exact ok_mono (ih a2 (R.st (by decide) o2 n2 (by omega) hk) (by omega) (by omega)) (fun r h => h.go o2)
theorem s_d_begins_59 (hF : IFm F) (hk : k ≤ 6) : ∀ {n : Nat} {A : Nat → Nat → Int32} {J : Nat → Nat → Int64} {x1 : Int32}, IAm A → k = ai A 29 (F 18).toInt → XMm A (F 18).toInt → RVm F A 47 x1.toInt → 0 ≤ x1.toInt ∧ x1.toInt ≤ k → 80 - x1.toInt < (n : Int) → ok (d_begins_59 n F A J x1) (BGm F A k) := by
  intro n
  induction n with
  | zero => intro A J x1 hA hm X R hx hn; exact absurd hn (by omega)
  | succ n ih =>
    intro A J x1 hA hm X R hx hn
    have r18 : 0 ≤ (F 18).toInt ∧ (F 18).toInt ≤ 1 := hF 18
    have l0 : (0 : Int32).toInt = 0 := by decide
    have l1 : (1 : Int32).toInt = 1 := by decide
    have l42 : (42 : Int32).toInt = 42 := by decide
    have l48 : (48 : Int32).toInt = 48 := by decide
    have l66 : (66 : Int32).toInt = 66 := by decide
    unfold d_begins_59
    refine ok_call (s_d_menNow hF hA) ?_
    intro v vp
    refine ok_cond (fun c => ?_) (fun c => ?_)
    · rw [i_ge] at c
      have e : k = x1.toInt := by omega
      subst e
      exact s_d_begins_132 hF hk hA R (by decide) (by omega)
    · rw [i_nge] at c
      have e1 := i_mulL (c := 6) (k := 6) (x := F 18) (by decide) (by omega) (by omega)
      have e2 := i_add (x := 6 * F 18) (y := x1) (by omega) (by omega)
      have e3 := i_add (x := x1) (y := 1) (by omega) (by omega)
      have e4 := i_add (x := 42) (y := x1) (by omega) (by omega)
      have e5 := i_add (x := 48) (y := x1) (by omega) (by omega)
      have e6 := i_add (x := 66) (y := x1) (by omega) (by omega)
      refine ok_ld (j := 31) hA (by omega) (by omega) ?_
      intro v9 v9e _
      refine ok_st (j := 47) hA (by omega) (by omega) trivial ?_
      intro A2 a2 o2 s2 n2
      refine ok_ld (j := 32) a2 (by omega) (by omega) ?_
      intro v11 v11e _
      refine ok_st (j := 47) a2 (by omega) (by omega) trivial ?_
      intro A3 a3 o3 s3 n3
      refine ok_st (j := 47) a3 (by omega) (by omega) trivial ?_
      intro A4 a4 o4 s4 n4
      rw [e4, l42] at s2 n2
      rw [e5, l48] at s3 n3
      rw [e6, l66] at n4
      have oth : ∀ q, q ≠ 47 → A4 q = A q := fun q hq => (o4 q hq).trans ((o3 q hq).trans (o2 q hq))
      have k42 : ai A4 47 (42 + x1.toInt) = v9.toInt := by rw [n4 _ (by omega) (by omega), n3 _ (by omega) (by omega)]; exact s2
      have k48 : ai A4 47 (48 + x1.toInt) = v11.toInt := by rw [n4 _ (by omega) (by omega)]; exact s3
      have z : (6 * F 18 + x1).toInt = 6 * (F 18).toInt + x1.toInt := by omega
      rw [z] at v9e
      rw [z, ai_fr (o2 32 (by decide))] at v11e
      have R4 : RVm F A4 47 (x1.toInt + 1) := by
        refine RVm.ext (R.cg rfl (oth 19 (by decide)) (oth 22 (by decide)) (fun m m0 m1 => ⟨?_, ?_⟩)) ?_
        · rw [n4 _ (by omega) (by omega), n3 _ (by omega) (by omega), n2 _ (by omega) (by omega)]
        · rw [n4 _ (by omega) (by omega), n3 _ (by omega) (by omega), n2 _ (by omega) (by omega)]
        · rw [k42, k48, v9e, v11e]
          intro h
          obtain ⟨_, x⟩ := X x1.toInt hx.1 (by omega)
          obtain ⟨y1, y2, y3⟩ := x h
          refine ⟨h, ?_, y2, ?_⟩
          · rw [ai_fr (oth 19 (by decide))]; exact y1
          · rw [ai_fr (oth 22 (by decide))]; exact y3
      have X4 : XMm A4 (F 18).toInt := by
        unfold XMm
        rw [ai_fr (oth 29 (by decide)), ai_fr (oth 30 (by decide)), ai_fr (oth 31 (by decide)), ai_fr (oth 32 (by decide)), ai_fr (oth 19 (by decide)), ai_fr (oth 22 (by decide))]
        exact X
      exact ok_mono (ih a4 (by rw [ai_fr (oth 29 (by decide))]; exact hm) X4 (by rw [e3, l1]; exact R4) (by omega) (by omega)) (fun r h => h.go oth)
theorem s_d_begins_23 (hF : IFm F) (hk : k ≤ 6) (hk0 : 0 ≤ k) : ∀ {n : Nat} {A : Nat → Nat → Int32} {J : Nat → Nat → Int64} {x1 : Int32}, IAm A → k = ai A 29 (F 18).toInt → XMm A (F 18).toInt → 0 ≤ x1.toInt ∧ x1.toInt ≤ 6 → 120 - x1.toInt < (n : Int) → ok (d_begins_23 n F A J x1) (BGm F A k) := by
  intro n
  induction n with
  | zero => intro A J x1 hA hm X hx hn; exact absurd hn (by omega)
  | succ n ih =>
    intro A J x1 hA hm X hx hn
    have r18 : 0 ≤ (F 18).toInt ∧ (F 18).toInt ≤ 1 := hF 18
    have l0 : (0 : Int32).toInt = 0 := by decide
    have l1 : (1 : Int32).toInt = 1 := by decide
    unfold d_begins_23
    refine ok_call (s_d_tasksNow hF hA) ?_
    intro v vp
    refine ok_cond (fun c => s_d_begins_59 hF hk hA hm X (fun m m0 m1 => absurd m1 (by omega)) (by omega) (by omega)) (fun c => ?_)
    rw [i_nge] at c
    have e1 := i_mulL (c := 6) (k := 6) (x := F 18) (by decide) (by omega) (by omega)
    have e2 := i_add (x := 6 * F 18) (y := x1) (by omega) (by omega)
    have e3 := i_add (x := x1) (y := 1) (by omega) (by omega)
    refine ok_ld (j := 21) hA (by omega) (by omega) ?_
    intro v5 _ _
    refine ok_st (j := 47) hA (by omega) (by omega) trivial ?_
    intro A2 a2 o2 s2 n2
    have X2 : XMm A2 (F 18).toInt := by
      unfold XMm
      rw [ai_fr (o2 29 (by decide)), ai_fr (o2 30 (by decide)), ai_fr (o2 31 (by decide)), ai_fr (o2 32 (by decide)), ai_fr (o2 19 (by decide)), ai_fr (o2 22 (by decide))]
      exact X
    exact ok_mono (ih a2 (by rw [ai_fr (o2 29 (by decide))]; exact hm) X2 (by omega) (by omega)) (fun r h => h.go o2)
theorem s_d_begins_2 (hF : IFm F) (hk : k ≤ 6) (hk0 : 0 ≤ k) : ∀ {n : Nat} {A : Nat → Nat → Int32} {J : Nat → Nat → Int64} {x1 : Int32}, IAm A → k = ai A 29 (F 18).toInt → XMm A (F 18).toInt → 0 ≤ x1.toInt ∧ x1.toInt ≤ 100 → 260 - x1.toInt < (n : Int) → ok (d_begins_2 n F A J x1) (BGm F A k) := by
  intro n
  induction n with
  | zero => intro A J x1 hA hm X hx hn; exact absurd hn (by omega)
  | succ n ih =>
    intro A J x1 hA hm X hx hn
    have l0 : (0 : Int32).toInt = 0 := by decide
    have l1 : (1 : Int32).toInt = 1 := by decide
    have l100 : (100 : Int32).toInt = 100 := by decide
    unfold d_begins_2
    refine ok_cond (fun c => s_d_begins_23 hF hk hk0 hA hm X (by decide) (by omega)) (fun c => ?_)
    rw [i_nge] at c
    have e3 := i_add (x := x1) (y := 1) (by omega) (by omega)
    refine ok_st (j := 47) hA (by omega) (by omega) trivial ?_
    intro A2 a2 o2 s2 n2
    have X2 : XMm A2 (F 18).toInt := by
      unfold XMm
      rw [ai_fr (o2 29 (by decide)), ai_fr (o2 30 (by decide)), ai_fr (o2 31 (by decide)), ai_fr (o2 32 (by decide)), ai_fr (o2 19 (by decide)), ai_fr (o2 22 (by decide))]
      exact X
    exact ok_mono (ih a2 (by rw [ai_fr (o2 29 (by decide))]; exact hm) X2 (by omega) (by omega)) (fun r h => h.go o2)
theorem s_d_begins {n : Nat} (hF : IFm F) (hA : IAm A) (hm : k = ai A 29 (F 18).toInt) (X : XMm A (F 18).toInt) (hn : 300 ≤ n) : ok (d_begins n F A J) (BGm F A k) := by
  have r18 : 0 ≤ (F 18).toInt ∧ (F 18).toInt ≤ 1 := hF 18
  have r29 : 0 ≤ ai A 29 (F 18).toInt ∧ ai A 29 (F 18).toInt ≤ 6 := hA 29 _ r18.1
  have l0 : (0 : Int32).toInt = 0 := by decide
  unfold d_begins
  exact s_d_begins_2 hF (by omega) (by omega) hA hm X (by decide) (by omega)
end BG
