/-! a night, on both sides: a man begins, or lies down, or waits -/
section H9ez3
variable {n m : Nat} {h q r r' j : Nat} {t s b k l N x nm : Int} {ex : Prop} {P : Nat → Nat → Nat} {F F' : Nat → Nat → Int32} {A A' A1 A2 : Nat → Nat → Nat → Int32} {J : Nat → Nat → Nat → Int64} {Fm Fm' Fm1 : Nat → Int32} {Am Am' Am1 Am2 : Nat → Nat → Int32} {Jm : Nat → Nat → Int64} {x1 x2 x3 x4 x5 y1 y2 y3 y4 : Int32}
/-- the tool of the step that a man does -/
def TUc (h q : Nat) (A : Nat → Nat → Nat → Int32) (m : Int) : Int := ci A h 10 (ci A q 3 m / 6 * 6 + ci A 36 4 m)
/-- tools in use, of the class alone -/
def CVx (h q : Nat) (nm : Int) (A : Nat → Nat → Nat → Int32) : Prop := (∀ u, 0 ≤ u → u < 6 → ci A 36 8 u = 0 ∨ ∃ m, 0 ≤ m ∧ m < nm ∧ 0 ≤ ci A 36 4 m ∧ TUc h q A m = u) ∧ (∀ m, 0 ≤ m → m < nm → 0 ≤ ci A 36 4 m → 0 ≤ TUc h q A m → ci A 36 8 (TUc h q A m) ≠ 0 ∧ (ci A q 4 (TUc h q A m) = 100 + m ∨ ci A q 4 (TUc h q A m) = ci A h 4 (ci A q 3 m / 6))) ∧ (∀ m m', 0 ≤ m → m < nm → 0 ≤ m' → m' < nm → 0 ≤ ci A 36 4 m → 0 ≤ ci A 36 4 m' → TUc h q A m = TUc h q A m' → 0 ≤ TUc h q A m → m = m')
theorem CVx.cg (C : CVx h q nm A) (h10 : A' h 10 = A h 10) (h4 : A' h 4 = A h 4) (q3 : A' q 3 = A q 3) (q4 : A' q 4 = A q 4) (e4 : A' 36 4 = A 36 4) (e8 : A' 36 8 = A 36 8) : CVx h q nm A' := by
  unfold CVx TUc
  rw [ci_fr h10, ci_fr h4, ci_fr q3, ci_fr q4, ci_fr e4, ci_fr e8]
  exact C
theorem TUc.at {m : Int} (h10 : A' h 10 = A h 10) (q3 : A' q 3 = A q 3) (e4 : ci A' 36 4 m = ci A 36 4 m) : TUc h q A' m = TUc h q A m := by
  unfold TUc
  rw [ci_fr h10, ci_fr q3, e4]
/-- a man's step is over -/
theorem CVx.fin (C : CVx h q nm A) (x0 : 0 ≤ x) (x1 : x < nm) (h10 : A' h 10 = A h 10) (h4 : A' h 4 = A h 4) (q3 : A' q 3 = A q 3) (q4 : A' q 4 = A q 4) (d0 : 0 ≤ ci A 36 4 x) (d1 : ci A' 36 4 x = -1) (d2 : ∀ m, 0 ≤ m → m ≠ x → ci A' 36 4 m = ci A 36 4 m) (z : (TUc h q A x < 0 ∧ A' 36 8 = A 36 8) ∨ (0 ≤ TUc h q A x ∧ ci A' 36 8 (TUc h q A x) = 0 ∧ ∀ u, 0 ≤ u → u ≠ TUc h q A x → ci A' 36 8 u = ci A 36 8 u)) : CVx h q nm A' := by
  obtain ⟨c1, c2, c3⟩ := C
  have tl : ∀ m, 0 ≤ m → m ≠ x → TUc h q A' m = TUc h q A m := fun m m0 hm => TUc.at h10 q3 (d2 m m0 hm)
  have ne : ∀ m, 0 ≤ m → 0 ≤ ci A' 36 4 m → m ≠ x := fun m m0 hd e => by rw [e, d1] at hd; omega
  refine ⟨fun u u0 u1 => ?_, fun m m0 m1 hd ht => ?_, fun m m' m0 m1 n0 n1 hd hd' he ht => ?_⟩
  · have old : u ≠ TUc h q A x → ci A' 36 8 u = ci A 36 8 u → ci A' 36 8 u = 0 ∨ ∃ m, 0 ≤ m ∧ m < nm ∧ 0 ≤ ci A' 36 4 m ∧ TUc h q A' m = u := fun hne e => by
      rw [e]
      rcases c1 u u0 u1 with h | ⟨m, m0, m1, hd, ht⟩
      · exact .inl h
      · have hm : m ≠ x := fun e => hne (by rw [← ht, e])
        exact .inr ⟨m, m0, m1, by rw [d2 m m0 hm]; exact hd, by rw [tl m m0 hm]; exact ht⟩
    rcases z with ⟨z1, z2⟩ | ⟨z1, z2, z3⟩
    · exact old (by omega) (by rw [ci_fr z2])
    · by_cases e : u = TUc h q A x
      · rw [e]; exact .inl z2
      · exact old e (z3 u u0 e)
  · have hm := ne m m0 hd
    rw [d2 m m0 hm] at hd
    rw [tl m m0 hm] at ht ⊢
    rw [ci_fr q4, ci_fr h4, ci_fr q3]
    obtain ⟨a, b⟩ := c2 m m0 m1 hd ht
    refine ⟨?_, b⟩
    rcases z with ⟨z1, z2⟩ | ⟨z1, z2, z3⟩
    · rw [ci_fr z2]; exact a
    · rw [z3 _ ht (fun e => hm (c3 m x m0 m1 x0 x1 hd d0 e ht))]; exact a
  · have hm := ne m m0 hd
    have hm' := ne m' n0 hd'
    rw [d2 m m0 hm] at hd
    rw [d2 m' n0 hm'] at hd'
    rw [tl m m0 hm, tl m' n0 hm'] at he
    rw [tl m m0 hm] at ht
    exact c3 m m' m0 m1 n0 n1 hd hd' he ht
/-- a man begins a step -/
theorem CVx.beg {v : Int} (C : CVx h q nm A) (x0 : 0 ≤ x) (x1 : x < nm) (h10 : A' h 10 = A h 10) (h4 : A' h 4 = A h 4) (q3 : A' q 3 = A q 3) (q4 : A' q 4 = A q 4) (d0 : ci A 36 4 x = -1) (d2 : ∀ m, 0 ≤ m → m ≠ x → ci A' 36 4 m = ci A 36 4 m) (tv : TUc h q A' x = v) (dx : 0 ≤ ci A' 36 4 x) (z : (v < 0 ∧ A' 36 8 = A 36 8) ∨ (0 ≤ v ∧ ci A 36 8 v = 0 ∧ ci A' 36 8 v ≠ 0 ∧ (∀ u, 0 ≤ u → u ≠ v → ci A' 36 8 u = ci A 36 8 u) ∧ (ci A q 4 v = 100 + x ∨ ci A q 4 v = ci A h 4 (ci A q 3 x / 6)))) : CVx h q nm A' := by
  obtain ⟨c1, c2, c3⟩ := C
  have tl : ∀ m, 0 ≤ m → m ≠ x → TUc h q A' m = TUc h q A m := fun m m0 hm => TUc.at h10 q3 (d2 m m0 hm)
  have ne : ∀ m, 0 ≤ ci A 36 4 m → m ≠ x := fun m hd e => by rw [e, d0] at hd; omega
  -- nobody else had the tool
  have no : ∀ m, 0 ≤ m → m < nm → m ≠ x → 0 ≤ ci A 36 4 m → 0 ≤ v → TUc h q A m ≠ v := fun m m0 m1 hm hd v0 e => by
    rcases z with ⟨z1, -⟩ | ⟨z1, z2, -⟩
    · omega
    · exact (c2 m m0 m1 hd (by omega)).1 (by rw [e]; exact z2)
  refine ⟨fun u u0 u1 => ?_, fun m m0 m1 hd ht => ?_, fun m m' m0 m1 n0 n1 hd hd' he ht => ?_⟩
  · have old : ci A' 36 8 u = ci A 36 8 u → ci A' 36 8 u = 0 ∨ ∃ m, 0 ≤ m ∧ m < nm ∧ 0 ≤ ci A' 36 4 m ∧ TUc h q A' m = u := fun e => by
      rw [e]
      rcases c1 u u0 u1 with h | ⟨m, m0, m1, hd, ht⟩
      · exact .inl h
      · have hm := ne m hd
        exact .inr ⟨m, m0, m1, by rw [d2 m m0 hm]; exact hd, by rw [tl m m0 hm]; exact ht⟩
    rcases z with ⟨z1, z2⟩ | ⟨z1, z2, z3, z4, z5⟩
    · exact old (by rw [ci_fr z2])
    · by_cases e : u = v
      · exact .inr ⟨x, x0, x1, dx, by rw [tv, e]⟩
      · exact old (z4 u u0 e)
  · by_cases e : m = x
    · subst e
      rw [tv] at ht ⊢
      rw [ci_fr q4, ci_fr h4, ci_fr q3]
      rcases z with ⟨z1, z2⟩ | ⟨z1, z2, z3, z4, z5⟩
      · omega
      · exact ⟨z3, z5⟩
    · rw [d2 m m0 e] at hd
      rw [tl m m0 e] at ht ⊢
      rw [ci_fr q4, ci_fr h4, ci_fr q3]
      obtain ⟨a, b⟩ := c2 m m0 m1 hd ht
      refine ⟨?_, b⟩
      rcases z with ⟨z1, z2⟩ | ⟨z1, z2, z3, z4, z5⟩
      · rw [ci_fr z2]; exact a
      · rw [z4 _ ht (no m m0 m1 e hd z1)]; exact a
  · by_cases e : m = x
    · by_cases e' : m' = x
      · rw [e, e']
      · rw [d2 m' n0 e'] at hd'
        rw [e, tv] at he ht
        rw [tl m' n0 e'] at he
        exact absurd he.symm (no m' n0 n1 e' hd' ht)
    · rw [d2 m m0 e] at hd
      rw [tl m m0 e] at he ht
      by_cases e' : m' = x
      · rw [e', tv] at he
        exact absurd he (no m m0 m1 e hd (by omega))
      · rw [d2 m' n0 e'] at hd'
        rw [tl m' n0 e'] at he
        exact c3 m m' m0 m1 n0 n1 hd hd' he ht
/-- a man in the night, at minute k: whoever waits, from k on; what is begun, over at l or later -/
def MNx (N : Int) (h : Nat) (A : Nat → Nat → Nat → Int32) (Am : Nat → Nat → Int32) (k l m : Int) : Prop := ci A 36 6 m = ai Am 55 m ∧ (ci A 36 7 m = ai Am 56 m ∧ (ai Am 56 m = 0 ∨ ai Am 56 m = 1)) ∧ ((ai Am 48 (42 + m) = -1 ∧ ai Am 54 m = -1 ∧ ai Am 50 m = 0 ∧ ci A 36 4 m = -1 ∧ N ≤ ci A 36 3 m ∧ ai Am 56 m = 0) ∨ (0 ≤ ai Am 48 (42 + m) ∧ ci A 36 5 m = ai Am 54 m ∧ 0 ≤ ai Am 54 m ∧ ai Am 54 m < ci A h 5 (ai Am 48 (42 + m)) ∧ ((ai Am 50 m = 1 ∧ ai Am 56 m = 0 ∧ ci A 36 4 m = -1 ∧ ((ai Am 51 m ≤ k ∧ ci A 36 3 m = k) ∨ (k ≤ ai Am 51 m ∧ ci A 36 3 m = ai Am 51 m))) ∨ (ai Am 50 m = 2 ∧ ai Am 56 m = 0 ∧ ci A 36 4 m = ai Am 53 m ∧ 0 ≤ ai Am 53 m ∧ ai Am 53 m < ci A h 5 (ai Am 48 (42 + m)) ∧ ci A 36 3 m = ai Am 52 m ∧ l ≤ ai Am 52 m ∧ ai Am 51 m ≤ ai Am 52 m) ∨ ((ai Am 50 m = 3 ∨ (ai Am 50 m = 1 ∧ N ≤ ai Am 51 m)) ∧ ci A 36 4 m = -1 ∧ N ≤ ci A 36 3 m))))
theorem MNx.cg {m : Int} (M : MNx N h A Am k l m) (h5 : A' h 5 = A h 5) (a3 : ci A' 36 3 m = ci A 36 3 m) (a4 : ci A' 36 4 m = ci A 36 4 m) (a5 : ci A' 36 5 m = ci A 36 5 m) (a6 : ci A' 36 6 m = ci A 36 6 m) (a7 : ci A' 36 7 m = ci A 36 7 m) (b : ∀ j, 50 ≤ j → j ≤ 56 → ai Am' j m = ai Am j m) (b48 : ai Am' 48 (42 + m) = ai Am 48 (42 + m)) : MNx N h A' Am' k l m := by
  unfold MNx
  rw [ci_fr h5, a3, a4, a5, a6, a7, b48, b 50 (by decide) (by decide), b 51 (by decide) (by decide), b 52 (by decide) (by decide), b 53 (by decide) (by decide), b 54 (by decide) (by decide), b 55 (by decide) (by decide), b 56 (by decide) (by decide)]
  exact M
/-- what a beginning leaves as it was -/
def FBx (h q : Nat) (x : Int) (A A' : Nat → Nat → Nat → Int32) : Prop := (∀ r o, ¬ (r = 36 ∧ (o = 3 ∨ o = 4 ∨ o = 7 ∨ o = 8 ∨ o = 9)) → ¬ (r = q ∧ (o = 2 ∨ o = 7)) → ¬ (r = h ∧ o = 17) → A' r o = A r o) ∧ (∀ o, (o = 3 ∨ o = 4 ∨ o = 7) → ∀ m, 0 ≤ m → m ≠ x → ci A' 36 o m = ci A 36 o m)
def FBm (x : Int) (Fm Fm' : Nat → Int32) (Am Am' : Nat → Nat → Int32) : Prop := (∀ k, k ≠ 63 → Fm' k = Fm k) ∧ (∀ j, j ∉ ([45, 46, 48, 50, 52, 53, 56] : List Nat) → Am' j = Am j) ∧ (∀ j, (j = 50 ∨ j = 52 ∨ j = 53 ∨ j = 56) → ∀ m, 0 ≤ m → m ≠ x → ai Am' j m = ai Am j m) ∧ (∀ i, 6 ≤ i → i < 66 ∨ 72 ≤ i → ai Am' 48 i = ai Am 48 i)
theorem FBx.rfl' : FBx h q x A A := ⟨fun _ _ _ _ _ => rfl, fun _ _ _ _ _ => rfl⟩
theorem FBx.tr (a : FBx h q x A A1) (b : FBx h q x A1 A') : FBx h q x A A' := ⟨fun r o h1 h2 h3 => (b.1 r o h1 h2 h3).trans (a.1 r o h1 h2 h3), fun o ho m m0 hm => (b.2 o ho m m0 hm).trans (a.2 o ho m m0 hm)⟩
theorem FBm.rfl' : FBm x Fm Fm Am Am := ⟨fun _ _ => rfl, fun _ _ => rfl, fun _ _ _ _ _ => rfl, fun _ _ _ => rfl⟩
theorem FBm.tr (a : FBm x Fm Fm1 Am Am1) (b : FBm x Fm1 Fm' Am1 Am') : FBm x Fm Fm' Am Am' := ⟨fun k hk => (b.1 k hk).trans (a.1 k hk), fun j hj => (b.2.1 j hj).trans (a.2.1 j hj), fun j hj m m0 hm => (b.2.2.1 j hj m m0 hm).trans (a.2.2.1 j hj m m0 hm), fun i i0 i1 => (b.2.2.2 i i0 i1).trans (a.2.2.2 i i0 i1)⟩
theorem FBx.s36 {o : Nat} {v : Int} (U : CUm A A' 36 o x v) (ho : o = 3 ∨ o = 4 ∨ o = 7) : FBx h q x A A' :=
  ⟨fun r p h1 _ _ => U.2.2 r p (fun e => h1 ⟨e.1, by rw [e.2]; omega⟩), fun p _ m m0 hm => by
    by_cases e : p = o
    · subst e
      exact U.2.1 m m0 hm
    · rw [ci_fr (U.2.2 36 p (fun h => e h.2))]⟩
theorem FBx.s8 {i v : Int} (U : CUm A A' 36 8 i v) : FBx h q x A A' :=
  ⟨fun r p h1 _ _ => U.2.2 r p (fun e => h1 ⟨e.1, by rw [e.2]; simp⟩), fun p hp m m0 hm => by rw [ci_fr (U.2.2 36 p (fun h => by omega))]⟩
theorem FBx.sq {o : Nat} {i v : Int} (U : CUm A A' q o i v) (hq : q ≠ 36) (ho : o = 2 ∨ o = 7) : FBx h q x A A' :=
  ⟨fun r p _ h2 _ => U.2.2 r p (fun e => h2 ⟨e.1, by rw [e.2]; exact ho⟩), fun p hp m m0 hm => by rw [ci_fr (U.2.2 36 p (fun h => hq h.1.symm))]⟩
/-- what both leave of a beginning -/
def BGx (ex : Prop) (h q : Nat) (N k x : Int) (P : Nat → Nat → Nat) (F : Nat → Nat → Int32) (A : Nat → Nat → Nat → Int32) (Fm : Nat → Int32) (Am : Nat → Nat → Int32) (a : cR Unit) (b : mR Unit) : Prop := (a.2.1 = P ∧ a.2.2.1 = F) ∧ FBx h q x A a.2.2.2.1 ∧ FBm x Fm b.2.1 Am b.2.2.1 ∧ SBx ex h q F a.2.2.2.1 b.2.2.1 48 0 ∧ CVx h q (F h 17).toInt a.2.2.2.1 ∧ MNx N h a.2.2.2.1 b.2.2.1 (k + 1) (k + 1) x
theorem BGx.go {a : cR Unit} {b : mR Unit} (f : FBx h q x A A1) (g : FBm x Fm Fm1 Am Am1) (B : BGx ex h q N k x P F A1 Fm1 Am1 a b) : BGx ex h q N k x P F A Fm Am a b := ⟨B.1, f.tr B.2.1, g.tr B.2.2.1, B.2.2.2⟩
/-- a man who is there and does nothing -/
def LYx (h : Nat) (A : Nat → Nat → Nat → Int32) (Am : Nat → Nat → Int32) (x : Int) : Prop := ci A 36 6 x = ai Am 55 x ∧ (ci A 36 7 x = ai Am 56 x ∧ (ai Am 56 x = 0 ∨ ai Am 56 x = 1)) ∧ 0 ≤ ai Am 48 (42 + x) ∧ ci A 36 5 x = ai Am 54 x ∧ 0 ≤ ai Am 54 x ∧ ai Am 54 x < ci A h 5 (ai Am 48 (42 + x)) ∧ ci A 36 4 x = -1
/-- both lie down -/
theorem p2_lie (hk : c_kind h = 6) (hq : c_kind q = 2) (h6 : (F h 17).toInt ≤ 6) (e9 : P 36 9 = q) (S : SBx ex h q F A Am 48 0) (C : CVx h q (F h 17).toInt A) (L : LYx h A Am x) (x0 : 0 ≤ x) (x6 : x < 6) (hN : N ≤ 1000000) (e1 : x1.toInt = x) (f1 : y1.toInt = x) (e2 : x2 = y2) : P2 (e_Sleep_lieDown P F A J x1 x2) (d_lies Fm Am Jm y1 y2) (BGx ex h q N k x P F A Fm Am) := by
  have hne : h ≠ q := k62 hk hq
  have h36 : h ≠ 36 := k6ne hk
  have q36 : q ≠ 36 := k2ne hq
  have lF : (1000000 : Int32).toInt = 1000000 := by decide
  have l3 : (3 : Int32).toInt = 3 := by decide
  have i66 := kx1 (c := 66) (x := y1) (k := 66) (by decide) (by decide) (by omega)
  subst e2
  unfold e_Sleep_lieDown d_lies
  refine p2_bl (fun _ hk => ?_)
  obtain rfl := (gg_chk hk).2.symm
  try rw [e9]
  refine p2_bl (fun A2 h2 => p2_bl (fun A3 h3 => ?_))
  refine p2_br (fun B1 k1 => p2_br (fun B2 k2 => ?_))
  have U2 := (gg_cst h2).2.2
  have U3 := (gg_cst h3).2.2
  have M1 := gg_st k1
  have M2 := gg_st k2
  rw [e1] at U2 U3
  rw [lF] at U3
  rw [f1, l3] at M1
  rw [i66, f1] at M2
  have oq : ∀ o, o ≠ 7 → A3 q o = A q o := fun o ho => (U3.2.2 q o (fun e => q36 e.1)).trans (U2.2.2 q o (fun e => ho e.2))
  have oh : ∀ o, A3 h o = A h o := fun o => (U3.2.2 h o (fun e => h36 e.1)).trans (U2.2.2 h o (fun e => hne e.1))
  have o36 : ∀ o, o ≠ 3 → A3 36 o = A 36 o := fun o ho => (U3.2.2 36 o (fun e => ho e.2)).trans (U2.2.2 36 o (fun e => q36 e.1.symm))
  have b48 : ∀ i, 0 ≤ i → i ≠ 66 + x → ai B2 48 i = ai Am 48 i := fun i i0 hi => by rw [M2.2.2.2.2 i i0 hi, ai_fr (M1.2.2.1 48 (by decide))]
  have bo : ∀ j, j ≠ 48 → j ≠ 50 → B2 j = Am j := fun j h1 h2 => (M2.2.2.1 j h1).trans (M1.2.2.1 j h2)
  refine p2_some ⟨⟨rfl, rfl⟩, (FBx.sq U2 q36 (.inr rfl)).tr (FBx.s36 U3 (.inl rfl)), ⟨fun _ _ => rfl, fun j hj => bo j (fun e => hj (by rw [e]; decide)) (fun e => hj (by rw [e]; decide)), fun j hj m m0 hm => ?_, fun i i0 i1 => b48 i (by omega) (by omega)⟩, ?_, ?_, ?_⟩
  · rcases hj with rfl | hj
    · show ai B2 50 m = ai Am 50 m
      rw [ai_fr (M2.2.2.1 50 (by decide))]
      exact M1.2.2.2.2 m m0 hm
    · show ai B2 j m = ai Am j m
      rw [ai_fr (bo j (by omega) (by omega))]
  · show SBx ex h q F A3 B2 48 0
    refine SBx.mk0 (fun k k0 k1 => ?_) (fun k k0 k1 => ?_) (fun k k0 k1 => ?_) (fun m m0 m1 => ?_)
    · rw [ci_fr (oq 1 (by decide)), b48 _ (by omega) (by omega)]; exact S.dn k0 k1
    · rw [ci_fr (oq 2 (by decide)), b48 _ (by omega) (by omega)]; exact S.sf k0 k1
    · rw [ci_fr (oq 4 (by decide)), b48 _ (by omega) (by omega)]; exact S.tl k0 k1
    · obtain ⟨s1, s2, s3, s4⟩ := S.mn m0 m1
      by_cases e66 : m = x
      · subst e66
        refine ⟨?_, ?_, ?_, fun _ => ?_⟩
        · rw [ci_fr (oq 3 (by decide)), b48 _ (by omega) (by omega), b48 _ (by omega) (by omega)]
          exact s1.cg rfl (oh 5)
        · rw [ci_fr (oq 5 (by decide)), b48 _ (by omega) (by omega)]; exact s2
        · rw [ci_fr (oq 6 (by decide)), b48 _ (by omega) (by omega)]; exact s3
        · rw [M2.2.2.2.1, ci_fr (U3.2.2 q 7 (fun e => q36 e.1))]; exact U2.1
      · refine ⟨?_, ?_, ?_, fun hx => ?_⟩
        · rw [ci_fr (oq 3 (by decide)), b48 _ (by omega) (by omega), b48 _ (by omega) (by omega)]
          exact s1.cg rfl (oh 5)
        · rw [ci_fr (oq 5 (by decide)), b48 _ (by omega) (by omega)]; exact s2
        · rw [ci_fr (oq 6 (by decide)), b48 _ (by omega) (by omega)]; exact s3
        · rw [b48 _ (by omega) (by omega), ci_fr (U3.2.2 q 7 (fun e => q36 e.1)), U2.2.1 m m0 e66]
          exact s4 hx
  · exact C.cg (oh 10) (oh 4) (oq 3 (by decide)) (oq 4 (by decide)) (o36 4 (by decide)) (o36 8 (by decide))
  · obtain ⟨l1, l2, l4, l5, l6, l7, l8⟩ := L
    show MNx N h A3 B2 (k + 1) (k + 1) x
    have e50 : ai B2 50 x = 3 := by rw [ai_fr (M2.2.2.1 50 (by decide))]; exact M1.2.2.2.1
    unfold MNx
    rw [ci_fr (o36 6 (by decide)), ci_fr (o36 7 (by decide)), ci_fr (o36 5 (by decide)), ci_fr (o36 4 (by decide)), ci_fr (oh 5), ai_fr (bo 55 (by decide) (by decide)), ai_fr (bo 56 (by decide) (by decide)), ai_fr (bo 54 (by decide) (by decide)), b48 _ (by omega) (by omega)]
    exact ⟨l1, l2, .inr ⟨l4, l5, l6, l7, .inr (.inr ⟨.inl e50, l8, by rw [U3.1]; exact hN⟩)⟩⟩
/-- both begin the step u of the task t -/
theorem p2_go {u v : Int} (H : NHx h F A Fm Am) (hq : c_kind q = 2) (e8 : P 36 8 = h) (e9 : P 36 9 = q) (S : SBx ex h q F A Am 48 0) (L : LYx h A Am x) (hbe : ai Am 56 x = 0) (hf : ai Am 51 x ≤ k) (x0 : 0 ≤ x) (x6 : x < (F h 17).toInt) (t0 : 0 ≤ t) (t1 : t < (F h 16).toInt) (u0 : 0 ≤ u) (u1 : u < ci A h 5 t) (et : ai Am 48 (42 + x) = t) (el : ci A q 3 x / 6 = t) (st : 0 < ci A q 2 t) (ev : ci A h 10 (t * 6 + u) = v) (k0 : 0 ≤ k) (k6 : k ≤ 600) (e1 : x1.toInt = x) (f1 : y1.toInt = x) (e2 : x2.toInt = k) (f2 : y2.toInt = k) (e3 : x3.toInt = t) (f3 : y3.toInt = t) (e5 : x5.toInt = u) (f5 : y4.toInt = u)
    (C : ∀ {A' : Nat → Nat → Nat → Int32}, A' h 10 = A h 10 → A' h 4 = A h 4 → A' q 3 = A q 3 → A' q 4 = A q 4 → (∀ m, 0 ≤ m → m ≠ x → ci A' 36 4 m = ci A 36 4 m) → ci A' 36 4 x = u → A' 36 8 = A 36 8 → CVx h q (F h 17).toInt A') : P2 (e_Sleep_begin_168 n P F A J x1 x2 x3 x5) (d_begins1_147 m Fm Am Jm y1 y2 y3 y4) (BGx ex h q N k x P F A Fm Am) := by
  have ct := H.ct
  have s6 := H.s6 t0
  have hs := H.sd
  have hk := H.kd
  have hne : h ≠ q := k62 hk hq
  have h36 : h ≠ 36 := k6ne hk
  have q36 : q ≠ 36 := k2ne hq
  have l2' : (2 : Int32).toInt = 2 := by decide
  obtain ⟨rw1, -⟩ := H.row t0 t1 u0 u1
  have y1' := (H.hy.2.2.1 t u t0 t1 u0 u1).1
  unfold e_Sleep_begin_168 d_begins1_147
  refine p2_bl (fun _ hk => ?_)
  obtain rfl := (gg_chk hk).2.symm
  try rw [e9]
  refine p2_bl (fun v32 h32 => p2_bl (fun A33 h33 => p2_bl (fun A34 h34 => p2_bl (fun _ hk => ?_))))
  obtain rfl := (gg_chk hk).2.symm
  try rw [e8]
  refine p2_bl (fun v36 h36' => p2_bl (fun A37 h37 => ?_))
  refine p2_br (fun w31 k31 => p2_br (fun B32 k32 => p2_br (fun B33 k33 => p2_br (fun B34 k34 => ?_))))
  refine p2_r (v_stepAt hs (by omega) (by omega)) ?_
  intro w35 q35
  refine p2_br (fun w36 k36 => p2_br (fun B37 k37 => ?_))
  have g32 := (gl h32).2.2
  have U33 := (gg_cst h33).2.2
  have U34 := (gg_cst h34).2.2
  have g36 := (gl h36').2.2
  have U37 := (gg_cst h37).2.2
  have a31 := (gm k31).2.2
  have M32 := gg_st k32
  have M33 := gg_st k33
  have M34 := gg_st k34
  have a36 := (gm k36).2.2
  have M37 := gg_st k37
  rw [e3] at g32 U33
  rw [e1, e5] at U34
  rw [e1] at U37
  rw [f3] at a31 M32
  rw [f1, f5] at M33
  rw [f1, l2'] at M34
  rw [f1] at M37
  have cx := cx6 (x := x3) (y := x5) (by omega) (by omega)
  rw [cx, e3, e5, ci_fr (U34.2.2 h 6 (fun e => h36 e.1)), ci_fr (U33.2.2 h 6 (fun e => hne e.1))] at g36
  have oB4 : ∀ j, j ≠ 48 → j ≠ 50 → j ≠ 53 → B34 j = Am j := fun j h1 h2 h3 => by rw [M34.2.2.1 j h2, M33.2.2.1 j h3, M32.2.2.1 j h1]
  rw [q35, f3, f5, ai_fr (oB4 23 (by decide) (by decide) (by decide))] at a36
  have zs : v32 = w31 := i_ext (by rw [g32, a31]; exact (S.sf t0 (by omega)).1)
  have zm : v36.toInt = w36.toInt := by rw [g36, a36]; exact rw1
  have due := i_add (x := x2) (y := v36) (by omega) (by omega)
  have due' := i_add (x := y2) (y := w36) (by omega) (by omega)
  have r32 := i_rng v32
  have es := i_sub (x := v32) (y := 1) (by rw [i_1]; omega) (by rw [i_1]; omega)
  rw [i_1] at es
  have oq : ∀ o, o ≠ 2 → A37 q o = A q o := fun o ho => (U37.2.2 q o (fun e => q36 e.1)).trans ((U34.2.2 q o (fun e => q36 e.1)).trans (U33.2.2 q o (fun e => ho e.2)))
  have oh : ∀ o, A37 h o = A h o := fun o => (U37.2.2 h o (fun e => h36 e.1)).trans ((U34.2.2 h o (fun e => h36 e.1)).trans (U33.2.2 h o (fun e => hne e.1)))
  have o36 : ∀ o, o ≠ 3 → o ≠ 4 → A37 36 o = A 36 o := fun o h1 h2 => (U37.2.2 36 o (fun e => h1 e.2)).trans ((U34.2.2 36 o (fun e => h2 e.2)).trans (U33.2.2 36 o (fun e => q36 e.1.symm)))
  have c4 : ci A37 36 4 x = u := by rw [ci_fr (U37.2.2 36 4 (fun e => absurd e.2 (by decide)))]; exact U34.1
  have c4' : ∀ m, 0 ≤ m → m ≠ x → ci A37 36 4 m = ci A 36 4 m := fun m m0 hm => by rw [ci_fr (U37.2.2 36 4 (fun e => absurd e.2 (by decide))), U34.2.1 m m0 hm, ci_fr (U33.2.2 36 4 (fun e => q36 e.1.symm))]
  have bo : ∀ j, j ≠ 48 → j ≠ 50 → j ≠ 52 → j ≠ 53 → B37 j = Am j := fun j h1 h2 h3 h4 => (M37.2.2.1 j h3).trans (oB4 j h1 h2 h4)
  have b48 : ∀ i, 0 ≤ i → i ≠ t → ai B37 48 i = ai Am 48 i := fun i i0 hi => by rw [ai_fr (M37.2.2.1 48 (by decide)), ai_fr (M34.2.2.1 48 (by decide)), ai_fr (M33.2.2.1 48 (by decide))]; exact M32.2.2.2.2 i i0 hi
  have b48t : ai B37 48 t = (w31 - 1).toInt := by rw [ai_fr (M37.2.2.1 48 (by decide)), ai_fr (M34.2.2.1 48 (by decide)), ai_fr (M33.2.2.1 48 (by decide))]; exact M32.2.2.2.1
  refine p2_some ⟨⟨rfl, rfl⟩, ((FBx.sq U33 q36 (.inl rfl)).tr (FBx.s36 U34 (.inr (.inl rfl)))).tr (FBx.s36 U37 (.inl rfl)), ⟨fun _ _ => rfl, fun j hj => bo j (fun e => hj (by rw [e]; decide)) (fun e => hj (by rw [e]; decide)) (fun e => hj (by rw [e]; decide)) (fun e => hj (by rw [e]; decide)), fun j hj m m0 hm => ?_, fun i i0 i1 => b48 i (by omega) (by omega)⟩, ?_, C (oh 10) (oh 4) (oq 3 (by decide)) (oq 4 (by decide)) c4' c4 (o36 8 (by decide) (by decide)), ?_⟩
  · rcases hj with rfl | rfl | rfl | rfl
    · show ai B37 50 m = ai Am 50 m
      rw [ai_fr (M37.2.2.1 50 (by decide)), M34.2.2.2.2 m m0 hm, ai_fr (M33.2.2.1 50 (by decide)), ai_fr (M32.2.2.1 50 (by decide))]
    · show ai B37 52 m = ai Am 52 m
      rw [M37.2.2.2.2 m m0 hm, ai_fr (oB4 52 (by decide) (by decide) (by decide))]
    · show ai B37 53 m = ai Am 53 m
      rw [ai_fr (M37.2.2.1 53 (by decide)), ai_fr (M34.2.2.1 53 (by decide)), M33.2.2.2.2 m m0 hm, ai_fr (M32.2.2.1 53 (by decide))]
    · show ai B37 56 m = ai Am 56 m
      rw [ai_fr (bo 56 (by decide) (by decide) (by decide) (by decide))]
  · show SBx ex h q F A37 B37 48 0
    refine SBx.mk0 (fun k k0 k1 => ?_) (fun k k0 k1 => ?_) (fun k k0 k1 => ?_) (fun m m0 m1 => ?_)
    · rw [ci_fr (oq 1 (by decide)), b48 _ (by omega) (by omega)]; exact S.dn k0 k1
    · have e37 : ci A37 q 2 k = ci A33 q 2 k := by rw [ci_fr (U37.2.2 q 2 (fun e => q36 e.1)), ci_fr (U34.2.2 q 2 (fun e => q36 e.1))]
      rw [e37]
      by_cases e : k = t
      · subst e
        rw [b48t, U33.1, zs]
        rw [zs] at es g32
        exact ⟨rfl, by omega⟩
      · rw [U33.2.1 k k0 e, b48 k k0 e]
        exact S.sf k0 k1
    · rw [ci_fr (oq 4 (by decide)), b48 _ (by omega) (by omega)]; exact S.tl k0 k1
    · obtain ⟨s1, s2, s3, s4⟩ := S.mn m0 m1
      rw [ci_fr (oq 3 (by decide)), ci_fr (oq 5 (by decide)), ci_fr (oq 6 (by decide)), ci_fr (oq 7 (by decide)), b48 _ (by omega) (by omega), b48 _ (by omega) (by omega), b48 _ (by omega) (by omega), b48 _ (by omega) (by omega), b48 _ (by omega) (by omega)]
      exact ⟨s1.cg rfl (oh 5), s2, s3, s4⟩
  · obtain ⟨l1, l2, l4, l5, l6, l7, l8⟩ := L
    show MNx N h A37 B37 (k + 1) (k + 1) x
    have e50 : ai B37 50 x = 2 := by rw [ai_fr (M37.2.2.1 50 (by decide))]; exact M34.2.2.2.1
    have e53 : ai B37 53 x = u := by rw [ai_fr (M37.2.2.1 53 (by decide)), ai_fr (M34.2.2.1 53 (by decide))]; exact M33.2.2.2.1
    have e52 : ai B37 52 x = k + w36.toInt := by rw [M37.2.2.2.1, due', f2]
    have e37 : ci A37 36 3 x = k + w36.toInt := by rw [U37.1, due, e2, zm]
    unfold MNx
    rw [ci_fr (o36 6 (by decide) (by decide)), ci_fr (o36 7 (by decide) (by decide)), ci_fr (o36 5 (by decide) (by decide)), ci_fr (oh 5), ai_fr (bo 55 (by decide) (by decide) (by decide) (by decide)), ai_fr (bo 56 (by decide) (by decide) (by decide) (by decide)), ai_fr (bo 54 (by decide) (by decide) (by decide) (by decide)), b48 _ (by omega) (by omega), e50, e53, e52, e37, c4, et]
    rw [et] at l7
    exact ⟨l1, l2, .inr ⟨t0, l5, l6, l7, .inr (.inl ⟨rfl, hbe, rfl, u0, u1, rfl, by omega, by rw [ai_fr (bo 51 (by decide) (by decide) (by decide) (by decide))]; omega⟩)⟩⟩
end H9ez3
