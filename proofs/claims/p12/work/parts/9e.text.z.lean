section Qz93
/-! the class reads -/
section R9e
variable {P P' : Nat → Nat → Nat} {F F' F0 : Nat → Nat → Int32} {A A' A0 : Nat → Nat → Nat → Int32} {J : Nat → Nat → Nat → Int64} {n d : Nat}
/-- what the reading of a text leaves -/
def RTc (P : Nat → Nat → Nat) (d : Nat) (F0 : Nat → Nat → Int32) (A0 : Nat → Nat → Nat → Int32) (r : Int32 × (Nat → Nat → Nat) × (Nat → Nat → Int32) × (Nat → Nat → Nat → Int32) × (Nat → Nat → Nat → Int64)) : Prop := r.2.1 = P ∧ Rc r.2.2.1 r.2.2.2.1 ∧ (∀ r' k, r' ≠ 37 → r' ≠ d → r' ≠ 3 → r.2.2.1 r' k = F0 r' k) ∧ (∀ r' o, r' ≠ 37 → r' ≠ d → r' ≠ 3 → r.2.2.2.1 r' o = A0 r' o) ∧ (r.1.toInt ≠ 0 ∨ (DVc r.2.2.1 r.2.2.2.1 d ∧ ∀ t, cf r.2.2.1 d 16 ≤ t → t < 6 → ci r.2.2.2.1 d 5 t = 0))
theorem s_readText_171 (hk : c_kind d = 6) (V : RVc d F0 F A0 A) : ok (e_Reader_readText_171 n P F A J) (RTc P d F0 A0) := by
  have l0 : (0 : Int32).toInt = 0 := by decide
  have hd := kd37 hk
  obtain ⟨v1, ⟨v2, v3⟩, v4, v5, v6⟩ := V
  unfold e_Reader_readText_171
  refine ok_cond (fun c => ?_) (fun c => ?_)
  · rw [i_ne, l0] at c
    exact ok_some ⟨rfl, v1, v2, v3, .inl c⟩
  · rw [i_nne, l0] at c
    refine ok_cpf ?_
    intro F2 U2
    refine ok_cpf ?_
    intro F3 U3
    have fd : ∀ k, F3 d k = F d k := fun k => (U3.2 d k (fun h => hd h.1)).trans (U2.2 d k (fun h => hd h.1))
    have k10 : F3 37 10 = F 37 12 := (U3.2 37 10 (by simp)).trans U2.1
    refine ok_some ⟨rfl, (v1.pf U2 trivial).pf U3 trivial, fun r k a b c => (U3.2 r k (fun h => a h.1)).trans ((U2.2 r k (fun h => a h.1)).trans (v2 r k a b c)), v3, ?_⟩
    show (F3 37 10).toInt ≠ 0 ∨ (DVc F3 A d ∧ ∀ t, cf F3 d 16 ≤ t → t < 6 → ci A d 5 t = 0)
    rw [k10]
    rcases v6 with h | h | h
    · exact absurd c h
    · exact .inl h
    · refine .inr ⟨h.cgF fd, ?_⟩
      unfold cf
      rw [fd]
      exact v4
theorem s_readText_10 (e5 : P 37 5 = d) (e6 : P 37 6 = 3) (hk : c_kind d = 6) : ∀ {n : Nat} {F : Nat → Nat → Int32} {A : Nat → Nat → Nat → Int32} {J : Nat → Nat → Nat → Int64} {x4 : Int32}, RVc d F0 F A0 A → 0 ≤ x4.toInt ∧ x4.toInt ≤ 401 → 1000 - x4.toInt < (n : Int) → ok (e_Reader_readText_10 n P F A J x4) (RTc P d F0 A0) := by
  have hd := kd37 hk
  intro n
  induction n with
  | zero => intro F A J x4 V hx hn; exact absurd hn (by omega)
  | succ n ih =>
    intro F A J x4 V hx hn
    have l1 : (1 : Int32).toInt = 1 := by decide
    have l400 : (400 : Int32).toInt = 400 := by decide
    have a := V.1.tok
    have f171 : ok (e_Reader_readText_171 n P F A J) (RTc P d F0 A0) := s_readText_171 hk V
    unfold e_Reader_readText_10
    refine ok_cond (fun _ => f171) (fun c => ?_)
    rw [i_ngt] at c
    have e4 := i_add (x := x4) (y := 1) (by omega) (by omega)
    refine ok_cond (fun _ => f171) (fun _ => ?_)
    refine ok_call (s_isNext V.1) ?_
    intro v8 _
    refine ok_cond (fun _ => f171) (fun _ => ?_)
    refine ok_ldn (by omega) (by omega) (fun v10 => ?_)
    have nx : ∀ {o : Option (Unit × (Nat → Nat → Nat) × (Nat → Nat → Int32) × (Nat → Nat → Nat → Int32) × (Nat → Nat → Nat → Int64))}, ok o (RXc P d F0 A0) → ok (o.bind fun (_, P13, F14, A15, J16) => e_Reader_readText_165 (e_Reader_readText_10 n) n P13 F14 A15 J16 x4) (RTc P d F0 A0) := by
      intro o ho
      refine ok_call ho ?_
      rintro ⟨u, P2, F2, A2, J2⟩ ⟨g1, g2⟩
      dsimp only at g1 g2 ⊢
      subst g1
      unfold e_Reader_readText_165
      exact ih g2 (by omega) (by omega)
    refine ok_cond (fun _ => nx (s_readRoom e5 hk V (by omega))) (fun _ => ?_)
    refine ok_cond (fun _ => nx (s_readDoor e5 e6 hk V (by omega))) (fun _ => ?_)
    refine ok_cond (fun _ => nx (s_readTool e5 e6 hk V (by omega))) (fun _ => ?_)
    refine ok_cond (fun _ => nx (s_readTask e5 e6 hk V (by omega))) (fun _ => ?_)
    refine ok_cond (fun _ => nx (s_readStep e5 hk V (by omega))) (fun _ => ?_)
    refine ok_cond (fun _ => nx (s_readMan e5 e6 hk V (by omega))) (fun _ => ?_)
    refine ok_cond (fun _ => nx (s_readLaw e5 hk V (by omega))) (fun _ => ?_)
    refine ok_cond (fun _ => nx (s_readNight e5 hk V)) (fun _ => ?_)
    refine ok_ldn (by omega) (by omega) (fun v52 => ?_)
    refine ok_call (s_fail V.1 (by decide)) ?_
    rintro ⟨u, P2, F2, A2, J2⟩ ⟨q, -⟩
    dsimp only at q ⊢
    have V2 := V.q hd q
    have ep := q.1
    subst ep
    exact ih V2 (by omega) (by omega)
theorem s_houseClear (hk : c_kind d = 6) (R : Rc F A) : ok (e_House_clear P F A J d) (fun r => r.2.1 = P ∧ (∀ r' k, r' ≠ d → r.2.2.1 r' k = F r' k) ∧ (∀ r' o, r' ≠ d → r.2.2.2.1 r' o = A r' o) ∧ Rc r.2.2.1 r.2.2.2.1 ∧ cf r.2.2.1 d 14 = 0 ∧ cf r.2.2.1 d 16 = 0 ∧ cf r.2.2.1 d 17 = 0 ∧ cf r.2.2.1 d 18 = 480 ∧ cf r.2.2.1 d 1304 = 0 ∧ (∀ t, 0 ≤ t → t < 6 → ci r.2.2.2.1 d 5 t = 0)) := by
  have l0 : (0 : Int32).toInt = 0 := by decide
  have l480 : (480 : Int32).toInt = 480 := by decide
  unfold e_House_clear
  refine ok_cpf ?_
  intro F1 U1
  refine ok_cpf ?_
  intro F2 U2
  refine ok_cpf ?_
  intro F3 U3
  refine ok_cpf ?_
  intro F4 U4
  refine ok_cpf ?_
  intro F5 U5
  refine ok_cpf ?_
  intro F6 U6
  refine ok_cfi ?_
  intro A7 a7 b7 c7
  have R6 : Rc F6 A := (((((R.pf U1 (by rw [hk]; exact (show 0 ≤ (0 : Int32).toInt ∧ (0 : Int32).toInt ≤ 8 by decide))).pf U2 (by rw [hk]; exact (show 0 ≤ (0 : Int32).toInt ∧ (0 : Int32).toInt ≤ 12 by decide))).pf U3 (by rw [hk]; exact (show 0 ≤ (0 : Int32).toInt ∧ (0 : Int32).toInt ≤ 6 by decide))).pf U4 (by rw [hk]; exact (show 0 ≤ (0 : Int32).toInt ∧ (0 : Int32).toInt ≤ 6 by decide))).pf U5 (by rw [hk]; exact (show 0 ≤ (0 : Int32).toInt ∧ (0 : Int32).toInt ≤ 6 by decide))).pf U6 (by rw [hk]; exact trivial)
  have R7 : Rc F6 A7 := R6.fi a7 b7 c7 (by rw [hk]; exact (show 0 ≤ (0 : Int32).toInt ∧ (0 : Int32).toInt ≤ 6 by decide))
  unfold e_Laws_clear
  have lc : ok ((c_pf F6 d 1304 0).bind fun F1 => (c_fi A7 d 14 6 ((-1))).bind fun A2 => some ((), P, F1, A2, J)) (fun r => r.2.1 = P ∧ FUm F6 r.2.2.1 d 1304 0 ∧ (∀ r' o, ¬ (r' = d ∧ o = 14) → r.2.2.2.1 r' o = A7 r' o) ∧ Rc r.2.2.1 r.2.2.2.1) := by
    refine ok_cpf ?_
    intro F8 U8
    refine ok_cfi ?_
    intro A9 a9 b9 c9
    exact ok_some ⟨rfl, U8, c9, (R7.pf U8 (by rw [hk]; exact (show 0 ≤ (0 : Int32).toInt ∧ (0 : Int32).toInt ≤ 400 by decide))).fi a9 b9 c9 (by rw [hk]; exact trivial)⟩
  refine ok_call lc ?_
  rintro ⟨u, P8, F8, A8, J8⟩ ⟨g1, U8, g3, g4⟩
  dsimp only at g1 U8 g3 g4 ⊢
  refine ok_some ⟨g1, fun r k h => (U8.2 r k (fun e => h e.1)).trans ((U6.2 r k (fun e => h e.1)).trans ((U5.2 r k (fun e => h e.1)).trans ((U4.2 r k (fun e => h e.1)).trans ((U3.2 r k (fun e => h e.1)).trans ((U2.2 r k (fun e => h e.1)).trans (U1.2 r k (fun e => h e.1))))))), fun r o h => (g3 r o (fun e => h e.1)).trans (c7 r o (fun e => h e.1)), g4, ?_, ?_, ?_, ?_, ?_, fun t t0 t1 => ?_⟩
  · show (F8 d 14).toInt = 0
    rw [U8.2 d 14 (by simp), U6.2 d 14 (by simp), U5.2 d 14 (by simp), U4.2 d 14 (by simp), U3.2 d 14 (by simp), U2.1]; exact l0
  · show (F8 d 16).toInt = 0
    rw [U8.2 d 16 (by simp), U6.2 d 16 (by simp), U5.2 d 16 (by simp), U4.1]; exact l0
  · show (F8 d 17).toInt = 0
    rw [U8.2 d 17 (by simp), U6.2 d 17 (by simp), U5.1]; exact l0
  · show (F8 d 18).toInt = 480
    rw [U8.2 d 18 (by simp), U6.1]; exact l480
  · show (F8 d 1304).toInt = 0
    rw [U8.1]; exact l0
  · show ci A8 d 5 t = 0
    rw [ci_fr (g3 d 5 (by simp)), a7 t t0 t1]; exact l0
theorem s_open (hk : c_kind d = 6) (R : Rc F A) (hn : 5200 ≤ n) : ok (e_Reader_open n P F A J d 3) (fun r => (∀ r' k, r' ≠ 37 → r.2.1 r' k = P r' k) ∧ r.2.1 37 5 = d ∧ r.2.1 37 6 = 3 ∧ RVc d F r.2.2.1 A r.2.2.2.1) := by
  have l0 : (0 : Int32).toInt = 0 := by decide
  have hd := kd37 hk
  have h3 := kd3 hk
  unfold e_Reader_open
  refine ok_cpp ?_
  intro P1 p1 o1
  refine ok_cpp ?_
  intro P2 p2 o2
  have x5 : P2 37 5 = d := (o2 37 5 (by simp)).trans p1
  have x6 : P2 37 6 = 3 := p2
  have oP : ∀ r' k, r' ≠ 37 → P2 r' k = P r' k := fun r' k h => (o2 r' k (fun e => h e.1)).trans (o1 r' k (fun e => h e.1))
  rw [x5]
  refine ok_chk hk ?_
  refine ok_call (s_houseClear hk R) ?_
  rintro ⟨u3, P3, F3, A3, J3⟩ ⟨g1, g2, g3, g4, g5, g6, g7, g8, g9, g10⟩
  dsimp only at g1 g2 g3 g4 g5 g6 g7 g8 g9 g10 ⊢
  subst g1
  rw [x6]
  refine ok_chk (by decide) ?_
  refine ok_call (s_clear (r0 := 3) (by decide) g4) ?_
  rintro ⟨u4, P4, F4, A4, J4⟩ ⟨y1, y2, y3, y4, y5⟩
  dsimp only at y1 y2 y3 y4 y5 ⊢
  subst y1
  refine ok_cpf ?_
  intro F5 U5
  refine ok_cpf ?_
  intro F6 U6
  refine ok_cpf ?_
  intro F7 U7
  refine ok_cpf ?_
  intro F8 U8
  refine ok_cpf ?_
  intro F9 U9
  have R9 : Rc F9 A4 := ((((y4.pf U5 (show 0 ≤ (0 : Int32).toInt ∧ (0 : Int32).toInt ≤ 400 by decide)).pf U6 (show 0 ≤ (0 : Int32).toInt ∧ (0 : Int32).toInt ≤ 400 by decide)).pf U7 (show 0 ≤ (0 : Int32).toInt ∧ (0 : Int32).toInt ≤ 8 by decide)).pf U8 trivial).pf U9 trivial
  refine ok_call (s_scanAll R9 (by omega)) ?_
  rintro ⟨u10, P10, F10, A10, J10⟩ ⟨z1, z2, z3, z4⟩
  dsimp only at z1 z2 z3 z4 ⊢
  subst z1
  have f37 : ∀ r k, r ≠ 37 → F10 r k = F4 r k := fun r k h => (z2 r k (fun e => h e.1)).trans ((U9.2 r k (fun e => h e.1)).trans ((U8.2 r k (fun e => h e.1)).trans ((U7.2 r k (fun e => h e.1)).trans ((U6.2 r k (fun e => h e.1)).trans (U5.2 r k (fun e => h e.1))))))
  have fd : ∀ k, F10 d k = F3 d k := fun k => (f37 d k hd).trans (y2 d k h3)
  have ad : ∀ o, A10 d o = A3 d o := fun o => (z3 d o (fun e => hd e.1)).trans (y3 d o h3)
  have b14 : cf F10 d 14 = 0 := by unfold cf at g5 ⊢; rw [fd]; exact g5
  have b16 : cf F10 d 16 = 0 := by unfold cf at g6 ⊢; rw [fd]; exact g6
  have b17 : cf F10 d 17 = 0 := by unfold cf at g7 ⊢; rw [fd]; exact g7
  have b18 : cf F10 d 18 = 480 := by unfold cf at g8 ⊢; rw [fd]; exact g8
  have b13 : cf F10 d 1304 = 0 := by unfold cf at g9 ⊢; rw [fd]; exact g9
  have b5 : ∀ t, 0 ≤ t → t < 6 → ci A10 d 5 t = 0 := fun t t0 t1 => by rw [ci_fr (ad 5)]; exact g10 t t0 t1
  have tk : 0 ≤ (F10 37 7).toInt ∧ (F10 37 7).toInt ≤ 400 := z4.1 37 7
  suffices V : RVc d F F10 A A10 from ok_some ⟨oP, x5, x6, V⟩
  refine ⟨z4, ⟨fun r k a b c => (f37 r k a).trans ((y2 r k c).trans (g2 r k b)), fun r o a b c => (z3 r o (fun e => a e.1)).trans ((y3 r o c).trans (g3 r o b))⟩, fun t p q => b5 t (by omega) q, .inr (by unfold cf at b13 ⊢; omega), .inr (.inr ⟨fun x p q => absurd q (by omega), fun x p q => absurd q (by omega), fun x p q => absurd q (by omega), fun t s t0 t1 s0 s1 => absurd s1 (by rw [b5 t t0 t1]; omega), fun i p q => absurd q (by omega), ⟨by omega, by omega⟩, fun m m0 m1 => ?_⟩)⟩
  rw [ci_fr (z3 3 3 (by simp)), y5 m m0 m1]
  exact .inl rfl
/-- the draft was written, the house in use is as it was -/
theorem Gc.rd (G : Gc P F A) (R : Rc F' A') (h8 : P' 0 8 = P 0 8) (h9 : P' 0 9 = P 0 9) (h4 : P' 32 4 = P 32 4) (hF : ∀ k, F' (P 0 8) k = F (P 0 8) k) (hA : ∀ o, A' (P 0 8) o = A (P 0 8) o) (h3 : ∀ r, c_kind r = 2 → r ≠ 3 → A' r 3 = A r 3) (f4 : ∀ k, F' 4 k = F 4 k) (f0 : F' 0 10 = F 0 10) : Gc P' F' A' := by
  obtain ⟨g1, g2, g3, g4, g5, g6, g7⟩ := G
  refine ⟨R, by rw [h8, h9]; exact g2, by rw [h4, h8]; exact g3, by rw [h8]; exact g4.cg hF (fun o _ => hA o), by rw [h8]; exact g5.cg (hA 5) (h3 2 (by decide) (by decide)), fun u u0 u1 => ?_, fun s s0 s1 => ?_⟩
  · unfold cf at u1 ⊢
    rw [f4 1, h8]
    rw [f4 2] at u1
    have := k_st (m := (((F 4 1).toInt + u) % 20).toNat) (by omega)
    exact (g6 u u0 u1).cg (hA 5) (h3 _ this.1 this.2.1)
  · rw [f0] at s1
    rw [h8]
    have := k_sl s0
    exact (g7 s s0 s1).cg (hA 5) (h3 _ this.1 this.2.1)
theorem s_cRead (G : Gc P F A) (hn : 6000 ≤ n) : ok (e_SleepWork_read n P F A J) (fun r => (Gc r.2.1 r.2.2.1 r.2.2.2.1 ∧ r.2.1 32 9 = P 32 9) ∧ cf r.2.2.1 1 1 = 0) := by
  have l0 : (0 : Int32).toInt = 0 := by decide
  have hk := G.k09
  have hd := kd37 hk
  have h3 := kd3 hk
  have hne : P 0 8 ≠ P 0 9 := by rcases G.2.1 with h | h <;> (rw [h.1, h.2]; decide)
  have n37 : P 0 8 ≠ 37 := kd37 G.k08
  have n3 : P 0 8 ≠ 3 := kd3 G.k08
  unfold e_SleepWork_read
  refine ok_chk hk ?_
  unfold e_Reader_readText
  have rt : ok ((e_Reader_open n P F A J (P 0 9) 3).bind fun (_, P2, F3, A4, J5) => e_Reader_readText_10 n P2 F3 A4 J5 0) (fun r => (∀ r' k, r' ≠ 37 → r.2.1 r' k = P r' k) ∧ RTc r.2.1 (P 0 9) F A r) := by
    refine ok_call (s_open hk G.1 (by omega)) ?_
    rintro ⟨u, P2, F2, A2, J2⟩ ⟨oP, x5, x6, V⟩
    dsimp only at oP x5 x6 V ⊢
    refine ok_mono (s_readText_10 x5 x6 hk V (by decide) (by omega)) (fun r hr => ?_)
    have e := hr.1
    rw [e]
    exact ⟨oP, hr⟩
  refine ok_call rt ?_
  rintro ⟨v2, P2, F2, A2, J2⟩ ⟨oP, t1, t2, t3, t4, t5⟩
  dsimp only at oP t1 t2 t3 t4 t5 ⊢
  unfold e_Reader_placeOfFault
  have pf : ok (cond (g_cnd .ne (F2 37 10) 0) (some (F2 37 11)) (some (-1))) (fun _ => True) := ok_cond (fun _ => ok_some trivial) (fun _ => ok_some trivial)
  refine ok_call pf ?_
  intro v7 _
  refine ok_cpf ?_
  intro F8 U8
  refine ok_cpf ?_
  intro F9 U9
  have R9 : Rc F9 A2 := (t2.pf U8 trivial).pf U9 (show 0 ≤ (0 : Int32).toInt ∧ (0 : Int32).toInt ≤ 2000 by decide)
  have o9 : ∀ r k, ¬ (r = 0 ∧ k = 11) → ¬ (r = 1 ∧ k = 1) → F9 r k = F2 r k := fun r k a b => (U9.2 r k b).trans (U8.2 r k a)
  have z1 : cf F9 1 1 = 0 := by unfold cf; rw [U9.1]; exact l0
  have nd : ∀ {r : Nat}, c_kind r ≠ 6 → r ≠ P 0 9 := fun h e => h (by rw [e]; exact hk)
  have G9 : Gc P2 F9 A2 := by
    refine G.rd R9 (oP 0 8 (by decide)) (oP 0 9 (by decide)) (oP 32 4 (by decide)) (fun k => (o9 _ k (fun e => by have := e.1; have := G.live; omega) (fun e => by have := e.1; have := G.live; omega)).trans (t3 _ k n37 hne n3)) (fun o => t4 _ o n37 hne n3) (fun r a b => t4 r 3 (fun e => absurd a (by rw [e]; decide)) (nd (by rw [a]; decide)) b) (fun k => (o9 4 k (by simp) (by simp)).trans (t3 4 k (by decide) (nd (by decide)) (by decide))) ((o9 0 10 (by simp) (by simp)).trans (t3 0 10 (by decide) (nd (by decide)) (by decide)))
  refine ok_cond (fun _ => ok_some ⟨⟨G9, oP 32 9 (by decide)⟩, z1⟩) (fun c => ?_)
  rw [i_nne, l0] at c
  obtain ⟨D, D5⟩ := t5.resolve_left (fun h => h c)
  -- the move
  unfold e_SleepWork_moveIn
  have mv : ok ((c_chk 6 (P2 0 8)).bind fun q1 => (c_chk 6 (P2 0 9)).bind fun q2 => (c_pp P2 0 8 q2).bind fun P3 => (c_pp P3 0 9 q1).bind fun P4 => (e_State_copy P4 F9 A2 J2 2 3).bind fun (_, P6, F7, A8, J9) => (c_pf F7 4 2 0).bind fun F10 => (c_pf F10 25 2 0).bind fun F11 => (c_pf F11 0 10 0).bind fun F12 => (c_chk 6 (P6 0 8)).bind fun q13 => (e_Evening_enter P6 F12 A8 J9 q13).bind fun (_, P15, F16, A17, J18) => some ((), P15, F16, A17, J18)) (fun r => (Gc r.2.1 r.2.2.1 r.2.2.2.1 ∧ r.2.1 32 9 = P 32 9) ∧ cf r.2.2.1 1 1 = 0) := by
    refine ok_chk G9.k08 ?_
    refine ok_chk G9.k09 ?_
    refine ok_cpp ?_
    intro P3 p3 o3
    refine ok_cpp ?_
    intro P4 p4 o4
    have y9 : P2 0 9 = P 0 9 := oP 0 9 (by decide)
    have y8 : P2 0 8 = P 0 8 := oP 0 8 (by decide)
    have x8 : P4 0 8 = P 0 9 := (o4 0 8 (by simp)).trans (p3.trans y9)
    have x9 : P4 0 9 = P 0 8 := p4.trans y8
    refine ok_call (s_copy (r0 := 2) (r1 := 3) (by decide) (by decide) G9.1) ?_
    rintro ⟨u, P5, F5, A5, J5⟩ ⟨g1, g2, g3, g4, g5⟩
    dsimp only at g1 g2 g3 g4 g5 ⊢
    subst g1
    refine ok_cpf ?_
    intro Fa Ua
    refine ok_cpf ?_
    intro Fb Ub
    refine ok_cpf ?_
    intro Fc Uc
    have kd : c_kind (P5 0 8) = 6 := by rw [x8]; exact hk
    refine ok_chk kd ?_
    rw [x8]
    unfold e_Evening_enter
    have en : ok ((c_pp P5 32 4 (P 0 9)).bind fun P1 => (e_Ways_drop P1 Fc A5 J5).bind fun (_, P3, F4, A5, J6) => (e_Evening_setStale P3 F4 A5 J6).bind fun (_, P8, F9, A10, J11) => some ((), P8, F9, A10, J11)) (fun r => r.2.1 32 4 = P 0 9 ∧ r.2.1 0 8 = P5 0 8 ∧ (r.2.1 0 9 = P5 0 9 ∧ r.2.1 32 9 = P5 32 9) ∧ (∀ r' k, ¬ (r' = 36 ∧ k = 101) → ¬ (r' = 32 ∧ k = 6) → r.2.2.1 r' k = Fc r' k) ∧ r.2.2.2.1 = A5 ∧ (Rc Fc A5 → Rc r.2.2.1 A5)) := by
      refine ok_cpp ?_
      intro P6 p6 o6
      unfold e_Ways_drop
      have wd : ok ((c_pf Fc 36 101 (-1)).bind fun F1 => some ((), P6, F1, A5, J5)) (fun r => r.2.1 = P6 ∧ FUm Fc r.2.2.1 36 101 (-1) ∧ r.2.2.2.1 = A5) := by
        refine ok_cpf ?_
        intro Fd Ud
        exact ok_some ⟨rfl, Ud, rfl⟩
      refine ok_call wd ?_
      rintro ⟨u7, P7, F7, A7, J7⟩ ⟨w1, w2, w3⟩
      dsimp only at w1 w2 w3 ⊢
      subst w1
      subst w3
      unfold e_Evening_setStale
      have ss : ok ((c_pf F7 32 6 (-1)).bind fun F1 => some ((), P7, F1, A7, J7)) (fun r => r.2.1 = P7 ∧ FUm F7 r.2.2.1 32 6 (-1) ∧ r.2.2.2.1 = A7) := by
        refine ok_cpf ?_
        intro Fd Ud
        exact ok_some ⟨rfl, Ud, rfl⟩
      refine ok_call ss ?_
      rintro ⟨u8, P8, F8', A8, J8⟩ ⟨w4, w5, w6⟩
      dsimp only at w4 w5 w6 ⊢
      subst w4
      exact ok_some ⟨p6, o6 0 8 (by simp), ⟨o6 0 9 (by simp), o6 32 9 (by simp)⟩, fun r k a b => (w5.2 r k b).trans (w2.2 r k a), w6, fun R => (R.pf w2 trivial).pf w5 trivial⟩
    refine ok_call en ?_
    rintro ⟨u9, P9, F9', A9, J9⟩ ⟨e1, e2, e3, e4, e5, e6⟩
    dsimp only at e1 e2 e3 e4 e5 e6 ⊢
    subst e5
    have Rc' : Rc Fc A9 := ((g4.pf Ua (show 0 ≤ (0 : Int32).toInt ∧ (0 : Int32).toInt ≤ 20 by decide)).pf Ub (show 0 ≤ (0 : Int32).toInt ∧ (0 : Int32).toInt ≤ 30 by decide)).pf Uc (show 0 ≤ (0 : Int32).toInt ∧ (0 : Int32).toInt ≤ 7 by decide)
    have R' := e6 Rc'
    have n2 : P 0 9 ≠ 2 := fun e => absurd hk (by rw [e]; decide)
    have fd : ∀ k, F9' (P 0 9) k = F2 (P 0 9) k := fun k => by
      have q1 : ∀ {r : Nat}, c_kind r ≠ 6 → ¬ (P 0 9 = r) := fun h e => h (by rw [← e]; exact hk)
      exact (e4 _ k (fun e => q1 (by decide) e.1) (fun e => q1 (by decide) e.1)).trans ((Uc.2 _ k (fun e => q1 (by decide) e.1)).trans ((Ub.2 _ k (fun e => q1 (by decide) e.1)).trans ((Ua.2 _ k (fun e => q1 (by decide) e.1)).trans ((g2 _ k n2).trans (o9 _ k (fun e => q1 (by decide) e.1) (fun e => q1 (by decide) e.1))))))
    have ad : ∀ o, A9 (P 0 9) o = A2 (P 0 9) o := fun o => g3 _ o n2
    have f42 : cf F9' 4 2 = 0 := by unfold cf; rw [e4 4 2 (by simp) (by simp), Uc.2 4 2 (by simp), Ub.2 4 2 (by simp), Ua.1]; exact l0
    have f010 : F9' 0 10 = 0 := by rw [e4 0 10 (by simp) (by simp), Uc.1]
    have f11 : F9' 1 1 = F9 1 1 := (e4 1 1 (by simp) (by simp)).trans ((Uc.2 1 1 (by simp)).trans ((Ub.2 1 1 (by simp)).trans ((Ua.2 1 1 (by simp)).trans (g2 1 1 (by decide)))))
    suffices GZ : Gc P9 F9' A9 from ok_some ⟨⟨GZ, e3.2.trans ((o4 32 9 (by simp)).trans ((o3 32 9 (by simp)).trans (oP 32 9 (by decide))))⟩, (show cf F9' 1 1 = 0 by unfold cf at z1 ⊢; rw [f11]; exact z1)⟩
    refine ⟨R', ?_, ?_, ?_, ?_, fun u u0 u1 => absurd u1 (by omega), fun s s0 s1 => absurd (b_none ⟨s, s0⟩) (by rw [f010] at s1; exact s1)⟩
    · show (P9 0 8 = 27 ∧ P9 0 9 = 28) ∨ (P9 0 8 = 28 ∧ P9 0 9 = 27)
      rw [e2, e3.1, x8, x9]
      rcases G.2.1 with h | h
      · exact .inr ⟨h.2, h.1⟩
      · exact .inl ⟨h.2, h.1⟩
    · show P9 32 4 = P9 0 8
      rw [e1, e2, x8]
    · show HVc F9' A9 (P9 0 8)
      rw [e2, x8]
      obtain ⟨d1, d2, d3, d4, d5, d6, d7⟩ := D
      have HV2 : HVc F2 A2 (P 0 9) := by
        refine ⟨d1, d2, fun t t0 t1 hp => ?_, d4, d5, d6⟩
        by_cases w : cf F2 (P 0 9) 16 ≤ t
        · exact absurd (D5 t w t1) (by omega)
        · exact d3 t t0 (by omega)
      exact HV2.cg fd (fun o _ => ad o)
    · show LVc A9 (P9 0 8) 2
      rw [e2, x8]
      intro m m0 m1
      rw [g5 m m0 m1]
      exact (D.2.2.2.2.2.2 m m0 m1).cg (ad 5)
  refine ok_call mv ?_
  rintro ⟨u, P12, F13, A14, J15⟩ ⟨m1, m2⟩
  exact ok_some ⟨m1, m2⟩
end R9e
end Qz93
section Qz94
/-! two runs side by side: what holds of both ends, if both come to an end -/
def po {α : Type} (o : Option α) (Q : α → Prop) : Prop := ∀ a, o = some a → Q a
def P2 {α β : Type} (o : Option α) (u : Option β) (Q : α → β → Prop) : Prop := ∀ a b, o = some a → u = some b → Q a b
section P2A
variable {α β γ δ : Type} {Q : γ → δ → Prop} {o : Option α} {u : Option β} {x y : Option γ} {z w : Option δ} {f : α → Option γ} {g : β → Option δ}
theorem ok.po {R : α → Prop} (h : ok o R) : po o R := by
  obtain ⟨a, rfl, h⟩ := h
  intro b hb
  cases hb
  exact h
theorem po_some {R : α → Prop} {a : α} (h : R a) : po (some a) R := by
  intro b hb
  cases hb
  exact h
theorem po_call {R : α → Prop} {S : γ → Prop} (h : po o R) (k : ∀ a, R a → po (f a) S) : po (o.bind f) S := by
  intro b hb
  obtain ⟨a, ha, hb⟩ := Option.bind_eq_some_iff.mp hb
  exact k a (h a ha) b hb
theorem po_bl {S : γ → Prop} (h : ∀ a, o = some a → po (f a) S) : po (o.bind f) S := by
  intro b hb
  obtain ⟨a, ha, hb⟩ := Option.bind_eq_some_iff.mp hb
  exact h a ha b hb
theorem po_eq {S : γ → Prop} {a : α} (e : o = some a) (h : po (f a) S) : po (o.bind f) S := by
  rw [e]
  exact h
theorem po_cond {c : Bool} {S : γ → Prop} (h1 : c = true → po x S) (h2 : c = false → po y S) : po (cond c x y) S := by
  cases c with
  | true => exact h1 rfl
  | false => exact h2 rfl
theorem po_bind_cond {c : Bool} {o1 o2 : Option α} {S : γ → Prop} (h1 : c = true → po (o1.bind f) S) (h2 : c = false → po (o2.bind f) S) : po ((cond c o1 o2).bind f) S := by
  cases c with
  | true => exact h1 rfl
  | false => exact h2 rfl
theorem po_mono {R S : α → Prop} (h : po o R) (k : ∀ a, R a → S a) : po o S := fun a ha => k a (h a ha)
theorem p2_some {a : γ} {b : δ} (h : Q a b) : P2 (some a) (some b) Q := by
  intro x y hx hy
  cases hx
  cases hy
  exact h
theorem p2_call {R : α → β → Prop} (h : P2 o u R) (k : ∀ a b, R a b → P2 (f a) (g b) Q) : P2 (o.bind f) (u.bind g) Q := by
  intro x y hx hy
  obtain ⟨a, ha, hx⟩ := Option.bind_eq_some_iff.mp hx
  obtain ⟨b, hb, hy⟩ := Option.bind_eq_some_iff.mp hy
  exact k a b (h a b ha hb) x y hx hy
theorem p2_l {R : α → Prop} (h : po o R) (k : ∀ a, R a → P2 (f a) z Q) : P2 (o.bind f) z Q := by
  intro x y hx hy
  obtain ⟨a, ha, hx⟩ := Option.bind_eq_some_iff.mp hx
  exact k a (h a ha) x y hx hy
theorem p2_r {R : β → Prop} (h : po u R) (k : ∀ b, R b → P2 x (g b) Q) : P2 x (u.bind g) Q := by
  intro x y hx hy
  obtain ⟨b, hb, hy⟩ := Option.bind_eq_some_iff.mp hy
  exact k b (h b hb) x y hx hy
theorem p2_cl {c : Bool} (h1 : c = true → P2 x z Q) (h2 : c = false → P2 y z Q) : P2 (cond c x y) z Q := by
  cases c with
  | true => exact h1 rfl
  | false => exact h2 rfl
theorem p2_cr {c : Bool} (h1 : c = true → P2 x z Q) (h2 : c = false → P2 x w Q) : P2 x (cond c z w) Q := by
  cases c with
  | true => exact h1 rfl
  | false => exact h2 rfl
theorem p2_bind_cr {c : Bool} {u1 u2 : Option β} (h1 : c = true → P2 x (u1.bind g) Q) (h2 : c = false → P2 x (u2.bind g) Q) : P2 x ((cond c u1 u2).bind g) Q := by
  cases c with
  | true => exact h1 rfl
  | false => exact h2 rfl
theorem p2_bind_cl {c : Bool} {o1 o2 : Option α} (h1 : c = true → P2 (o1.bind f) z Q) (h2 : c = false → P2 (o2.bind f) z Q) : P2 ((cond c o1 o2).bind f) z Q := by
  cases c with
  | true => exact h1 rfl
  | false => exact h2 rfl
theorem p2_of {R : γ → Prop} {S : δ → Prop} (h : po x R) (h' : po z S) (k : ∀ a b, R a → S b → Q a b) : P2 x z Q := fun a b ha hb => k a b (h a ha) (h' b hb)
theorem p2_mono {R : γ → δ → Prop} (h : P2 x z R) (k : ∀ a b, R a b → Q a b) : P2 x z Q := fun a b ha hb => k a b (h a b ha hb)
theorem p2_okl {R : γ → Prop} (h : ok x R) (k : P2 x z Q) : P2 x z (fun a b => Q a b ∧ R a) := fun a b ha hb => ⟨k a b ha hb, h.po a ha⟩
theorem p2_okr {R : δ → Prop} (h : ok z R) (k : P2 x z Q) : P2 x z (fun a b => Q a b ∧ R b) := fun a b ha hb => ⟨k a b ha hb, h.po b hb⟩
theorem p2_el {a : α} (e : o = some a) (h : P2 (f a) z Q) : P2 (o.bind f) z Q := by
  rw [e]
  exact h
theorem p2_er {b : β} (e : u = some b) (h : P2 x (g b) Q) : P2 x (u.bind g) Q := by
  rw [e]
  exact h
theorem p2_bl {f : α → Option γ} (h : ∀ a, o = some a → P2 (f a) z Q) : P2 (o.bind f) z Q := by
  intro x y hx hy
  obtain ⟨a, ha, hx⟩ := Option.bind_eq_some_iff.mp hx
  exact h a ha x y hx hy
theorem p2_br {g : β → Option δ} (h : ∀ b, u = some b → P2 x (g b) Q) : P2 x (u.bind g) Q := by
  intro x y hx hy
  obtain ⟨b, hb, hy⟩ := Option.bind_eq_some_iff.mp hy
  exact h b hb x y hx hy
end P2A
theorem i_out {n : Nat} {i : Int32} (h : ¬ (i < 0 ∨ n ≤ i.toNatClampNeg)) : 0 ≤ i.toInt ∧ i.toInt < (n : Int) := by
  have h1 : ¬ i < 0 := fun e => h (.inl e)
  have h2 : ¬ n ≤ i.toNatClampNeg := fun e => h (.inr e)
  have e : i.toNatClampNeg = i.toInt.toNat := rfl
  rw [e] at h2
  rw [Int32.lt_iff_toInt_lt, i_lit.1] at h1
  omega
section P2L
/-! one step of one side: what a load or a store says, whoever asks -/
variable {f : Nat → Int32} {fJ : Nat → Int64} {n j r o k K q : Nat} {i x v : Int32} {xJ vJ : Int64} {F F' : Nat → Int32} {A A' : Nat → Nat → Int32} {J J' : Nat → Nat → Int64} {CF CF' : Nat → Nat → Int32} {CA CA' : Nat → Nat → Nat → Int32} {CJ CJ' : Nat → Nat → Nat → Int64}
theorem gg_ld (h : m_ld f n i = some v) : 0 ≤ i.toInt ∧ i.toInt < (n : Int) ∧ v = f i.toInt.toNat := by
  unfold m_ld at h
  split at h
  · cases h
  · next c => cases h; exact ⟨(i_out c).1, (i_out c).2, rfl⟩
theorem gg_ldJ (h : m_ldJ fJ n i = some vJ) : 0 ≤ i.toInt ∧ i.toInt < (n : Int) ∧ vJ = fJ i.toInt.toNat := by
  unfold m_ldJ at h
  split at h
  · cases h
  · next c => cases h; exact ⟨(i_out c).1, (i_out c).2, rfl⟩
theorem gg_st (h : m_st A j n i x = some A') : 0 ≤ i.toInt ∧ i.toInt < (n : Int) ∧ (∀ q, q ≠ j → A' q = A q) ∧ ai A' j i.toInt = x.toInt ∧ (∀ q, 0 ≤ q → q ≠ i.toInt → ai A' j q = ai A j q) := by
  unfold m_st at h
  split at h
  · cases h
  · next c =>
    cases h
    have b := i_out c
    exact ⟨b.1, b.2, fun _ h => c_up_ne h, ai_same, fun _ hq h => ai_ne b.1 hq h⟩
theorem gg_stJ (h : m_stJ J j n i xJ = some J') : 0 ≤ i.toInt ∧ i.toInt < (n : Int) ∧ (∀ q, q ≠ j → J' q = J q) ∧ J' j i.toInt.toNat = xJ ∧ (∀ q : Int, 0 ≤ q → q ≠ i.toInt → J' j q.toNat = J j q.toNat) := by
  unfold m_stJ at h
  split at h
  · cases h
  · next c =>
    cases h
    have b := i_out c
    refine ⟨b.1, b.2, fun _ h => c_up_ne h, ?_, fun q hq h => ?_⟩
    · rw [c_up_same]
      exact if_pos rfl
    · rw [c_up_same]
      have e : i.toNatClampNeg = i.toInt.toNat := rfl
      exact if_neg (by rw [e]; omega)
theorem gg_pf (h : m_pf F k x = some F') : F' k = x ∧ (∀ q, q ≠ k → F' q = F q) := by
  cases h
  exact ⟨if_pos rfl, fun _ h => if_neg h⟩
theorem gg_cst (h : c_st CA r o n i x = some CA') : 0 ≤ i.toInt ∧ i.toInt < (n : Int) ∧ CUm CA CA' r o i.toInt x.toInt := by
  have c : ¬ (i < 0 ∨ n ≤ i.toNatClampNeg) := by
    intro e
    unfold c_st at h
    rw [if_pos e] at h
    cases h
  have b := i_out c
  have z : ok ((c_st CA r o n i x).bind some) (fun A' => CUm CA A' r o i.toInt x.toInt) := ok_cst b.1 b.2 (fun A' U => ok_some U)
  rw [h] at z
  obtain ⟨a, e, z⟩ := z
  cases e
  exact ⟨b.1, b.2, z⟩
theorem gg_cstJ (h : c_stJ CJ r o n i xJ = some CJ') : 0 ≤ i.toInt ∧ i.toInt < (n : Int) ∧ CJ' r o i.toInt.toNat = xJ ∧ (∀ j : Int, 0 ≤ j → j ≠ i.toInt → CJ' r o j.toNat = CJ r o j.toNat) ∧ (∀ r' o', ¬ (r' = r ∧ o' = o) → CJ' r' o' = CJ r' o') := by
  unfold c_stJ at h
  split at h
  · cases h
  · next c =>
    cases h
    have b := i_out c
    have e : i.toNatClampNeg = i.toInt.toNat := rfl
    refine ⟨b.1, b.2, ?_, fun j hj hn => ?_, fun r' o' hn => ?_⟩
    · rw [c_up_same, c_up_same]
      exact if_pos e.symm
    · rw [c_up_same, c_up_same]
      exact if_neg (by rw [e]; omega)
    · by_cases e : r' = r
      · subst e
        rw [c_up_same, c_up_ne (fun e => hn ⟨rfl, e⟩)]
      · rw [c_up_ne e]
theorem gg_cpf (h : c_pf CF r k x = some CF') : FUm CF CF' r k x := by
  have z : ok ((c_pf CF r k x).bind some) (fun F' => FUm CF F' r k x) := ok_cpf (fun A' U => ok_some U)
  rw [h] at z
  obtain ⟨a, e, z⟩ := z
  cases e
  exact z
theorem gg_chk (h : c_chk K q = some r) : c_kind q = K ∧ r = q := by
  unfold c_chk at h
  split at h
  · next e => cases h; exact ⟨e, rfl⟩
  · cases h
end P2L
end Qz94
section Qz95
/-! the tokens of a text, as both sides hold them -/
abbrev TS : Type := (Nat → Int32) × (Nat → Int32) × (Nat → Int32) × (Nat → Int64) × (Nat → Int32) × (Nat → Int32) × (Nat → Int32) × (Nat → Int64) × (Nat → Int64) × (Nat → Int64)
def TS.kc (T : TS) : Nat → Int32 := T.1
def TS.fc (T : TS) : Nat → Int32 := T.2.1
def TS.nc (T : TS) : Nat → Int32 := T.2.2.1
def TS.jc (T : TS) : Nat → Int64 := T.2.2.2.1
def TS.kr (T : TS) : Nat → Int32 := T.2.2.2.2.1
def TS.pr (T : TS) : Nat → Int32 := T.2.2.2.2.2.1
def TS.vr (T : TS) : Nat → Int32 := T.2.2.2.2.2.2.1
def TS.jr (T : TS) : Nat → Int64 := T.2.2.2.2.2.2.2.1
def TS.jw (T : TS) : Nat → Int64 := T.2.2.2.2.2.2.2.2.1
def TS.jk (T : TS) : Nat → Int64 := T.2.2.2.2.2.2.2.2.2
/-- kinds of tokens: the class's, the reference's -/
def kt : List (Int × Int) := [(0, 20), (1, 21), (2, 23), (3, 24), (4, 25), (5, 28), (6, 30), (7, 34), (8, 22), (9, 26), (10, 27), (11, 29), (12, 31), (13, 32), (14, 33), (15, 35), (16, 36), (17, 37), (18, 38), (19, 39), (20, 40), (100, 1), (101, 2), (102, 0), (103, 3), (59, 4), (61, 5), (40, 6), (41, 7), (43, 8), (45, 9), (42, 10), (47, 15), (60, 13)]
abbrev KR (x y : Int) : Prop := (x, y) ∈ kt
theorem KR.iff {x y k k' : Int} (h : KR x y) (h' : KR k k') : x = k ↔ y = k' :=
  (by decide : ∀ p ∈ kt, ∀ q ∈ kt, (p.1 = q.1 ↔ p.2 = q.2)) _ h _ h'
/-- the same letters: eight bits each, or one of 27 -/
def TNf : Nat → Int → Int → Prop
  | 0, x, y => x = 0 ∧ y = 0
  | n + 1, x, y => ∃ x' y' c : Int, TNf n x' y' ∧ 97 ≤ c ∧ c ≤ 122 ∧ x = 256 * x' + c ∧ y = 27 * y' + (c - 96)
def TNi (x y : Int) : Prop := ∃ n, TNf n x y
theorem TNi.nil : TNi 0 0 := ⟨0, rfl, rfl⟩
theorem TNi.snoc {x y c : Int} (h : TNi x y) (h1 : 97 ≤ c) (h2 : c ≤ 122) : TNi (256 * x + c) (27 * y + (c - 96)) := by
  obtain ⟨n, h⟩ := h
  exact ⟨n + 1, x, y, c, h, h1, h2, rfl, rfl⟩
theorem TNf.pos : ∀ {n : Nat} {x y : Int}, TNf n x y → 0 ≤ x ∧ 0 ≤ y := by
  intro n
  induction n with
  | zero => rintro x y ⟨rfl, rfl⟩; exact ⟨by decide, by decide⟩
  | succ n ih =>
    rintro x y ⟨x', y', c, h, h1, h2, rfl, rfl⟩
    have := ih h
    omega
theorem TNi.pos {x y : Int} (h : TNi x y) : 0 ≤ x ∧ 0 ≤ y := by
  obtain ⟨n, h⟩ := h
  exact h.pos
theorem TNf.iff : ∀ {n m : Nat} {x y x' y' : Int}, TNf n x y → TNf m x' y' → (x = x' ↔ y = y') := by
  intro n
  induction n with
  | zero =>
    rintro m x y x' y' ⟨rfl, rfl⟩ h'
    cases m with
    | zero => obtain ⟨rfl, rfl⟩ := h'; exact ⟨fun _ => rfl, fun _ => rfl⟩
    | succ m =>
      obtain ⟨u, v, c, g, h1, h2, rfl, rfl⟩ := h'
      have := g.pos
      constructor <;> intro <;> omega
  | succ n ih =>
    rintro m x y x' y' ⟨u, v, c, g, h1, h2, rfl, rfl⟩ h'
    cases m with
    | zero =>
      obtain ⟨rfl, rfl⟩ := h'
      have := g.pos
      constructor <;> intro <;> omega
    | succ m =>
      obtain ⟨u', v', c', g', h1', h2', rfl, rfl⟩ := h'
      have i := ih g g'
      constructor
      · intro e
        have := i.mp (by omega)
        omega
      · intro e
        have := i.mpr (by omega)
        omega
theorem TNi.iff {x y x' y' : Int} (h : TNi x y) (h' : TNi x' y') : x = x' ↔ y = y' := by
  obtain ⟨n, h⟩ := h
  obtain ⟨m, h'⟩ := h'
  exact h.iff h'
def TS.lv (T : TS) (j : Nat) : Prop := (T.kr j).toInt ≠ 0 ∧ (T.kr j).toInt ≠ 3
def TKs (T : TS) : Prop := (∀ i : Nat, i ≤ 400 → (∀ j, j < i → T.lv j) → KR (T.kc i).toInt (T.kr i).toInt) ∧ (∀ i : Nat, i ≤ 400 → (∀ j, j < i → T.lv j) → (T.kr i).toInt = 2 → T.nc i = T.vr i) ∧ (∀ i : Nat, i ≤ 400 → (∀ j, j < i → T.lv j) → (T.kr i).toInt = 1 → TNi (T.jc i).toInt (T.jr i).toInt) ∧ (∀ i : Nat, i < 400 → (∀ j, j ≤ i → T.lv j) → (T.pr i).toInt < (T.pr (i + 1)).toInt)
theorem TKs.kd {T : TS} (h_ : TKs T) : ∀ i : Nat, i ≤ 400 → (∀ j, j < i → T.lv j) → KR (T.kc i).toInt (T.kr i).toInt := h_.1
theorem TKs.nu {T : TS} (h_ : TKs T) : ∀ i : Nat, i ≤ 400 → (∀ j, j < i → T.lv j) → (T.kr i).toInt = 2 → T.nc i = T.vr i := h_.2.1
theorem TKs.nm {T : TS} (h_ : TKs T) : ∀ i : Nat, i ≤ 400 → (∀ j, j < i → T.lv j) → (T.kr i).toInt = 1 → TNi (T.jc i).toInt (T.jr i).toInt := h_.2.2.1
theorem TKs.up {T : TS} (h_ : TKs T) : ∀ i : Nat, i < 400 → (∀ j, j ≤ i → T.lv j) → (T.pr i).toInt < (T.pr (i + 1)).toInt := h_.2.2.2
/-- both sides hold these tokens -/
def RX (T : TS) (A : Nat → Nat → Nat → Int32) (J : Nat → Nat → Nat → Int64) (Am : Nat → Nat → Int32) (Jm : Nat → Nat → Int64) : Prop := (A 37 2 = T.kc) ∧ (A 37 3 = T.fc) ∧ (A 37 4 = T.nc) ∧ (J 37 5 = T.jc) ∧ (J 37 6 = T.jw) ∧ (Am 3 = T.kr) ∧ (Am 4 = T.pr) ∧ (Am 5 = T.vr) ∧ (Jm 6 = T.jr) ∧ (Jm 7 = T.jk)
theorem RX.a2 {T : TS} {A : Nat → Nat → Nat → Int32} {J : Nat → Nat → Nat → Int64} {Am : Nat → Nat → Int32} {Jm : Nat → Nat → Int64} (h_ : RX T A J Am Jm) : A 37 2 = T.kc := h_.1
theorem RX.a3 {T : TS} {A : Nat → Nat → Nat → Int32} {J : Nat → Nat → Nat → Int64} {Am : Nat → Nat → Int32} {Jm : Nat → Nat → Int64} (h_ : RX T A J Am Jm) : A 37 3 = T.fc := h_.2.1
theorem RX.a4 {T : TS} {A : Nat → Nat → Nat → Int32} {J : Nat → Nat → Nat → Int64} {Am : Nat → Nat → Int32} {Jm : Nat → Nat → Int64} (h_ : RX T A J Am Jm) : A 37 4 = T.nc := h_.2.2.1
theorem RX.j5 {T : TS} {A : Nat → Nat → Nat → Int32} {J : Nat → Nat → Nat → Int64} {Am : Nat → Nat → Int32} {Jm : Nat → Nat → Int64} (h_ : RX T A J Am Jm) : J 37 5 = T.jc := h_.2.2.2.1
theorem RX.j6 {T : TS} {A : Nat → Nat → Nat → Int32} {J : Nat → Nat → Nat → Int64} {Am : Nat → Nat → Int32} {Jm : Nat → Nat → Int64} (h_ : RX T A J Am Jm) : J 37 6 = T.jw := h_.2.2.2.2.1
theorem RX.m3 {T : TS} {A : Nat → Nat → Nat → Int32} {J : Nat → Nat → Nat → Int64} {Am : Nat → Nat → Int32} {Jm : Nat → Nat → Int64} (h_ : RX T A J Am Jm) : Am 3 = T.kr := h_.2.2.2.2.2.1
theorem RX.m4 {T : TS} {A : Nat → Nat → Nat → Int32} {J : Nat → Nat → Nat → Int64} {Am : Nat → Nat → Int32} {Jm : Nat → Nat → Int64} (h_ : RX T A J Am Jm) : Am 4 = T.pr := h_.2.2.2.2.2.2.1
theorem RX.m5 {T : TS} {A : Nat → Nat → Nat → Int32} {J : Nat → Nat → Nat → Int64} {Am : Nat → Nat → Int32} {Jm : Nat → Nat → Int64} (h_ : RX T A J Am Jm) : Am 5 = T.vr := h_.2.2.2.2.2.2.2.1
theorem RX.k6 {T : TS} {A : Nat → Nat → Nat → Int32} {J : Nat → Nat → Nat → Int64} {Am : Nat → Nat → Int32} {Jm : Nat → Nat → Int64} (h_ : RX T A J Am Jm) : Jm 6 = T.jr := h_.2.2.2.2.2.2.2.2.1
theorem RX.k7 {T : TS} {A : Nat → Nat → Nat → Int32} {J : Nat → Nat → Nat → Int64} {Am : Nat → Nat → Int32} {Jm : Nat → Nat → Int64} (h_ : RX T A J Am Jm) : Jm 7 = T.jk := h_.2.2.2.2.2.2.2.2.2
/-- both sides stand at the same token, without a fault of form -/
def RT (T : TS) (F : Nat → Nat → Int32) (Fm : Nat → Int32) : Prop := ((F 37 10).toInt = 0) ∧ ((Fm 13).toInt = 0) ∧ (F 37 7 = Fm 11) ∧ (0 ≤ (Fm 11).toInt) ∧ ((Fm 11).toInt ≤ 400) ∧ (∀ j : Nat, (j : Int) < (Fm 11).toInt → T.lv j) ∧ (F 37 12 = Fm 15) ∧ ((Fm 15).toInt ≠ 0 → (Fm 16).toInt < (T.pr (Fm 11).toInt.toNat).toInt)
theorem RT.f0 {T : TS} {F : Nat → Nat → Int32} {Fm : Nat → Int32} (h_ : RT T F Fm) : (F 37 10).toInt = 0 := h_.1
theorem RT.g0 {T : TS} {F : Nat → Nat → Int32} {Fm : Nat → Int32} (h_ : RT T F Fm) : (Fm 13).toInt = 0 := h_.2.1
theorem RT.tk {T : TS} {F : Nat → Nat → Int32} {Fm : Nat → Int32} (h_ : RT T F Fm) : F 37 7 = Fm 11 := h_.2.2.1
theorem RT.t0 {T : TS} {F : Nat → Nat → Int32} {Fm : Nat → Int32} (h_ : RT T F Fm) : 0 ≤ (Fm 11).toInt := h_.2.2.2.1
theorem RT.t1 {T : TS} {F : Nat → Nat → Int32} {Fm : Nat → Int32} (h_ : RT T F Fm) : (Fm 11).toInt ≤ 400 := h_.2.2.2.2.1
theorem RT.lv {T : TS} {F : Nat → Nat → Int32} {Fm : Nat → Int32} (h_ : RT T F Fm) : ∀ j : Nat, (j : Int) < (Fm 11).toInt → T.lv j := h_.2.2.2.2.2.1
theorem RT.lt {T : TS} {F : Nat → Nat → Int32} {Fm : Nat → Int32} (h_ : RT T F Fm) : F 37 12 = Fm 15 := h_.2.2.2.2.2.2.1
theorem RT.wp {T : TS} {F : Nat → Nat → Int32} {Fm : Nat → Int32} (h_ : RT T F Fm) : (Fm 15).toInt ≠ 0 → (Fm 16).toInt < (T.pr (Fm 11).toInt.toNat).toInt := h_.2.2.2.2.2.2.2
theorem RT.cg {T : TS} {F F' : Nat → Nat → Int32} {Fm Fm' : Nat → Int32} (R : RT T F Fm) (hF : ∀ k, k = 7 ∨ k = 10 ∨ k = 12 → F' 37 k = F 37 k) (hm : ∀ q, q = 11 ∨ q = 13 ∨ q = 15 ∨ q = 16 → Fm' q = Fm q) : RT T F' Fm' := by
  refine ⟨?_, ?_, ?_, ?_, ?_, ?_, ?_, ?_⟩
  · rw [hF 10 (by omega)]; exact R.f0
  · rw [hm 13 (by omega)]; exact R.g0
  · rw [hF 7 (by omega), hm 11 (by omega)]; exact R.tk
  · rw [hm 11 (by omega)]; exact R.t0
  · rw [hm 11 (by omega)]; exact R.t1
  · rw [hm 11 (by omega)]; exact R.lv
  · rw [hF 12 (by omega), hm 15 (by omega)]; exact R.lt
  · rw [hm 15 (by omega), hm 16 (by omega), hm 11 (by omega)]; exact R.wp
/-- both sides have found a fault of form, the same one -/
def FE (F : Nat → Nat → Int32) (Fm : Nat → Int32) : Prop := F 37 10 = Fm 13 ∧ 0 < (Fm 13).toInt
def FrC (F F' : Nat → Nat → Int32) : Prop := ∀ r k, ¬ (r = 37 ∧ 7 ≤ k ∧ k ≤ 13 ∧ k ≠ 9) → F' r k = F r k
def FrM (F F' : Nat → Int32) : Prop := ∀ q, q ≠ 11 → q ≠ 13 → q ≠ 14 → q ≠ 15 → q ≠ 16 → F' q = F q
theorem FrC.rfl' {F : Nat → Nat → Int32} : FrC F F := fun _ _ _ => rfl
theorem FrM.rfl' {F : Nat → Int32} : FrM F F := fun _ _ _ _ _ _ => rfl
theorem FrC.tr {F F1 F' : Nat → Nat → Int32} (h : FrC F F1) (h' : FrC F1 F') : FrC F F' := fun r k e => (h' r k e).trans (h r k e)
theorem FrM.tr {F F1 F' : Nat → Int32} (h : FrM F F1) (h' : FrM F1 F') : FrM F F' := fun q a b c d e => (h' q a b c d e).trans (h q a b c d e)
section LD
variable {f : Nat → Int32} {fJ : Nat → Int64} {n : Nat} {i : Int32}
theorem m_ld_in (h0 : 0 ≤ i.toInt) (h1 : i.toInt < (n : Int)) : m_ld f n i = some (f i.toInt.toNat) := by
  unfold m_ld
  rw [if_neg (i_in h0 h1)]
  rfl
theorem m_ldJ_in (h0 : 0 ≤ i.toInt) (h1 : i.toInt < (n : Int)) : m_ldJ fJ n i = some (fJ i.toInt.toNat) := by
  unfold m_ldJ
  rw [if_neg (i_in h0 h1)]
  rfl
end LD
theorem i_0 : (0 : Int32).toInt = 0 := by decide
theorem i_400 : (400 : Int32).toInt = 400 := by decide
theorem i_1 : (1 : Int32).toInt = 1 := by decide
section TKC
variable {P : Nat → Nat → Nat} {F : Nat → Nat → Int32} {A : Nat → Nat → Nat → Int32} {J : Nat → Nat → Nat → Int64} {k : Int32}
/-! the class's take, by what it finds -/
theorem e_take_ff (h : (F 37 10).toInt ≠ 0) : e_Reader_take P F A J k = some (0, P, F, A, J) := by
  unfold e_Reader_take
  rw [i_neq.mpr (by rw [i_0]; exact h), cond_false]
theorem e_next_ff (h : (F 37 10).toInt ≠ 0) : e_Reader_isNext P F A J k = some 0 := by
  unfold e_Reader_isNext
  rw [i_ne.mpr (by rw [i_0]; exact h), cond_true]
theorem e_next_0 (h : (F 37 10).toInt = 0) (t0 : 0 ≤ (F 37 7).toInt) (t1 : (F 37 7).toInt ≤ 400) (hk : (A 37 2 (F 37 7).toInt.toNat).toInt ≠ k.toInt) : e_Reader_isNext P F A J k = some 0 := by
  unfold e_Reader_isNext
  rw [i_nne.mpr (by rw [i_0]; exact h), cond_false, m_ld_in t0 (by omega), Option.bind_some, i_ne.mpr hk, cond_true]
theorem e_next_1 (h : (F 37 10).toInt = 0) (t0 : 0 ≤ (F 37 7).toInt) (t1 : (F 37 7).toInt ≤ 400) (hk : (A 37 2 (F 37 7).toInt.toNat).toInt = k.toInt) : e_Reader_isNext P F A J k = some 1 := by
  unfold e_Reader_isNext
  rw [i_nne.mpr (by rw [i_0]; exact h), cond_false, m_ld_in t0 (by omega), Option.bind_some, i_nne.mpr hk, cond_false]
theorem e_fail_0 {v : Int32} (h : (F 37 10).toInt = 0) : ∃ F', e_Reader_fail P F A J k v = some ((), P, F', A, J) ∧ F' 37 10 = k ∧ FrC F F' := by
  unfold e_Reader_fail
  rw [i_eq.mpr (by rw [i_0]; exact h), cond_true]
  unfold e_Reader_fail_15
  obtain ⟨F3, e3⟩ : ∃ F3, c_pf F 37 10 k = some F3 := ⟨_, rfl⟩
  rw [e3, Option.bind_some]
  obtain ⟨F4, e4⟩ : ∃ F4, c_pf F3 37 11 v = some F4 := ⟨_, rfl⟩
  rw [e4, Option.bind_some]
  have U3 := gg_cpf e3
  have U4 := gg_cpf e4
  exact ⟨F4, rfl, by rw [U4.2 37 10 (by decide), U3.1], fun r q hn => by rw [U4.2 r q (by omega), U3.2 r q (by omega)]⟩
theorem e_take_0 (h : (F 37 10).toInt = 0) (t0 : 0 ≤ (F 37 7).toInt) (t1 : (F 37 7).toInt ≤ 400) (hk : (A 37 2 (F 37 7).toInt.toNat).toInt ≠ k.toInt) : ∃ F', e_Reader_take P F A J k = some (0, P, F', A, J) ∧ F' 37 10 = 1 ∧ FrC F F' := by
  unfold e_Reader_take
  rw [i_eq.mpr (by rw [i_0]; exact h), cond_true, m_ld_in t0 (by omega), Option.bind_some, i_neq.mpr hk, cond_false, m_ld_in t0 (by omega), Option.bind_some]
  obtain ⟨F', e, h1, h2⟩ := e_fail_0 (P := P) (A := A) (J := J) (k := 1) (v := A 37 3 (F 37 7).toInt.toNat) h
  rw [e, Option.bind_some]
  exact ⟨F', rfl, h1, h2⟩
theorem e_take_2 (h : (F 37 10).toInt = 0) (t1 : (F 37 7).toInt = 400) (hk : (A 37 2 (F 37 7).toInt.toNat).toInt = k.toInt) : ∃ F', e_Reader_take P F A J k = some (0, P, F', A, J) ∧ F' 37 10 = 2 ∧ FrC F F' := by
  unfold e_Reader_take
  rw [i_eq.mpr (by rw [i_0]; exact h), cond_true, m_ld_in (by omega) (by omega), Option.bind_some, i_eq.mpr hk, cond_true, i_nlt.mpr (by rw [i_400]; omega), cond_false, m_ld_in (by omega) (by omega), Option.bind_some]
  obtain ⟨F', e, h1, h2⟩ := e_fail_0 (P := P) (A := A) (J := J) (k := 2) (v := A 37 3 (F 37 7).toInt.toNat) h
  rw [e, Option.bind_some]
  exact ⟨F', rfl, h1, h2⟩
theorem e_take_1 (h : (F 37 10).toInt = 0) (t0 : 0 ≤ (F 37 7).toInt) (t1 : (F 37 7).toInt < 400) (hk : (A 37 2 (F 37 7).toInt.toNat).toInt = k.toInt) : ∃ F', e_Reader_take P F A J k = some (1, P, F', A, J) ∧ F' 37 7 = F 37 7 + 1 ∧ F' 37 8 = F 37 7 ∧ (∀ r q, ¬ (r = 37 ∧ (q = 7 ∨ q = 8)) → F' r q = F r q) := by
  unfold e_Reader_take
  rw [i_eq.mpr (by rw [i_0]; exact h), cond_true, m_ld_in t0 (by omega), Option.bind_some, i_eq.mpr hk, cond_true, i_lt.mpr (by rw [i_400]; omega), cond_true]
  obtain ⟨F3, e3⟩ : ∃ F3, c_pf F 37 8 (F 37 7) = some F3 := ⟨_, rfl⟩
  rw [e3, Option.bind_some]
  obtain ⟨F4, e4⟩ : ∃ F4, c_pf F3 37 7 (F3 37 7 + 1) = some F4 := ⟨_, rfl⟩
  rw [e4, Option.bind_some]
  have U3 := gg_cpf e3
  have U4 := gg_cpf e4
  exact ⟨F4, rfl, by rw [U4.1, U3.2 37 7 (by decide)], by rw [U4.2 37 8 (by decide), U3.1], fun r q hn => by rw [U4.2 r q (by omega), U3.2 r q (by omega)]⟩
end TKC
section TKM
variable {F : Nat → Int32} {A : Nat → Nat → Int32} {J : Nat → Nat → Int64} {k : Int32}
/-! the reference's must, by what it finds -/
theorem d_fail_ff (h : 0 < (F 13).toInt) : d_fail F A J k = some ((), F, A, J) := by
  unfold d_fail
  rw [i_nle.mpr (by rw [i_0]; exact h), cond_false]
theorem d_is_ff (h : 0 < (F 13).toInt) : d_is F A J k = some 0 := by
  unfold d_is
  rw [i_ne.mpr (by rw [i_0]; omega), cond_true]
theorem d_must_ff (h : 0 < (F 13).toInt) : d_must F A J k = some ((), F, A, J) := by
  unfold d_must
  rw [d_is_ff h, Option.bind_some, i_eq.mpr rfl, cond_true, d_fail_ff h, Option.bind_some]
theorem d_is_0 (h : (F 13).toInt = 0) (t0 : 0 ≤ (F 11).toInt) (t1 : (F 11).toInt ≤ 400) (hk : (A 3 (F 11).toInt.toNat).toInt ≠ k.toInt) : d_is F A J k = some 0 := by
  unfold d_is
  rw [i_nne.mpr (by rw [i_0]; exact h), cond_false, m_ld_in t0 (by omega), Option.bind_some, i_ne.mpr hk, cond_true]
theorem d_is_1 (h : (F 13).toInt = 0) (t0 : 0 ≤ (F 11).toInt) (t1 : (F 11).toInt ≤ 400) (hk : (A 3 (F 11).toInt.toNat).toInt = k.toInt) : d_is F A J k = some 1 := by
  unfold d_is
  rw [i_nne.mpr (by rw [i_0]; exact h), cond_false, m_ld_in t0 (by omega), Option.bind_some, i_nne.mpr hk, cond_false]
theorem d_fail_0 (h : (F 13).toInt = 0) (t0 : 0 ≤ (F 11).toInt) (t1 : (F 11).toInt ≤ 400) : ∃ F', d_fail F A J k = some ((), F', A, J) ∧ F' 13 = k ∧ FrM F F' ∧ F' 11 = F 11 := by
  unfold d_fail
  rw [i_le.mpr (by rw [i_0]; omega), cond_true]
  obtain ⟨F3, e3⟩ : ∃ F3, m_pf F 13 k = some F3 := ⟨_, rfl⟩
  have U3 := gg_pf e3
  rw [e3, Option.bind_some]
  have e11 : F3 11 = F 11 := U3.2 11 (by decide)
  rw [e11, m_ld_in t0 (by omega), Option.bind_some]
  obtain ⟨F4, e4⟩ : ∃ F4, m_pf F3 14 (A 4 (F 11).toInt.toNat) = some F4 := ⟨_, rfl⟩
  rw [e4, Option.bind_some]
  have U4 := gg_pf e4
  exact ⟨F4, rfl, by rw [U4.2 13 (by decide), U3.1], fun q a b c d e => by rw [U4.2 q c, U3.2 q b], by rw [U4.2 11 (by decide), e11]⟩
theorem d_goes_1 (t0 : 0 ≤ (F 11).toInt) (t1 : (F 11).toInt < 400) : ∃ F', d_goesOn F A J = some ((), F', A, J) ∧ F' 11 = F 11 + 1 ∧ (∀ q, q ≠ 11 → F' q = F q) := by
  unfold d_goesOn
  rw [i_ne.mpr (by rw [i_400]; omega), cond_true]
  obtain ⟨F3, e3⟩ : ∃ F3, m_pf F 11 (F 11 + 1) = some F3 := ⟨_, rfl⟩
  have U3 := gg_pf e3
  rw [e3, Option.bind_some]
  exact ⟨F3, rfl, U3.1, U3.2⟩
theorem d_goes_2 (h : (F 13).toInt = 0) (t1 : (F 11).toInt = 400) : ∃ F', d_goesOn F A J = some ((), F', A, J) ∧ F' 13 = 2 ∧ FrM F F' := by
  unfold d_goesOn
  rw [i_nne.mpr (by rw [i_400]; omega), cond_false]
  obtain ⟨F', e, h1, h2, _⟩ := d_fail_0 (A := A) (J := J) (k := 2) h (by omega) (by omega)
  rw [e, Option.bind_some]
  exact ⟨F', rfl, h1, h2⟩
theorem d_goes_ff (h : 0 < (F 13).toInt) : ∃ F', d_goesOn F A J = some ((), F', A, J) ∧ F' 13 = F 13 ∧ FrM F F' := by
  unfold d_goesOn
  by_cases c : g_cnd .ne (F 11) 400 = true
  · rw [c, cond_true]
    obtain ⟨F3, e3⟩ : ∃ F3, m_pf F 11 (F 11 + 1) = some F3 := ⟨_, rfl⟩
    have U3 := gg_pf e3
    rw [e3, Option.bind_some]
    exact ⟨F3, rfl, U3.2 13 (by decide), fun q a _ _ _ _ => U3.2 q a⟩
  · rw [Bool.not_eq_true] at c
    rw [c, cond_false, d_fail_ff h, Option.bind_some]
    exact ⟨F, rfl, rfl, FrM.rfl'⟩
theorem d_must_0 (h : (F 13).toInt = 0) (t0 : 0 ≤ (F 11).toInt) (t1 : (F 11).toInt ≤ 400) (hk : (A 3 (F 11).toInt.toNat).toInt ≠ k.toInt) : ∃ F', d_must F A J k = some ((), F', A, J) ∧ F' 13 = 1 ∧ FrM F F' := by
  unfold d_must
  rw [d_is_0 h t0 t1 hk, Option.bind_some, i_eq.mpr rfl, cond_true]
  obtain ⟨F', e, h1, h2, _⟩ := d_fail_0 (A := A) (J := J) (k := 1) h t0 t1
  rw [e, Option.bind_some]
  exact ⟨F', rfl, h1, h2⟩
theorem d_must_1 (h : (F 13).toInt = 0) (t0 : 0 ≤ (F 11).toInt) (t1 : (F 11).toInt < 400) (hk : (A 3 (F 11).toInt.toNat).toInt = k.toInt) : ∃ F', d_must F A J k = some ((), F', A, J) ∧ F' 11 = F 11 + 1 ∧ (∀ q, q ≠ 11 → F' q = F q) := by
  unfold d_must
  rw [d_is_1 h t0 (by omega) hk, Option.bind_some, i_neq.mpr (by decide), cond_false]
  obtain ⟨F', e, h1, h2⟩ := d_goes_1 (F := F) (A := A) (J := J) t0 t1
  rw [e, Option.bind_some]
  exact ⟨F', rfl, h1, h2⟩
theorem d_must_2 (h : (F 13).toInt = 0) (t1 : (F 11).toInt = 400) (hk : (A 3 (F 11).toInt.toNat).toInt = k.toInt) : ∃ F', d_must F A J k = some ((), F', A, J) ∧ F' 13 = 2 ∧ FrM F F' := by
  unfold d_must
  rw [d_is_1 h (by omega) (by omega) hk, Option.bind_some, i_neq.mpr (by decide), cond_false]
  obtain ⟨F', e, h1, h2⟩ := d_goes_2 (A := A) (J := J) h t1
  rw [e, Option.bind_some]
  exact ⟨F', rfl, h1, h2⟩
end TKM
section TKR
variable {T : TS} {P : Nat → Nat → Nat} {F : Nat → Nat → Int32} {A : Nat → Nat → Nat → Int32} {J : Nat → Nat → Nat → Int64} {Fm : Nat → Int32} {Am : Nat → Nat → Int32} {Jm : Nat → Nat → Int64} {k k' : Int32}
/-- one token on -/
def RU (T : TS) (F F' : Nat → Nat → Int32) (Fm Fm' : Nat → Int32) : Prop := (RT T F' Fm') ∧ (F' 37 8 = Fm 11) ∧ ((Fm' 11).toInt = (Fm 11).toInt + 1) ∧ (∀ r q, ¬ (r = 37 ∧ (q = 7 ∨ q = 8)) → F' r q = F r q) ∧ (∀ q, q ≠ 11 → Fm' q = Fm q)
theorem RU.rt {T : TS} {F F' : Nat → Nat → Int32} {Fm Fm' : Nat → Int32} (h_ : RU T F F' Fm Fm') : RT T F' Fm' := h_.1
theorem RU.c8 {T : TS} {F F' : Nat → Nat → Int32} {Fm Fm' : Nat → Int32} (h_ : RU T F F' Fm Fm') : F' 37 8 = Fm 11 := h_.2.1
theorem RU.m1 {T : TS} {F F' : Nat → Nat → Int32} {Fm Fm' : Nat → Int32} (h_ : RU T F F' Fm Fm') : (Fm' 11).toInt = (Fm 11).toInt + 1 := h_.2.2.1
theorem RU.fc {T : TS} {F F' : Nat → Nat → Int32} {Fm Fm' : Nat → Int32} (h_ : RU T F F' Fm Fm') : ∀ r q, ¬ (r = 37 ∧ (q = 7 ∨ q = 8)) → F' r q = F r q := h_.2.2.2.1
theorem RU.fm {T : TS} {F F' : Nat → Nat → Int32} {Fm Fm' : Nat → Int32} (h_ : RU T F F' Fm Fm') : ∀ q, q ≠ 11 → Fm' q = Fm q := h_.2.2.2.2
theorem RU.c {F' : Nat → Nat → Int32} {Fm' : Nat → Int32} (U : RU T F F' Fm Fm') : FrC F F' := fun r q h => U.fc r q (by omega)
theorem RU.m {F' : Nat → Nat → Int32} {Fm' : Nat → Int32} (U : RU T F F' Fm Fm') : FrM Fm Fm' := fun q h _ _ _ _ => U.fm q h
theorem RT.on (K : TKs T) (R : RT T F Fm) (hl : T.lv (Fm 11).toInt.toNat) (t1 : (Fm 11).toInt < 400) {F' : Nat → Nat → Int32} {Fm' : Nat → Int32} (e7 : F' 37 7 = F 37 7 + 1) (e8 : F' 37 8 = F 37 7) (fc : ∀ r q, ¬ (r = 37 ∧ (q = 7 ∨ q = 8)) → F' r q = F r q) (e11 : Fm' 11 = Fm 11 + 1) (fm : ∀ q, q ≠ 11 → Fm' q = Fm q) : RU T F F' Fm Fm' := by
  have m1 : (Fm' 11).toInt = (Fm 11).toInt + 1 := by
    have t0 := R.t0
    have l1 := i_1
    rw [e11, i_add (by omega) (by omega), i_1]
  have lv : ∀ j : Nat, (j : Int) < (Fm' 11).toInt → T.lv j := by
    intro j hj
    by_cases e : (j : Int) < (Fm 11).toInt
    · exact R.lv j e
    · have : j = (Fm 11).toInt.toNat := by have t0 := R.t0; omega
      rw [this]; exact hl
  refine ⟨⟨?_, ?_, ?_, ?_, ?_, lv, ?_, ?_⟩, by rw [e8, R.tk], m1, fc, fm⟩
  · rw [fc 37 10 (by decide)]; exact R.f0
  · rw [fm 13 (by decide)]; exact R.g0
  · rw [e7, e11, R.tk]
  · have := R.t0; omega
  · omega
  · rw [fc 37 12 (by decide), fm 15 (by decide)]; exact R.lt
  · rw [fm 15 (by decide), fm 16 (by decide)]
    intro h
    have a := R.wp h
    have b := K.up (Fm 11).toInt.toNat (by have := R.t0; omega) (fun j hj => by
      by_cases e : (j : Int) < (Fm 11).toInt
      · exact R.lv j e
      · have : j = (Fm 11).toInt.toNat := by omega
        rw [this]; exact hl)
    have e : (Fm' 11).toInt.toNat = (Fm 11).toInt.toNat + 1 := by have := R.t0; omega
    rw [e]
    omega
theorem RT.kd (K : TKs T) (R : RT T F Fm) (X : RX T A J Am Jm) (hk : KR k.toInt k'.toInt) : (A 37 2 (F 37 7).toInt.toNat).toInt = k.toInt ↔ (Am 3 (Fm 11).toInt.toNat).toInt = k'.toInt := by
  rw [X.a2, X.m3, R.tk]
  exact (K.kd _ (by have := R.t0; have := R.t1; omega) (fun j hj => R.lv j (by omega))).iff hk
/-- take beside must -/
theorem p2_take {γ δ : Type} {Q : γ → δ → Prop} {f} {g} (K : TKs T) (R : RT T F Fm) (X : RX T A J Am Jm) (hk : KR k.toInt k'.toInt) (hl : k'.toInt ≠ 0 ∧ k'.toInt ≠ 3) (ks : ∀ F' Fm', RU T F F' Fm Fm' → (T.kr (Fm 11).toInt.toNat).toInt = k'.toInt → P2 (f (1, P, F', A, J)) (g ((), Fm', Am, Jm)) Q) (kf : ∀ F' Fm', FrC F F' → FrM Fm Fm' → FE F' Fm' → ((T.kr (Fm 11).toInt.toNat).toInt = k'.toInt → (Fm' 13).toInt = 2) → P2 (f (0, P, F', A, J)) (g ((), Fm', Am, Jm)) Q) : P2 (α := γ) (β := δ) ((e_Reader_take P F A J k).bind f) ((d_must Fm Am Jm k').bind g) Q := by
  have t0 := R.t0
  have t1 := R.t1
  have tk := R.tk
  have iff := R.kd K X hk
  by_cases hm : (Am 3 (Fm 11).toInt.toNat).toInt = k'.toInt
  · by_cases h4 : (Fm 11).toInt < 400
    · obtain ⟨F', e, h7, h8, fc⟩ := e_take_1 (P := P) (J := J) R.f0 (by rw [tk]; exact t0) (by rw [tk]; exact h4) (iff.mpr hm)
      obtain ⟨Fm', e', h11, fm⟩ := d_must_1 (J := Jm) R.g0 t0 h4 hm
      rw [e, e', Option.bind_some, Option.bind_some]
      have hm' : (T.kr (Fm 11).toInt.toNat).toInt = k'.toInt := by rw [← X.m3]; exact hm
      exact ks F' Fm' (R.on K (by unfold TS.lv; rw [hm']; exact hl) h4 h7 h8 fc h11 fm) hm'
    · obtain ⟨F', e, h1, h2⟩ := e_take_2 (P := P) (J := J) R.f0 (by rw [tk]; omega) (iff.mpr hm)
      obtain ⟨Fm', e', h1', h2'⟩ := d_must_2 (J := Jm) R.g0 (by omega) hm
      rw [e, e', Option.bind_some, Option.bind_some]
      exact kf F' Fm' h2 h2' ⟨by rw [h1, h1'], by rw [h1']; decide⟩ (fun _ => by rw [h1']; decide)
  · obtain ⟨F', e, h1, h2⟩ := e_take_0 (P := P) (J := J) R.f0 (by rw [tk]; exact t0) (by rw [tk]; exact t1) (fun h => hm (iff.mp h))
    obtain ⟨Fm', e', h1', h2'⟩ := d_must_0 (J := Jm) R.g0 t0 t1 hm
    rw [e, e', Option.bind_some, Option.bind_some]
    exact kf F' Fm' h2 h2' ⟨by rw [h1, h1'], by rw [h1']; decide⟩ (fun h => absurd (by rw [X.m3]; exact h) hm)
/-- take, where the kind has been looked at, beside goesOn -/
theorem p2_goes {γ δ : Type} {Q : γ → δ → Prop} {f} {g} (K : TKs T) (R : RT T F Fm) (X : RX T A J Am Jm) (hk : KR k.toInt k'.toInt) (hl : k'.toInt ≠ 0 ∧ k'.toInt ≠ 3) (hm : (Am 3 (Fm 11).toInt.toNat).toInt = k'.toInt) (ks : ∀ F' Fm', RU T F F' Fm Fm' → P2 (f (1, P, F', A, J)) (g ((), Fm', Am, Jm)) Q) (kf : ∀ F' Fm', FrC F F' → FrM Fm Fm' → FE F' Fm' → P2 (f (0, P, F', A, J)) (g ((), Fm', Am, Jm)) Q) : P2 (α := γ) (β := δ) ((e_Reader_take P F A J k).bind f) ((d_goesOn Fm Am Jm).bind g) Q := by
  have t0 := R.t0
  have t1 := R.t1
  have tk := R.tk
  have iff := R.kd K X hk
  by_cases h4 : (Fm 11).toInt < 400
  · obtain ⟨F', e, h7, h8, fc⟩ := e_take_1 (P := P) (J := J) R.f0 (by rw [tk]; exact t0) (by rw [tk]; exact h4) (iff.mpr hm)
    obtain ⟨Fm', e', h11, fm⟩ := d_goes_1 (A := Am) (J := Jm) t0 h4
    rw [e, e', Option.bind_some, Option.bind_some]
    have hm' : (T.kr (Fm 11).toInt.toNat).toInt = k'.toInt := by rw [← X.m3]; exact hm
    exact ks F' Fm' (R.on K (by unfold TS.lv; rw [hm']; exact hl) h4 h7 h8 fc h11 fm)
  · obtain ⟨F', e, h1, h2⟩ := e_take_2 (P := P) (J := J) R.f0 (by rw [tk]; omega) (iff.mpr hm)
    obtain ⟨Fm', e', h1', h2'⟩ := d_goes_2 (A := Am) (J := Jm) R.g0 (by omega)
    rw [e, e', Option.bind_some, Option.bind_some]
    exact kf F' Fm' h2 h2' ⟨by rw [h1, h1'], by rw [h1']; decide⟩
/-- isNext beside is -/
theorem p2_next {γ δ : Type} {Q : γ → δ → Prop} {f} {g} (K : TKs T) (R : RT T F Fm) (X : RX T A J Am Jm) (hk : KR k.toInt k'.toInt) (ky : (Am 3 (Fm 11).toInt.toNat).toInt = k'.toInt → P2 (f 1) (g 1) Q) (kn : (Am 3 (Fm 11).toInt.toNat).toInt ≠ k'.toInt → P2 (f 0) (g 0) Q) : P2 (α := γ) (β := δ) ((e_Reader_isNext P F A J k).bind f) ((d_is Fm Am Jm k').bind g) Q := by
  have t0 := R.t0
  have t1 := R.t1
  have tk := R.tk
  have iff := R.kd K X hk
  by_cases hm : (Am 3 (Fm 11).toInt.toNat).toInt = k'.toInt
  · rw [e_next_1 R.f0 (by rw [tk]; exact t0) (by rw [tk]; exact t1) (iff.mpr hm), d_is_1 R.g0 t0 t1 hm]
    exact ky hm
  · rw [e_next_0 R.f0 (by rw [tk]; exact t0) (by rw [tk]; exact t1) (fun h => hm (iff.mp h)), d_is_0 R.g0 t0 t1 hm]
    exact kn hm
end TKR
end Qz95
section Qz96
/-! names: the class's rows beside the reference's list -/
def cq (q : Nat) : Nat := if q = 0 then 13 else 14 + q
def ql (q : Nat) : Nat := if q = 0 then 8 else 6
def NR (d : Nat) (F : Nat → Nat → Int32) (J : Nat → Nat → Nat → Int64) (Fm : Nat → Int32) (Am : Nat → Nat → Int32) (Jm : Nat → Nat → Int64) : Prop := (0 ≤ (Fm 20).toInt) ∧ (∀ q : Nat, q < 4 → 0 ≤ (F d (cq q)).toInt ∧ (F d (cq q)).toInt ≤ (ql q : Int)) ∧ (∀ k : Nat, (k : Int) < (Fm 20).toInt → ∃ q : Nat, q < 4 ∧ (Am 9 k).toInt = q ∧ 0 ≤ (Am 10 k).toInt ∧ (Am 10 k).toInt < (F d (cq q)).toInt ∧ TNi (J 37 (7 + q) (Am 10 k).toInt.toNat).toInt (Jm 8 k).toInt) ∧ (∀ q : Nat, q < 4 → ∀ i : Int, 0 ≤ i → i < (F d (cq q)).toInt → ∃ k : Nat, (k : Int) < (Fm 20).toInt ∧ (Am 9 k).toInt = q ∧ (Am 10 k).toInt = i) ∧ (∀ k k' : Nat, k < k' → (k' : Int) < (Fm 20).toInt → (Am 9 k).toInt = (Am 9 k').toInt → (Am 10 k).toInt < (Am 10 k').toInt)
theorem NR.n0 {d : Nat} {F : Nat → Nat → Int32} {J : Nat → Nat → Nat → Int64} {Fm : Nat → Int32} {Am : Nat → Nat → Int32} {Jm : Nat → Nat → Int64} (h_ : NR d F J Fm Am Jm) : 0 ≤ (Fm 20).toInt := h_.1
theorem NR.bd {d : Nat} {F : Nat → Nat → Int32} {J : Nat → Nat → Nat → Int64} {Fm : Nat → Int32} {Am : Nat → Nat → Int32} {Jm : Nat → Nat → Int64} (h_ : NR d F J Fm Am Jm) : ∀ q : Nat, q < 4 → 0 ≤ (F d (cq q)).toInt ∧ (F d (cq q)).toInt ≤ (ql q : Int) := h_.2.1
theorem NR.na {d : Nat} {F : Nat → Nat → Int32} {J : Nat → Nat → Nat → Int64} {Fm : Nat → Int32} {Am : Nat → Nat → Int32} {Jm : Nat → Nat → Int64} (h_ : NR d F J Fm Am Jm) : ∀ k : Nat, (k : Int) < (Fm 20).toInt → ∃ q : Nat, q < 4 ∧ (Am 9 k).toInt = q ∧ 0 ≤ (Am 10 k).toInt ∧ (Am 10 k).toInt < (F d (cq q)).toInt ∧ TNi (J 37 (7 + q) (Am 10 k).toInt.toNat).toInt (Jm 8 k).toInt := h_.2.2.1
theorem NR.nb {d : Nat} {F : Nat → Nat → Int32} {J : Nat → Nat → Nat → Int64} {Fm : Nat → Int32} {Am : Nat → Nat → Int32} {Jm : Nat → Nat → Int64} (h_ : NR d F J Fm Am Jm) : ∀ q : Nat, q < 4 → ∀ i : Int, 0 ≤ i → i < (F d (cq q)).toInt → ∃ k : Nat, (k : Int) < (Fm 20).toInt ∧ (Am 9 k).toInt = q ∧ (Am 10 k).toInt = i := h_.2.2.2.1
theorem NR.nc {d : Nat} {F : Nat → Nat → Int32} {J : Nat → Nat → Nat → Int64} {Fm : Nat → Int32} {Am : Nat → Nat → Int32} {Jm : Nat → Nat → Int64} (h_ : NR d F J Fm Am Jm) : ∀ k k' : Nat, k < k' → (k' : Int) < (Fm 20).toInt → (Am 9 k).toInt = (Am 9 k').toInt → (Am 10 k).toInt < (Am 10 k').toInt := h_.2.2.2.2
theorem NR.fr {d : Nat} {F F' : Nat → Nat → Int32} {J J' : Nat → Nat → Nat → Int64} {Fm Fm' : Nat → Int32} {Am Am' : Nat → Nat → Int32} {Jm Jm' : Nat → Nat → Int64} (h : NR d F J Fm Am Jm) (hF : ∀ q, q < 4 → F' d (cq q) = F d (cq q)) (hJ : ∀ q, q < 4 → J' 37 (7 + q) = J 37 (7 + q)) (h20 : Fm' 20 = Fm 20) (h9 : Am' 9 = Am 9) (h10 : Am' 10 = Am 10) (h8 : Jm' 8 = Jm 8) : NR d F' J' Fm' Am' Jm' := by
  refine ⟨by rw [h20]; exact h.n0, fun q hq => by rw [hF q hq]; exact h.bd q hq, fun k hk => ?_, fun q hq i i0 i1 => ?_, fun k k' a b => ?_⟩
  · rw [h20] at hk
    obtain ⟨q, hq, z⟩ := h.na k hk
    exact ⟨q, hq, by rw [h9, h10, hF q hq, hJ q hq, h8]; exact z⟩
  · rw [hF q hq] at i1
    rw [h20, h9, h10]
    exact h.nb q hq i i0 i1
  · rw [h20] at b
    rw [h9, h10]
    exact h.nc k k' a b
theorem l_cmp {x y : Int64} : g_cnd .ne (lg_cmp x y) 0 = true ↔ x ≠ y := by
  rw [i_ne, i_0]
  unfold lg_cmp
  split
  · next h =>
    have : x ≠ y := by
      rintro rfl
      exact absurd h (by rw [gt_iff_lt, Int64.lt_iff_toInt_lt]; omega)
    exact ⟨fun _ => this, fun _ => by decide⟩
  · split
    · next h => exact ⟨fun e => absurd rfl e, fun e => absurd h e⟩
    · next h => exact ⟨fun _ => h, fun _ => by decide⟩
theorem l_ncmp {x y : Int64} : g_cnd .ne (lg_cmp x y) 0 = false ↔ x = y := by
  rw [← Bool.not_eq_true, l_cmp]
  exact Decidable.not_not
/-- the class's find over any of its rows -/
def gfind (o len : Nat) : Nat → (Nat → Nat → Nat → Int64) → Int64 → Int32 → Int32 → Option Int32
  | 0, _, _, _, _ => none
  | n + 1, J, x0, x3, x4 => cond (g_cnd .ge x4 x3)
    (some (-1))
    (cond (g_cnd .ge x4 (Int32.ofNat len))
    (some (-1))
    ((m_ldJ (J 37 o) len x4).bind fun v3 =>
    cond (g_cnd .ne (lg_cmp v3 x0) 0)
    (gfind o len n J x0 x3 (x4 + 1))
    (some x4)))
section FN
variable {P : Nat → Nat → Nat} {F : Nat → Nat → Int32} {A : Nat → Nat → Nat → Int32} {J : Nat → Nat → Nat → Int64} {n : Nat} {x0 : Int64} {x3 : Int32}
theorem find0_g : ∀ {n : Nat} {x4 : Int32}, e_Reader_find_3 n P F A J x0 x3 x4 = gfind 7 8 n J x0 x3 x4 := by
  intro n
  induction n with
  | zero => intro x4; rfl
  | succ n ih => intro x4; unfold e_Reader_find_3 gfind; simp only [ih]
theorem find1_g : ∀ {n : Nat} {x4 : Int32}, e_Reader_find_v1_3 n P F A J x0 x3 x4 = gfind 8 6 n J x0 x3 x4 := by
  intro n
  induction n with
  | zero => intro x4; rfl
  | succ n ih => intro x4; unfold e_Reader_find_v1_3 gfind; simp only [ih]
theorem find2_g : ∀ {n : Nat} {x4 : Int32}, e_Reader_find_v2_3 n P F A J x0 x3 x4 = gfind 9 6 n J x0 x3 x4 := by
  intro n
  induction n with
  | zero => intro x4; rfl
  | succ n ih => intro x4; unfold e_Reader_find_v2_3 gfind; simp only [ih]
theorem find3_g : ∀ {n : Nat} {x4 : Int32}, e_Reader_find_v3_3 n P F A J x0 x3 x4 = gfind 10 6 n J x0 x3 x4 := by
  intro n
  induction n with
  | zero => intro x4; rfl
  | succ n ih => intro x4; unfold e_Reader_find_v3_3 gfind; simp only [ih]
def findq (q : Nat) (n : Nat) (J : Nat → Nat → Nat → Int64) (x0 : Int64) (x3 : Int32) : Option Int32 := gfind (7 + q) (ql q) n J x0 x3 0
theorem find0_q : e_Reader_find n P F A J x0 x3 = findq 0 n J x0 x3 := find0_g
theorem find1_q : e_Reader_find_v1 n P F A J x0 x3 = findq 1 n J x0 x3 := find1_g
theorem find2_q : e_Reader_find_v2 n P F A J x0 x3 = findq 2 n J x0 x3 := find2_g
theorem find3_q : e_Reader_find_v3 n P F A J x0 x3 = findq 3 n J x0 x3 := find3_g
/-- what find answers -/
def FDq (q : Nat) (J : Nat → Nat → Nat → Int64) (x0 : Int64) (c : Int) (v : Int32) : Prop := (0 ≤ v.toInt ∧ v.toInt < c ∧ J 37 (7 + q) v.toInt.toNat = x0 ∧ ∀ j : Int, 0 ≤ j → j < v.toInt → J 37 (7 + q) j.toNat ≠ x0) ∨ (v = -1 ∧ ∀ j : Int, 0 ≤ j → j < c → J 37 (7 + q) j.toNat ≠ x0)
theorem gfind_s {o len : Nat} (hl : len ≤ 8) (hx : x3.toInt ≤ (len : Int)) : ∀ {n : Nat} {x4 : Int32}, 0 ≤ x4.toInt → (∀ j : Int, 0 ≤ j → j < x4.toInt → J 37 o j.toNat ≠ x0) → po (gfind o len n J x0 x3 x4) (fun v => (0 ≤ v.toInt ∧ v.toInt < x3.toInt ∧ J 37 o v.toInt.toNat = x0 ∧ ∀ j : Int, 0 ≤ j → j < v.toInt → J 37 o j.toNat ≠ x0) ∨ (v = -1 ∧ ∀ j : Int, 0 ≤ j → j < x3.toInt → J 37 o j.toNat ≠ x0)) := by
  intro n
  induction n with
  | zero => intro x4 _ _ v hv; cases hv
  | succ n ih =>
    intro x4 h4 hb
    unfold gfind
    refine po_cond (fun c => ?_) (fun c => ?_)
    · rw [i_ge] at c
      exact po_some (.inr ⟨rfl, fun j a b => hb j a (by omega)⟩)
    · rw [i_nge] at c
      have e : (Int32.ofNat len).toInt = len := by
        rcases (by omega : len = 0 ∨ len = 1 ∨ len = 2 ∨ len = 3 ∨ len = 4 ∨ len = 5 ∨ len = 6 ∨ len = 7 ∨ len = 8) with h | h | h | h | h | h | h | h | h <;> subst h <;> decide
      refine po_cond (fun c2 => ?_) (fun c2 => ?_)
      · rw [i_ge, e] at c2
        omega
      · refine po_call (R := fun v => v = J 37 o x4.toInt.toNat) (fun v hv => (gg_ldJ hv).2.2) ?_
        rintro v rfl
        refine po_cond (fun c3 => ?_) (fun c3 => ?_)
        · rw [l_cmp] at c3
          have l1 := i_1
          have e1 := i_add (x := x4) (y := 1) (by omega) (by omega)
          exact ih (by omega) (fun j a b => by
            by_cases h : j < x4.toInt
            · exact hb j a h
            · have : j = x4.toInt := by omega
              rw [this]; exact c3)
        · rw [l_ncmp] at c3
          exact po_some (.inl ⟨h4, c, c3, hb⟩)
theorem findq_s {q : Nat} (hx : x3.toInt ≤ (ql q : Int)) : po (findq q n J x0 x3) (FDq q J x0 x3.toInt) :=
  gfind_s (by unfold ql; split <;> decide) hx (by decide) (fun j a b => by rw [i_0] at b; omega)
end FN
section NMS
variable {F : Nat → Int32} {A : Nat → Nat → Int32} {J : Nat → Nat → Int64} {k : Int32}
/-! the reference's wrong -/
theorem d_wrong_0 {x : Int32} (h : (F 13).toInt = 0) (h0 : 0 ≤ x.toInt) (h1 : x.toInt < 403) (hw : (F 15).toInt = 0) : ∃ F', d_wrong F A J k x = some ((), F', A, J) ∧ F' 15 = k ∧ F' 16 = A 4 x.toInt.toNat ∧ (∀ q, q ≠ 15 → q ≠ 16 → F' q = F q) := by
  unfold d_wrong
  rw [m_ld_in h0 (by omega), Option.bind_some, i_ngt.mpr (by rw [i_0]; omega), cond_false, i_eq.mpr (by rw [i_0]; exact hw), cond_true]
  unfold d_wrong_46
  obtain ⟨F3, e3⟩ : ∃ F3, m_pf F 15 k = some F3 := ⟨_, rfl⟩
  rw [e3, Option.bind_some]
  obtain ⟨F4, e4⟩ : ∃ F4, m_pf F3 16 (A 4 x.toInt.toNat) = some F4 := ⟨_, rfl⟩
  rw [e4, Option.bind_some]
  have U3 := gg_pf e3
  have U4 := gg_pf e4
  exact ⟨F4, rfl, by rw [U4.2 15 (by decide), U3.1], U4.1, fun q a b => by rw [U4.2 q b, U3.2 q a]⟩
theorem d_wrong_n {x : Int32} (h : (F 13).toInt = 0) (h0 : 0 ≤ x.toInt) (h1 : x.toInt < 403) (hw : (F 15).toInt ≠ 0) (hp : (F 16).toInt < (A 4 x.toInt.toNat).toInt ∨ ((F 16).toInt = (A 4 x.toInt.toNat).toInt ∧ (F 15).toInt ≤ k.toInt)) : d_wrong F A J k x = some ((), F, A, J) := by
  unfold d_wrong
  rw [m_ld_in h0 (by omega), Option.bind_some, i_ngt.mpr (by rw [i_0]; omega), cond_false, i_neq.mpr (by rw [i_0]; exact hw), cond_false]
  rcases hp with hp | hp
  · rw [i_gt.mpr hp, cond_true]
  · rw [i_ngt.mpr (by omega), cond_false, i_nne.mpr hp.1.symm, cond_false, i_nlt.mpr hp.2, cond_false]
theorem d_wrong_po {x : Int32} : po (d_wrong F A J k x) (fun r => r.2.2.1 = A ∧ r.2.2.2 = J) := by
  have z : ∀ v, po (d_wrong_46 F A J k v) (fun r => r.2.2.1 = A ∧ r.2.2.2 = J) := by
    intro v
    unfold d_wrong_46
    exact po_bl (fun _ _ => po_bl (fun _ _ => po_some ⟨rfl, rfl⟩))
  unfold d_wrong
  refine po_bl (fun v _ => ?_)
  exact po_cond (fun _ => po_some ⟨rfl, rfl⟩) (fun _ => po_cond (fun _ => z v) (fun _ => po_cond (fun _ => po_some ⟨rfl, rfl⟩) (fun _ => po_cond (fun _ => z v) (fun _ => po_cond (fun _ => z v) (fun _ => po_some ⟨rfl, rfl⟩)))))
/-! the reference's list: what is found there -/
theorem d_known_s {x1 x2 : Int32} (h : (F 13).toInt = 0) (hx0 : 0 ≤ x2.toInt) (hx1 : x2.toInt < 403) : ∀ {n : Nat} {x3 : Int32}, 0 ≤ x3.toInt → (∀ j : Nat, (j : Int) < x3.toInt → ¬ (J 8 j = J 6 x2.toInt.toNat ∧ (A 9 j).toInt = x1.toInt)) → po (d_known_21 n F A J x1 x2 x3) (fun r => (∃ j : Nat, (j : Int) < (F 20).toInt ∧ J 8 j = J 6 x2.toInt.toNat ∧ (A 9 j).toInt = x1.toInt ∧ (∀ i : Nat, i < j → ¬ (J 8 i = J 6 x2.toInt.toNat ∧ (A 9 i).toInt = x1.toInt)) ∧ r = (A 10 j, F, A, J)) ∨ ((∀ j : Nat, (j : Int) < (F 20).toInt → ¬ (J 8 j = J 6 x2.toInt.toNat ∧ (A 9 j).toInt = x1.toInt)) ∧ ∃ F', d_wrong F A J 4 x2 = some ((), F', A, J) ∧ r = (-1, F', A, J))) := by
  intro n
  induction n with
  | zero => intro x3 _ _ r hr; cases hr
  | succ n ih =>
    intro x3 h3 hb
    have next : ¬ (J 8 x3.toInt.toNat = J 6 x2.toInt.toNat ∧ (A 9 x3.toInt.toNat).toInt = x1.toInt) → x3.toInt < 32 → po (d_known_62 (d_known_21 n) n F A J x1 x2 x3) (fun r => (∃ j : Nat, (j : Int) < (F 20).toInt ∧ J 8 j = J 6 x2.toInt.toNat ∧ (A 9 j).toInt = x1.toInt ∧ (∀ i : Nat, i < j → ¬ (J 8 i = J 6 x2.toInt.toNat ∧ (A 9 i).toInt = x1.toInt)) ∧ r = (A 10 j, F, A, J)) ∨ ((∀ j : Nat, (j : Int) < (F 20).toInt → ¬ (J 8 j = J 6 x2.toInt.toNat ∧ (A 9 j).toInt = x1.toInt)) ∧ ∃ F', d_wrong F A J 4 x2 = some ((), F', A, J) ∧ r = (-1, F', A, J))) := by
      intro hn h32
      unfold d_known_62
      have l1 := i_1
      have e1 := i_add (x := x3) (y := 1) (by omega) (by omega)
      refine ih (by omega) (fun j hj => ?_)
      by_cases hlt : (j : Int) < x3.toInt
      · exact hb j hlt
      · have : j = x3.toInt.toNat := by omega
        rw [this]; exact hn
    unfold d_known_21
    refine po_cond (fun c => ?_) (fun c => ?_)
    · rw [i_ge] at c
      have hb' : ∀ j : Nat, (j : Int) < (F 20).toInt → ¬ (J 8 j = J 6 x2.toInt.toNat ∧ (A 9 j).toInt = x1.toInt) := fun j hj => hb j (by omega)
      by_cases hw : (F 15).toInt = 0
      · obtain ⟨F', e, -⟩ := d_wrong_0 (A := A) (J := J) (k := 4) h hx0 hx1 hw
        rw [e, Option.bind_some]
        exact po_some (.inr ⟨hb', F', rfl, rfl⟩)
      · intro r hr
        obtain ⟨⟨u, F', A', J'⟩, e, hr⟩ := Option.bind_eq_some_iff.mp hr
        dsimp only at hr
        cases hr
        have := d_wrong_po _ e
        dsimp only at this
        obtain ⟨rfl, rfl⟩ := this
        exact .inr ⟨hb', F', e, rfl⟩
    · rw [i_nge] at c
      refine po_call (R := fun v => v = J 8 x3.toInt.toNat ∧ x3.toInt < 32) (fun v hv => ⟨(gg_ldJ hv).2.2, (gg_ldJ hv).2.1⟩) ?_
      rintro v ⟨rfl, h32⟩
      rw [m_ldJ_in hx0 (by omega), Option.bind_some]
      refine po_cond (fun c1 => ?_) (fun c1 => ?_)
      · rw [l_cmp] at c1
        exact next (fun e => c1 e.1) h32
      · rw [l_ncmp] at c1
        rw [m_ld_in h3 (by omega), Option.bind_some]
        refine po_cond (fun c2 => ?_) (fun c2 => ?_)
        · rw [i_ne] at c2
          exact next (fun e => c2 e.2) h32
        · rw [i_nne] at c2
          rw [m_ld_in h3 (by omega), Option.bind_some]
          exact po_some (.inl ⟨x3.toInt.toNat, by omega, c1, c2, fun i hi => hb i (by omega), rfl⟩)
/-- all names that are there are looked at -/
theorem d_named_s {x1 : Int32} (h : (F 13).toInt = 0) (hx0 : 0 ≤ x1.toInt) (hx1 : x1.toInt < 403) : ∀ {n : Nat} {x2 : Int32} {F' : Nat → Int32}, 0 ≤ x2.toInt → (∀ q, q ≠ 15 → q ≠ 16 → F' q = F q) → (((∀ j : Nat, (j : Int) < x2.toInt → J 8 j ≠ J 6 x1.toInt.toNat) ∧ F' = F) ∨ (∃ j : Nat, (j : Int) < (F 20).toInt ∧ J 8 j = J 6 x1.toInt.toNat) ∧ d_wrong F A J 3 x1 = some ((), F', A, J) ∧ (F' 15).toInt ≠ 0 ∧ ((F' 16).toInt < (A 4 x1.toInt.toNat).toInt ∨ ((F' 16).toInt = (A 4 x1.toInt.toNat).toInt ∧ (F' 15).toInt ≤ 3))) → ((F 15).toInt ≠ 0 → (F 16).toInt < (A 4 x1.toInt.toNat).toInt) → po (d_named_12 n F' A J x1 x2) (fun r => ∃ F'', r = (x1, F'', A, J) ∧ (((∀ j : Nat, (j : Int) < (F 20).toInt → J 8 j ≠ J 6 x1.toInt.toNat) ∧ F'' = F) ∨ (∃ j : Nat, (j : Int) < (F 20).toInt ∧ J 8 j = J 6 x1.toInt.toNat) ∧ d_wrong F A J 3 x1 = some ((), F'', A, J))) := by
  intro n
  induction n with
  | zero => intro x2 F' _ _ _ _ r hr; cases hr
  | succ n ih =>
    intro x2 F' h2 fr hc hw
    have e20 : F' 20 = F 20 := fr 20 (by decide) (by decide)
    have e13 : F' 13 = F 13 := fr 13 (by decide) (by decide)
    unfold d_named_12
    refine po_cond (fun c => ?_) (fun c => ?_)
    · rw [i_ge, e20] at c
      refine po_some ⟨F', rfl, ?_⟩
      rcases hc with ⟨a, b⟩ | ⟨a, b, -⟩
      · exact .inl ⟨fun j hj => a j (by omega), b⟩
      · exact .inr ⟨a, b⟩
    · rw [i_nge, e20] at c
      rw [i_nne.mpr (by rw [e13, i_0]; exact h), cond_false]
      refine po_call (R := fun v => v = J 8 x2.toInt.toNat ∧ x2.toInt < 32) (fun v hv => ⟨(gg_ldJ hv).2.2, (gg_ldJ hv).2.1⟩) ?_
      rintro v ⟨rfl, h32⟩
      rw [m_ldJ_in hx0 (by omega), Option.bind_some]
      have l1 := i_1
      have e1 := i_add (x := x2) (y := 1) (by omega) (by omega)
      refine po_cond (fun c1 => ?_) (fun c1 => ?_)
      · rw [l_cmp] at c1
        unfold d_named_49
        refine ih (by omega) fr ?_ hw
        rcases hc with ⟨a, b⟩ | z
        · refine .inl ⟨fun j hj => ?_, b⟩
          by_cases hlt : (j : Int) < x2.toInt
          · exact a j hlt
          · have : j = x2.toInt.toNat := by omega
            rw [this]; exact c1
        · exact .inr z
      · rw [l_ncmp] at c1
        have ex : ∃ j : Nat, (j : Int) < (F 20).toInt ∧ J 8 j = J 6 x1.toInt.toNat := ⟨x2.toInt.toNat, by omega, c1⟩
        rcases hc with ⟨a, rfl⟩ | ⟨a, b, w0, w1⟩
        · by_cases w : (F' 15).toInt = 0
          · obtain ⟨F2, e, g15, g16, g⟩ := d_wrong_0 (A := A) (J := J) (k := 3) h hx0 hx1 w
            refine po_eq e ?_
            refine ih (x2 := x2 + 1) (by omega) g (.inr ⟨ex, e, ?_, .inr ⟨?_, ?_⟩⟩) hw
            · rw [g15]; decide
            · rw [g16]
            · rw [g15]; decide
          · have e := d_wrong_n (A := A) (J := J) (k := 3) (x := x1) h hx0 hx1 w (.inl (hw w))
            refine po_eq e ?_
            exact ih (x2 := x2 + 1) (by omega) (fun _ _ _ => rfl) (.inr ⟨ex, e, w, .inl (hw w)⟩) hw
        · have e := d_wrong_n (F := F') (A := A) (J := J) (k := 3) (x := x1) (by rw [e13]; exact h) hx0 hx1 w0 w1
          refine po_eq e ?_
          exact ih (x2 := x2 + 1) (by omega) fr (.inr ⟨a, b, w0, w1⟩) hw
end NMS
end Qz96
section Qz97
/-! names and numbers, side by side -/
section A4
variable {T : TS} {d n : Nat} {P : Nat → Nat → Nat} {F F' : Nat → Nat → Int32} {A : Nat → Nat → Nat → Int32} {J : Nat → Nat → Nat → Int64} {Fm Fm' : Nat → Int32} {Am : Nat → Nat → Int32} {Jm : Nat → Nat → Int64} {k k' : Int32} {γ δ : Type} {Q : γ → δ → Prop}
/-- one token on, perhaps with a late fault -/
def RV (T : TS) (F F' : Nat → Nat → Int32) (Fm Fm' : Nat → Int32) : Prop := (RT T F' Fm') ∧ (F' 37 8 = Fm 11) ∧ ((Fm' 11).toInt = (Fm 11).toInt + 1) ∧ (FrC F F') ∧ (FrM Fm Fm')
theorem RV.rt {T : TS} {F F' : Nat → Nat → Int32} {Fm Fm' : Nat → Int32} (h_ : RV T F F' Fm Fm') : RT T F' Fm' := h_.1
theorem RV.c8 {T : TS} {F F' : Nat → Nat → Int32} {Fm Fm' : Nat → Int32} (h_ : RV T F F' Fm Fm') : F' 37 8 = Fm 11 := h_.2.1
theorem RV.m1 {T : TS} {F F' : Nat → Nat → Int32} {Fm Fm' : Nat → Int32} (h_ : RV T F F' Fm Fm') : (Fm' 11).toInt = (Fm 11).toInt + 1 := h_.2.2.1
theorem RV.fc {T : TS} {F F' : Nat → Nat → Int32} {Fm Fm' : Nat → Int32} (h_ : RV T F F' Fm Fm') : FrC F F' := h_.2.2.2.1
theorem RV.fm {T : TS} {F F' : Nat → Nat → Int32} {Fm Fm' : Nat → Int32} (h_ : RV T F F' Fm Fm') : FrM Fm Fm' := h_.2.2.2.2
theorem RU.v (U : RU T F F' Fm Fm') : RV T F F' Fm Fm' := ⟨U.rt, U.c8, U.m1, U.c, U.m⟩
theorem e_late_n (h : (F 37 12).toInt ≠ 0) : e_Reader_failLate P F A J k = some ((), P, F, A, J) := by
  unfold e_Reader_failLate
  rw [i_ne.mpr (by rw [i_0]; exact h), cond_true]
theorem e_late_0 (h : (F 37 12).toInt = 0) (t0 : 0 ≤ (F 37 8).toInt) (t1 : (F 37 8).toInt ≤ 400) : ∃ F', e_Reader_failLate P F A J k = some ((), P, F', A, J) ∧ F' 37 12 = k ∧ (∀ r q, ¬ (r = 37 ∧ (q = 12 ∨ q = 13)) → F' r q = F r q) := by
  unfold e_Reader_failLate
  rw [i_nne.mpr (by rw [i_0]; exact h), cond_false]
  obtain ⟨F3, e3⟩ : ∃ F3, c_pf F 37 12 k = some F3 := ⟨_, rfl⟩
  have U3 := gg_cpf e3
  have e8 : F3 37 8 = F 37 8 := U3.2 37 8 (by decide)
  rw [e3, Option.bind_some, e8, m_ld_in t0 (by omega), Option.bind_some]
  obtain ⟨F4, e4⟩ : ∃ F4, c_pf F3 37 13 (A 37 3 (F 37 8).toInt.toNat) = some F4 := ⟨_, rfl⟩
  rw [e4, Option.bind_some]
  have U4 := gg_cpf e4
  exact ⟨F4, rfl, by rw [U4.2 37 12 (by decide), U3.1], fun r q hn => by rw [U4.2 r q (by omega), U3.2 r q (by omega)]⟩
theorem RT.t4 (K : TKs T) (R : RT T F Fm) (U : RT T F' Fm') (m1 : (Fm' 11).toInt = (Fm 11).toInt + 1) : (T.pr (Fm 11).toInt.toNat).toInt < (T.pr (Fm' 11).toInt.toNat).toInt := by
  have t0 := R.t0
  have t1 := U.t1
  have b := K.up (Fm 11).toInt.toNat (by omega) (fun j hj => U.lv j (by omega))
  have e : (Fm' 11).toInt.toNat = (Fm 11).toInt.toNat + 1 := by omega
  rw [e]
  exact b
theorem RU.late (K : TKs T) (R : RT T F Fm) (U : RU T F F' Fm Fm') (X : RX T A J Am Jm) : ∃ F2 Fm2, e_Reader_failLate P F' A J k = some ((), P, F2, A, J) ∧ d_wrong Fm' Am Jm k (Fm 11) = some ((), Fm2, Am, Jm) ∧ RV T F F2 Fm Fm2 := by
  have t0 := R.t0
  have t1 := R.t1
  have e15 : Fm' 15 = Fm 15 := U.fm 15 (by decide)
  have e16 : Fm' 16 = Fm 16 := U.fm 16 (by decide)
  have e13 : Fm' 13 = Fm 13 := U.fm 13 (by decide)
  have g0 := R.g0
  by_cases w : (Fm 15).toInt = 0
  · obtain ⟨F2, a1, a2, a3⟩ := e_late_0 (P := P) (F := F') (A := A) (J := J) (k := k) (by rw [U.rt.lt, e15]; exact w) (by rw [U.c8]; exact t0) (by rw [U.c8]; exact t1)
    obtain ⟨Fm2, b1, b2, b3, b4⟩ := d_wrong_0 (F := Fm') (A := Am) (J := Jm) (k := k) (x := Fm 11) (by rw [e13]; exact g0) t0 (by omega) (by rw [e15]; exact w)
    have e11 : Fm2 11 = Fm' 11 := b4 11 (by decide) (by decide)
    refine ⟨F2, Fm2, a1, b1, ⟨⟨?_, ?_, ?_, ?_, ?_, ?_, ?_, ?_⟩, ?_, ?_, ?_, ?_⟩⟩
    · rw [a3 37 10 (by decide)]; exact U.rt.f0
    · rw [b4 13 (by decide) (by decide)]; exact U.rt.g0
    · rw [a3 37 7 (by decide), e11]; exact U.rt.tk
    · rw [e11]; exact U.rt.t0
    · rw [e11]; exact U.rt.t1
    · rw [e11]; exact U.rt.lv
    · rw [a2, b2]
    · intro _
      rw [b3, e11, X.m4]
      exact R.t4 K U.rt U.m1
    · rw [a3 37 8 (by decide)]; exact U.c8
    · rw [e11]; exact U.m1
    · exact U.c.tr (fun r q h => a3 r q (by omega))
    · exact U.m.tr (fun q _ _ _ x y => b4 q x y)
  · refine ⟨F', Fm', e_late_n (by rw [U.rt.lt, e15]; exact w), d_wrong_n (by rw [e13]; exact g0) t0 (by omega) (by rw [e15]; exact w) (.inl ?_), U.v⟩
    rw [e16, X.m4]
    exact R.wp w
/-- takeNumber beside bounded -/
theorem p2_num {f} {g} {lo hi : Int32} (K : TKs T) (R : RT T F Fm) (X : RX T A J Am Jm) (ks : ∀ F' Fm', RV T F F' Fm Fm' → (lo.toInt ≤ (T.vr (Fm 11).toInt.toNat).toInt ∧ (T.vr (Fm 11).toInt.toNat).toInt ≤ hi.toInt ∨ (Fm' 15).toInt ≠ 0) → P2 (f (T.vr (Fm 11).toInt.toNat, P, F', A, J)) (g (T.vr (Fm 11).toInt.toNat, Fm', Am, Jm)) Q) (kf : ∀ v F' Fm', FrC F F' → FrM Fm Fm' → FE F' Fm' → P2 (f (lo, P, F', A, J)) (g (v, Fm', Am, Jm)) Q) : P2 (α := γ) (β := δ) ((e_Reader_takeNumber P F A J lo hi).bind f) ((d_bounded Fm Am Jm lo hi).bind g) Q := by
  have t0 := R.t0
  have t1 := R.t1
  have tk := R.tk
  have g0 := R.g0
  have iff := R.kd (k := 101) (k' := 2) K X (by decide)
  unfold e_Reader_takeNumber d_bounded
  rw [i_ngt.mpr (by rw [i_0]; omega), cond_false]
  by_cases hm : (Am 3 (Fm 11).toInt.toNat).toInt = (2 : Int32).toInt
  · have hm' : (T.kr (Fm 11).toInt.toNat).toInt = 2 := by rw [← X.m3]; exact hm
    have hv := K.nu _ (by omega) (fun j hj => R.lv j (by omega)) hm'
    rw [d_is_1 R.g0 t0 t1 hm, Option.bind_some, i_ne.mpr (by decide), cond_true, m_ld_in t0 (by omega), Option.bind_some, X.m5]
    generalize hvv : T.vr (Fm 11).toInt.toNat = v at *
    by_cases h4 : (Fm 11).toInt < 400
    · obtain ⟨F', e, h7, h8, fc⟩ := e_take_1 (P := P) (J := J) R.f0 (by rw [tk]; exact t0) (by rw [tk]; exact h4) (iff.mpr hm)
      rw [e, Option.bind_some]
      dsimp only
      rw [i_ne.mpr (by decide), cond_true, h8, tk, m_ld_in t0 (by omega), Option.bind_some, X.a4, hv]
      have hlv : T.lv (Fm 11).toInt.toNat := by unfold TS.lv; rw [hm']; decide
      have inr : lo.toInt ≤ v.toInt → v.toInt ≤ hi.toInt → P2 ((some (v, P, F', A, J)).bind f) ((d_bounded_51 Fm Am Jm v).bind g) Q := by
        intro h1 h2
        obtain ⟨Fm', e', h11, fm⟩ := d_goes_1 (A := Am) (J := Jm) t0 h4
        unfold d_bounded_51
        rw [e', Option.bind_some, Option.bind_some]
        dsimp only
        rw [Option.bind_some]
        exact ks F' Fm' (R.on K hlv h4 h7 h8 fc h11 fm).v (.inl ⟨h1, h2⟩)
      have out : P2 ((e_Reader_takeNumber_34 P F' A J v).bind f) ((d_bounded_42 Fm Am Jm v).bind g) Q := by
        unfold e_Reader_takeNumber_34 d_bounded_42
        by_cases w : (Fm 15).toInt = 0
        · obtain ⟨Fm1, b1, b2, b3, b4⟩ := d_wrong_0 (F := Fm) (A := Am) (J := Jm) (k := 5) (x := Fm 11) g0 t0 (by omega) w
          have e11 : Fm1 11 = Fm 11 := b4 11 (by decide) (by decide)
          obtain ⟨Fm2, e', h11, fm⟩ := d_goes_1 (F := Fm1) (A := Am) (J := Jm) (by rw [e11]; exact t0) (by rw [e11]; exact h4)
          obtain ⟨F2, a1, a2, a3⟩ := e_late_0 (P := P) (F := F') (A := A) (J := J) (k := 5) (by rw [fc 37 12 (by decide), R.lt]; exact w) (by rw [h8, tk]; exact t0) (by rw [h8, tk]; exact t1)
          rw [b1, Option.bind_some]
          dsimp only
          rw [e', Option.bind_some, a1, Option.bind_some]
          dsimp only
          rw [Option.bind_some, Option.bind_some]
          have l1 := i_1
          have m1 : (Fm2 11).toInt = (Fm 11).toInt + 1 := by rw [h11, e11, i_add (by omega) (by omega), i_1]
          refine ks F2 Fm2 ⟨⟨?_, ?_, ?_, ?_, ?_, ?_, ?_, ?_⟩, ?_, m1, ?_, ?_⟩ (.inr (by rw [fm 15 (by decide), b2]; decide))
          · rw [a3 37 10 (by decide), fc 37 10 (by decide)]; exact R.f0
          · rw [fm 13 (by decide), b4 13 (by decide) (by decide)]; exact g0
          · rw [a3 37 7 (by decide), h7, h11, e11, tk]
          · omega
          · omega
          · intro j hj
            by_cases hlt : (j : Int) < (Fm 11).toInt
            · exact R.lv j hlt
            · have : j = (Fm 11).toInt.toNat := by omega
              rw [this]; exact hlv
          · rw [a2, fm 15 (by decide), b2]
          · intro _
            rw [fm 16 (by decide), b3, X.m4]
            have b := K.up (Fm 11).toInt.toNat (by omega) (fun j hj => by
              by_cases hlt : (j : Int) < (Fm 11).toInt
              · exact R.lv j hlt
              · have : j = (Fm 11).toInt.toNat := by omega
                rw [this]; exact hlv)
            have e : (Fm2 11).toInt.toNat = (Fm 11).toInt.toNat + 1 := by omega
            rw [e]
            exact b
          · rw [a3 37 8 (by decide), h8, tk]
          · exact fun r q h => (a3 r q (by omega)).trans (fc r q (by omega))
          · exact fun q x _ _ y z => (fm q x).trans (b4 q y z)
        · have b1 := d_wrong_n (F := Fm) (A := Am) (J := Jm) (k := 5) (x := Fm 11) g0 t0 (by omega) w (.inl (by rw [X.m4]; exact R.wp w))
          obtain ⟨Fm2, e', h11, fm⟩ := d_goes_1 (A := Am) (J := Jm) t0 h4
          have a1 := e_late_n (P := P) (F := F') (A := A) (J := J) (k := 5) (by rw [fc 37 12 (by decide), R.lt]; exact w)
          rw [b1, Option.bind_some]
          dsimp only
          rw [e', Option.bind_some, a1, Option.bind_some]
          dsimp only
          rw [Option.bind_some, Option.bind_some]
          exact ks F' Fm2 (R.on K hlv h4 h7 h8 fc h11 fm).v (.inr (by rw [fm 15 (by decide)]; exact w))
      by_cases c1 : v.toInt < lo.toInt
      · rw [i_lt.mpr c1, cond_true, cond_true]
        exact out
      · rw [i_nlt.mpr (by omega), cond_false, cond_false]
        by_cases c2 : v.toInt ≤ hi.toInt
        · rw [i_le.mpr c2, cond_true, cond_true]
          exact inr (by omega) c2
        · rw [i_nle.mpr (by omega), cond_false, cond_false]
          exact out
    · obtain ⟨F', e, h1, h2⟩ := e_take_2 (P := P) (J := J) R.f0 (by rw [tk]; omega) (iff.mpr hm)
      rw [e, Option.bind_some]
      dsimp only
      rw [i_nne.mpr rfl, cond_false, Option.bind_some]
      have go : ∀ {Fm1 : Nat → Int32}, Fm1 11 = Fm 11 → (Fm1 13).toInt = 0 → FrM Fm Fm1 → P2 (f (lo, P, F', A, J)) (((d_goesOn Fm1 Am Jm).bind fun (_, F16, A17, J18) => some (v, F16, A17, J18)).bind g) Q := by
        intro Fm1 e11 z fr
        obtain ⟨Fm2, e', h1', h2'⟩ := d_goes_2 (F := Fm1) (A := Am) (J := Jm) z (by rw [e11]; omega)
        rw [e', Option.bind_some]
        dsimp only
        rw [Option.bind_some]
        exact kf v F' Fm2 h2 (fr.tr h2') ⟨by rw [h1, h1'], by rw [h1']; decide⟩
      have out : P2 (f (lo, P, F', A, J)) ((d_bounded_42 Fm Am Jm v).bind g) Q := by
        unfold d_bounded_42
        by_cases w : (Fm 15).toInt = 0
        · obtain ⟨Fm1, b1, b2, b3, b4⟩ := d_wrong_0 (F := Fm) (A := Am) (J := Jm) (k := 5) (x := Fm 11) g0 t0 (by omega) w
          rw [b1, Option.bind_some]
          exact go (b4 11 (by decide) (by decide)) (by rw [b4 13 (by decide) (by decide)]; exact g0) (fun q _ _ _ y z => b4 q y z)
        · rw [d_wrong_n (F := Fm) (A := Am) (J := Jm) (k := 5) (x := Fm 11) g0 t0 (by omega) w (.inl (by rw [X.m4]; exact R.wp w)), Option.bind_some]
          exact go rfl g0 FrM.rfl'
      refine p2_bind_cr ?_ ?_
      · exact fun _ => out
      · refine fun _ => p2_bind_cr ?_ ?_
        · exact fun _ => go rfl g0 FrM.rfl'
        · exact fun _ => out
  · obtain ⟨F', e, h1, h2⟩ := e_take_0 (P := P) (J := J) R.f0 (by rw [tk]; exact t0) (by rw [tk]; exact t1) (fun h => hm (iff.mp h))
    obtain ⟨Fm', e', h1', h2', _⟩ := d_fail_0 (A := Am) (J := Jm) (k := 1) R.g0 t0 t1
    rw [e, Option.bind_some, d_is_0 R.g0 t0 t1 hm, Option.bind_some, i_nne.mpr rfl, cond_false]
    unfold d_bounded_15
    rw [e', Option.bind_some, Option.bind_some]
    dsimp only
    rw [i_nne.mpr rfl, cond_false, Option.bind_some]
    exact kf lo F' Fm' h2 h2' ⟨by rw [h1, h1'], by rw [h1']; decide⟩
theorem e_num_ff {lo hi : Int32} (h : (F 37 10).toInt ≠ 0) : e_Reader_takeNumber P F A J lo hi = some (lo, P, F, A, J) := by
  unfold e_Reader_takeNumber
  rw [e_take_ff h, Option.bind_some]
  dsimp only
  rw [i_nne.mpr rfl, cond_false]
theorem d_num_ff {lo hi : Int32} (h : 0 < (Fm 13).toInt) : d_bounded Fm Am Jm lo hi = some (lo, Fm, Am, Jm) := by
  unfold d_bounded d_bounded_15
  rw [i_gt.mpr (by rw [i_0]; exact h), cond_true, d_fail_ff h, Option.bind_some]
end A4
end Qz97
section Qz98
/-! names, side by side -/
section A5
variable {T : TS} {d n m q : Nat} {P : Nat → Nat → Nat} {F F' : Nat → Nat → Int32} {A : Nat → Nat → Nat → Int32} {J : Nat → Nat → Nat → Int64} {Fm Fm' : Nat → Int32} {Am : Nat → Nat → Int32} {Jm : Nat → Nat → Int64} {k k' x2 : Int32} {γ δ : Type} {Q : γ → δ → Prop}
/-- the class's takeKnownName over any of its rows -/
def gknown (q n : Nat) (P : Nat → Nat → Nat) (F : Nat → Nat → Int32) (A : Nat → Nat → Nat → Int32) (J : Nat → Nat → Nat → Int64) (x2 : Int32) : Option (Int32 × (Nat → Nat → Nat) × (Nat → Nat → Int32) × (Nat → Nat → Nat → Int32) × (Nat → Nat → Nat → Int64)) :=
  (e_Reader_take P F A J 100).bind fun (v1, P2, F3, A4, J5) =>
  cond (g_cnd .ne v1 0)
  ((m_ldJ (J5 37 5) 401 (F3 37 8)).bind fun v7 =>
  (findq q n J5 v7 x2).bind fun v8 =>
  cond (g_cnd .ge v8 0)
  (some (v8, P2, F3, A4, J5))
  ((e_Reader_failLate P2 F3 A4 J5 4).bind fun (_, P11, F12, A13, J14) =>
  some (v8, P11, F12, A13, J14)))
  (some ((-1), P2, F3, A4, J5))
theorem known_0 : e_Reader_takeKnownName n P F A J x2 = gknown 0 n P F A J x2 := by
  unfold e_Reader_takeKnownName gknown
  simp only [find0_q]
theorem known_2 : e_Reader_takeKnownName_v1 n P F A J x2 = gknown 2 n P F A J x2 := by
  unfold e_Reader_takeKnownName_v1 gknown
  simp only [find2_q]
theorem known_1 : e_Reader_takeKnownName_v2 n P F A J x2 = gknown 1 n P F A J x2 := by
  unfold e_Reader_takeKnownName_v2 gknown
  simp only [find1_q]
theorem known_3 : e_Reader_takeKnownName_v3 n P F A J x2 = gknown 3 n P F A J x2 := by
  unfold e_Reader_takeKnownName_v3 gknown
  simp only [find3_q]
theorem gknown_ff (h : (F 37 10).toInt ≠ 0) : gknown q n P F A J x2 = some (-1, P, F, A, J) := by
  unfold gknown
  rw [e_take_ff h, Option.bind_some]
  dsimp only
  rw [i_nne.mpr rfl, cond_false]
theorem d_known_ff (h : 0 < (Fm 13).toInt) : d_known n Fm Am Jm k = some (-1, Fm, Am, Jm) := by
  unfold d_known
  rw [d_must_ff h, Option.bind_some]
  dsimp only
  rw [i_nle.mpr (by rw [i_0]; exact h), cond_false]
theorem d_named_ff (h : 0 < (Fm 13).toInt) : po (d_named n Fm Am Jm) (fun r => r = (Fm 11, Fm, Am, Jm)) := by
  unfold d_named
  rw [d_must_ff h, Option.bind_some]
  dsimp only
  cases n with
  | zero => intro r hr; cases hr
  | succ n =>
    unfold d_named_12
    refine po_cond (fun _ => po_some rfl) (fun _ => ?_)
    rw [i_ne.mpr (by rw [i_0]; omega), cond_true]
    exact po_some rfl
/-- what the class finds, the reference finds, and where it does -/
theorem NR.same (N : NR d F J Fm Am Jm) (hq : q < 4) {x : Int64} {y : Int64} (hxy : TNi x.toInt y.toInt) {v : Int32} (hf : FDq q J x (F d (cq q)).toInt v) : (0 ≤ v.toInt ∧ ∃ j : Nat, (j : Int) < (Fm 20).toInt ∧ Jm 8 j = y ∧ (Am 9 j).toInt = q ∧ Am 10 j = v ∧ (∀ i : Nat, (i : Int) < (Fm 20).toInt → Jm 8 i = y → (Am 9 i).toInt = q → j ≤ i)) ∨ (v = -1 ∧ ∀ j : Nat, (j : Int) < (Fm 20).toInt → ¬ (Jm 8 j = y ∧ (Am 9 j).toInt = q)) := by
  have key : ∀ i : Nat, (i : Int) < (Fm 20).toInt → (Am 9 i).toInt = q → 0 ≤ (Am 10 i).toInt ∧ (Am 10 i).toInt < (F d (cq q)).toInt ∧ (J 37 (7 + q) (Am 10 i).toInt.toNat = x ↔ Jm 8 i = y) := by
    intro i hi hs
    obtain ⟨q', hq', s, a0, a1, tn⟩ := N.na i hi
    have : q' = q := by omega
    subst this
    refine ⟨a0, a1, ?_⟩
    rw [← Int64.toInt_inj, ← Int64.toInt_inj]
    exact tn.iff hxy
  rcases hf with ⟨v0, v1, vx, vn⟩ | ⟨rfl, vn⟩
  · obtain ⟨j, j1, js, ja⟩ := N.nb q hq v.toInt v0 v1
    refine .inl ⟨v0, j, j1, ?_, js, i_ext ja, ?_⟩
    · exact (key j j1 js).2.2.mp (by rw [ja]; exact vx)
    · intro i hi hy hs
      refine Nat.le_of_not_lt fun hlt => ?_
      obtain ⟨a0, a1, e⟩ := key i hi hs
      have h1 := N.nc i j hlt j1 (by rw [hs, js])
      exact vn (Am 10 i).toInt a0 (by omega) (e.mpr hy)
  · refine .inr ⟨rfl, fun j hj h => ?_⟩
    obtain ⟨a0, a1, e⟩ := key j hj h.2
    exact vn _ a0 a1 (e.mpr h.1)
/-- takeKnownName beside known -/
theorem p2_known {f} {g} {s : Int32} (hq : q < 4) (hs : s.toInt = q) (K : TKs T) (R : RT T F Fm) (X : RX T A J Am Jm) (N : NR d F J Fm Am Jm) (ks : ∀ v F' Fm', RV T F F' Fm Fm' → findq q n J (T.jc (Fm 11).toInt.toNat) (F d (cq q)) = some v → (0 ≤ v.toInt ∧ v.toInt < (F d (cq q)).toInt ∧ RU T F F' Fm Fm' ∨ v = -1 ∧ (Fm' 15).toInt ≠ 0) → P2 (f (v, P, F', A, J)) (g (v, Fm', Am, Jm)) Q) (kf : ∀ F' Fm', FrC F F' → FrM Fm Fm' → FE F' Fm' → ((T.kr (Fm 11).toInt.toNat).toInt = 1 → (Fm' 13).toInt = 2) → P2 (f (-1, P, F', A, J)) (g (-1, Fm', Am, Jm)) Q) : P2 (α := γ) (β := δ) ((gknown q n P F A J (F d (cq q))).bind f) ((d_known m Fm Am Jm s).bind g) Q := by
  have t0 := R.t0
  have t1 := R.t1
  unfold gknown d_known
  rw [Option.bind_assoc, Option.bind_assoc]
  refine p2_take K R X (by decide) (by decide) (fun F' Fm' U hk => ?_) (fun F' Fm' fc fm E hz => ?_)
  · dsimp only
    rw [i_ne.mpr (by decide), cond_true, i_le.mpr (by rw [U.rt.g0, i_0]; decide), cond_true, U.c8, m_ldJ_in t0 (by omega), Option.bind_some, X.j5]
    have tn := K.nm _ (by omega) (fun j hj => R.lv j (by omega)) hk
    have N' : NR d F' J Fm' Am Jm := N.fr (fun q _ => U.fc d (cq q) (fun e => by
      have := e.2; unfold cq at this; split at this <;> omega)) (fun _ _ => rfl) (U.fm 20 (by decide)) rfl rfl rfl
    have ec : F' d (cq q) = F d (cq q) := U.fc d (cq q) (fun e => by have := e.2; unfold cq at this; split at this <;> omega)
    rw [Option.bind_assoc]
    refine p2_bl (fun v hf => ?_)
    have hv := findq_s (N.bd q hq).2 v hf
    rw [← ec] at hv
    refine p2_r (d_known_s U.rt.g0 t0 (by omega) (by decide) (fun j hj => by rw [i_0] at hj; omega)) (fun r hr => ?_)
    rw [X.k6, hs] at hr
    rcases N'.same hq tn hv with ⟨v0, j, j1, j2, j3, j4, j5⟩ | ⟨rfl, no⟩
    · rcases hr with ⟨j', a1, a2, a3, a4, rfl⟩ | ⟨no, -⟩
      · have e : j' = j := by
          have := j5 j' a1 a2 a3
          have := a4 j
          rcases Nat.lt_or_ge j j' with h | h
          · exact absurd ⟨j2, j3⟩ (this h)
          · omega
        subst e
        rw [i_ge.mpr (by rw [i_0]; exact v0), cond_true, Option.bind_some, j4]
        exact ks v F' Fm' U.v hf (.inl ⟨v0, by
          rcases hv with ⟨_, h, _⟩ | ⟨h, _⟩
          · rw [← ec]; exact h
          · rw [h] at v0; exact absurd v0 (by decide), U⟩)
      · exact absurd ⟨j2, j3⟩ (no j j1)
    · rcases hr with ⟨j', a1, a2, a3, a4, rfl⟩ | ⟨_, Fw, hw, rfl⟩
      · exact absurd ⟨a2, a3⟩ (no j' a1)
      · rw [i_nge.mpr (by decide), cond_false]
        obtain ⟨F2, Fm2, b1, b2, V⟩ := U.late (P := P) (k := 4) K R X
        rw [hw] at b2
        cases b2
        rw [b1, Option.bind_some]
        dsimp only
        rw [Option.bind_some]
        refine ks _ F2 Fw V hf (.inr ⟨rfl, ?_⟩)
        intro z
        by_cases w : (Fm' 15).toInt = 0
        · obtain ⟨Fw', e', g15, -⟩ := d_wrong_0 (F := Fm') (A := Am) (J := Jm) (k := 4) (x := Fm 11) U.rt.g0 t0 (by omega) w
          rw [hw] at e'
          cases e'
          rw [g15] at z
          exact absurd z (by decide)
        · rw [d_wrong_n U.rt.g0 t0 (by omega) w (.inl (by rw [U.fm 16 (by decide), X.m4]; exact R.wp (by rw [← U.fm 15 (by decide)]; exact w)))] at hw
          cases hw
          exact w z
  · dsimp only
    rw [i_nne.mpr rfl, cond_false, i_nle.mpr (by rw [i_0]; exact E.2), cond_false, Option.bind_some, Option.bind_some]
    exact kf F' Fm' fc fm E hz
/-- the class's takeNewName over any of its rows -/
def gnew0 (q : Nat) (P : Nat → Nat → Nat) (F : Nat → Nat → Int32) (A : Nat → Nat → Nat → Int32) (J : Nat → Nat → Nat → Int64) (x2 : Int32) (x3 : Int64) : Option (Unit × (Nat → Nat → Nat) × (Nat → Nat → Int32) × (Nat → Nat → Nat → Int32) × (Nat → Nat → Nat → Int64)) :=
  (c_stJ J 37 (7 + q) (ql q) x2 x3).bind fun J27 =>
  some ((), P, F, A, J27)
def gnew1 (q : Nat) (P : Nat → Nat → Nat) (F : Nat → Nat → Int32) (A : Nat → Nat → Nat → Int32) (J : Nat → Nat → Nat → Int64) (x2 : Int32) (x3 : Int64) : Option (Unit × (Nat → Nat → Nat) × (Nat → Nat → Int32) × (Nat → Nat → Nat → Int32) × (Nat → Nat → Nat → Int64)) :=
  (e_Reader_failLate P F A J 3).bind fun (_, P22, F23, A24, J25) =>
  (c_stJ J25 37 (7 + q) (ql q) x2 x3).bind fun J26 =>
  some ((), P22, F23, A24, J26)
def gnew (q n : Nat) (P : Nat → Nat → Nat) (F : Nat → Nat → Int32) (A : Nat → Nat → Nat → Int32) (J : Nat → Nat → Nat → Int64) (x2 : Int32) : Option (Unit × (Nat → Nat → Nat) × (Nat → Nat → Int32) × (Nat → Nat → Nat → Int32) × (Nat → Nat → Nat → Int64)) :=
  (e_Reader_take P F A J 100).bind fun (v1, P2, F3, A4, J5) =>
  cond (g_cnd .eq v1 0)
  (some ((), P2, F3, A4, J5))
  (cond (g_cnd .lt x2 (Int32.ofNat (ql q)))
  ((m_ldJ (J5 37 5) 401 (F3 37 8)).bind fun v8 =>
  (c_chk 6 (P2 37 5)).bind fun q9 =>
  (findq 0 n J5 v8 (F3 q9 13)).bind fun v10 =>
  cond (g_cnd .ge v10 0)
  (gnew1 q P2 F3 A4 J5 x2 v8)
  ((c_chk 6 (P2 37 5)).bind fun q12 =>
  (findq 1 n J5 v8 (F3 q12 15)).bind fun v13 =>
  cond (g_cnd .ge v13 0)
  (gnew1 q P2 F3 A4 J5 x2 v8)
  ((c_chk 6 (P2 37 5)).bind fun q15 =>
  (findq 2 n J5 v8 (F3 q15 16)).bind fun v16 =>
  cond (g_cnd .ge v16 0)
  (gnew1 q P2 F3 A4 J5 x2 v8)
  ((c_chk 6 (P2 37 5)).bind fun q18 =>
  (findq 3 n J5 v8 (F3 q18 17)).bind fun v19 =>
  cond (g_cnd .lt v19 0)
  (gnew0 q P2 F3 A4 J5 x2 v8)
  (gnew1 q P2 F3 A4 J5 x2 v8)))))
  (some ((), P2, F3, A4, J5)))
theorem new_0 : e_Reader_takeNewName n P F A J x2 = gnew 0 n P F A J x2 := by
  unfold e_Reader_takeNewName gnew e_Reader_takeNewName_101 e_Reader_takeNewName_106
  simp only [find0_q, find1_q, find2_q, find3_q]
  rfl
theorem new_1 : e_Reader_takeNewName_v1 n P F A J x2 = gnew 1 n P F A J x2 := by
  unfold e_Reader_takeNewName_v1 gnew e_Reader_takeNewName_v1_101 e_Reader_takeNewName_v1_106
  simp only [find0_q, find1_q, find2_q, find3_q]
  rfl
theorem new_2 : e_Reader_takeNewName_v2 n P F A J x2 = gnew 2 n P F A J x2 := by
  unfold e_Reader_takeNewName_v2 gnew e_Reader_takeNewName_v2_101 e_Reader_takeNewName_v2_106
  simp only [find0_q, find1_q, find2_q, find3_q]
  rfl
theorem new_3 : e_Reader_takeNewName_v3 n P F A J x2 = gnew 3 n P F A J x2 := by
  unfold e_Reader_takeNewName_v3 gnew e_Reader_takeNewName_v3_101 e_Reader_takeNewName_v3_106
  simp only [find0_q, find1_q, find2_q, find3_q]
  rfl
theorem gnew_ff (h : (F 37 10).toInt ≠ 0) : gnew q n P F A J x2 = some ((), P, F, A, J) := by
  unfold gnew
  rw [e_take_ff h, Option.bind_some]
  dsimp only
  rw [i_eq.mpr rfl, cond_true]
/-- a name has been put into a row of the class -/
def JUm (q : Nat) (J J' : Nat → Nat → Nat → Int64) (c : Int) (x : Int64) : Prop := J' 37 (7 + q) c.toNat = x ∧ (∀ j : Int, 0 ≤ j → j ≠ c → J' 37 (7 + q) j.toNat = J 37 (7 + q) j.toNat) ∧ (∀ r o, ¬ (r = 37 ∧ o = 7 + q) → J' r o = J r o)
theorem g_new0 {x3 : Int64} {r} (h : gnew0 q P F A J x2 x3 = some r) : ∃ J', r = ((), P, F, A, J') ∧ JUm q J J' x2.toInt x3 := by
  unfold gnew0 at h
  obtain ⟨J', e, h⟩ := Option.bind_eq_some_iff.mp h
  cases h
  have s := gg_cstJ e
  exact ⟨J', rfl, s.2.2.1, s.2.2.2.1, s.2.2.2.2⟩
/-- takeNewName beside named -/
theorem p2_new {f} {g} (hq : q < 4) (h5 : P 37 5 = d) (hx : (F d (cq q)).toInt < (ql q : Int)) (K : TKs T) (R : RT T F Fm) (X : RX T A J Am Jm) (N : NR d F J Fm Am Jm) (ks : ∀ F' J' Fm', RV T F F' Fm Fm' → TNi (T.jc (Fm 11).toInt.toNat).toInt (T.jr (Fm 11).toInt.toNat).toInt → JUm q J J' (F d (cq q)).toInt (T.jc (Fm 11).toInt.toNat) → P2 (f ((), P, F', A, J')) (g (Fm 11, Fm', Am, Jm)) Q) (kf : ∀ F' Fm', FrC F F' → FrM Fm Fm' → FE F' Fm' → P2 (f ((), P, F', A, J)) (g (Fm 11, Fm', Am, Jm)) Q) : P2 (α := γ) (β := δ) ((gnew q n P F A J (F d (cq q))).bind f) ((d_named m Fm Am Jm).bind g) Q := by
  have t0 := R.t0
  have t1 := R.t1
  have lq : ql q ≤ 8 := by unfold ql; split <;> decide
  have eo : (Int32.ofNat (ql q)).toInt = ql q := by unfold ql; split <;> decide
  unfold gnew d_named
  rw [Option.bind_assoc, Option.bind_assoc]
  refine p2_take K R X (by decide) (by decide) (fun F' Fm' U hk => ?_) (fun F' Fm' fc fm E _ => ?_)
  · dsimp only
    rw [i_neq.mpr (by decide), cond_false, i_lt.mpr (by rw [eo]; exact hx), cond_true, U.c8, m_ldJ_in t0 (by omega), Option.bind_some, X.j5]
    have tn := K.nm _ (by omega) (fun j hj => R.lv j (by omega)) hk
    have ce : ∀ q, F' d (cq q) = F d (cq q) := fun q => U.fc d (cq q) (fun e => by have := e.2; unfold cq at this; split at this <;> omega)
    have N' : NR d F' J Fm' Am Jm := N.fr (fun q _ => ce q) (fun _ _ => rfl) (U.fm 20 (by decide)) rfl rfl rfl
    refine p2_r (d_named_s (F := Fm') (F' := Fm') U.rt.g0 t0 (by omega) (by decide) (fun _ _ _ => rfl) (.inl ⟨fun j hj => by rw [i_0] at hj; omega, rfl⟩) (fun w => by rw [U.fm 16 (by decide), X.m4]; exact R.wp (by rw [← U.fm 15 (by decide)]; exact w))) (fun r hr => ?_)
    rw [X.k6] at hr
    obtain ⟨Fw, rfl, hr⟩ := hr
    generalize hx3 : T.jc (Fm 11).toInt.toNat = x at *
    generalize hy3 : T.jr (Fm 11).toInt.toNat = y at *
    have yes : (∃ j : Nat, (j : Int) < (Fm' 20).toInt ∧ Jm 8 j = y) → P2 ((gnew1 q P F' A J (F d (cq q)) x).bind f) (g (Fm 11, Fw, Am, Jm)) Q := by
      intro he
      rcases hr with ⟨no, -⟩ | ⟨-, hw⟩
      · obtain ⟨j, j1, j2⟩ := he
        exact absurd j2 (no j j1)
      · obtain ⟨F2, Fm2, b1, b2, V⟩ := U.late (P := P) (k := 3) K R X
        rw [hw] at b2
        cases b2
        unfold gnew1
        rw [b1, Option.bind_some]
        refine p2_bl (fun r hr => ?_)
        obtain ⟨J', rfl, ju⟩ := g_new0 (q := q) hr
        exact ks F2 J' Fw V tn ju
    have no : (¬ ∃ j : Nat, (j : Int) < (Fm' 20).toInt ∧ Jm 8 j = y) → P2 ((gnew0 q P F' A J (F d (cq q)) x).bind f) (g (Fm 11, Fw, Am, Jm)) Q := by
      intro he
      rcases hr with ⟨no, rfl⟩ | ⟨he', -⟩
      · refine p2_bl (fun r hr => ?_)
        obtain ⟨J', rfl, ju⟩ := g_new0 (q := q) hr
        exact ks F' J' Fw U.v tn ju
      · exact absurd he' he
    have fd : ∀ {q' : Nat} {v : Int32}, q' < 4 → FDq q' J x (F' d (cq q')).toInt v → (0 ≤ v.toInt → ∃ j : Nat, (j : Int) < (Fm' 20).toInt ∧ Jm 8 j = y) ∧ (v.toInt < 0 → ∀ j : Nat, (j : Int) < (Fm' 20).toInt → ¬ (Jm 8 j = y ∧ (Am 9 j).toInt = q')) := by
      intro q' v hq' hv
      rcases N'.same hq' tn hv with ⟨v0, j, j1, j2, -⟩ | ⟨rfl, no⟩
      · exact ⟨fun _ => ⟨j, j1, j2⟩, fun h => by omega⟩
      · exact ⟨fun h => absurd h (by decide), fun _ => no⟩
    rw [Option.bind_assoc]
    refine p2_bl (fun q9 h9 => ?_)
    have e9 : q9 = d := (gg_chk h9).2.trans h5
    rw [e9, Option.bind_assoc]
    refine p2_l (R := FDq 0 J x (F' d (cq 0)).toInt) (findq_s (by rw [show F' d 13 = F' d (cq 0) from rfl, ce 0]; exact (N.bd 0 (by decide)).2)) (fun v0 hv0 => ?_)
    have f0 := fd (by decide) hv0
    refine p2_bind_cl (fun c => yes (f0.1 (by rw [i_ge, i_0] at c; exact c))) (fun c0 => ?_)
    rw [i_nge, i_0] at c0
    rw [Option.bind_assoc]
    refine p2_bl (fun q9 h9 => ?_)
    have e9 : q9 = d := (gg_chk h9).2.trans h5
    rw [e9, Option.bind_assoc]
    refine p2_l (R := FDq 1 J x (F' d (cq 1)).toInt) (findq_s (by rw [show F' d 15 = F' d (cq 1) from rfl, ce 1]; exact (N.bd 1 (by decide)).2)) (fun v1 hv1 => ?_)
    have f1 := fd (by decide) hv1
    refine p2_bind_cl (fun c => yes (f1.1 (by rw [i_ge, i_0] at c; exact c))) (fun c1 => ?_)
    rw [i_nge, i_0] at c1
    rw [Option.bind_assoc]
    refine p2_bl (fun q9 h9 => ?_)
    have e9 : q9 = d := (gg_chk h9).2.trans h5
    rw [e9, Option.bind_assoc]
    refine p2_l (R := FDq 2 J x (F' d (cq 2)).toInt) (findq_s (by rw [show F' d 16 = F' d (cq 2) from rfl, ce 2]; exact (N.bd 2 (by decide)).2)) (fun v2 hv2 => ?_)
    have f2 := fd (by decide) hv2
    refine p2_bind_cl (fun c => yes (f2.1 (by rw [i_ge, i_0] at c; exact c))) (fun c2 => ?_)
    rw [i_nge, i_0] at c2
    rw [Option.bind_assoc]
    refine p2_bl (fun q9 h9 => ?_)
    have e9 : q9 = d := (gg_chk h9).2.trans h5
    rw [e9, Option.bind_assoc]
    refine p2_l (R := FDq 3 J x (F' d (cq 3)).toInt) (findq_s (by rw [show F' d 17 = F' d (cq 3) from rfl, ce 3]; exact (N.bd 3 (by decide)).2)) (fun v3 hv3 => ?_)
    have f3 := fd (by decide) hv3
    refine p2_bind_cl (fun c3 => no ?_) (fun c => yes (f3.1 (by rw [i_nlt, i_0] at c; exact c)))
    rw [i_lt, i_0] at c3
    rintro ⟨j, j1, j2⟩
    obtain ⟨q', hq', hs, -⟩ := N'.na j j1
    rcases (by omega : q' = 0 ∨ q' = 1 ∨ q' = 2 ∨ q' = 3) with h | h | h | h <;> subst h
    · exact f0.2 c0 j j1 ⟨j2, hs⟩
    · exact f1.2 c1 j j1 ⟨j2, hs⟩
    · exact f2.2 c2 j j1 ⟨j2, hs⟩
    · exact f3.2 c3 j j1 ⟨j2, hs⟩
  · dsimp only
    rw [i_eq.mpr rfl, cond_true, Option.bind_some]
    cases m with
    | zero =>
      intro a b ha hb
      cases hb
    | succ m =>
      unfold d_named_12
      rw [i_ne.mpr (by rw [i_0]; have := E.2; omega)]
      refine p2_bind_cr (fun _ => ?_) (fun _ => ?_)
      · rw [Option.bind_some]
        exact kf F' Fm' fc fm E
      · rw [cond_true, Option.bind_some]
        exact kf F' Fm' fc fm E
end A5
end Qz98
section Qz99
/-! the rows of the house that is read, on both sides -/
section A5z
variable {d j : Nat} {nd nt nk nm s x : Int} {F F' : Nat → Nat → Int32} {A A' : Nat → Nat → Nat → Int32} {Fm Fm' : Nat → Int32} {Am Am' : Nat → Nat → Int32}
/-- the doors that are shut, as bits -/
def shv (f : Int → Int) : Nat → Int32
  | 0 => 0
  | n + 1 => if f n = 0 then shv f n else shv f n ||| ((1 : Int32) <<< (Int32.ofNat n &&& 31))
theorem shv_s (f : Int → Int) (n : Nat) : shv f (n + 1) = if f n = 0 then shv f n else shv f n ||| ((1 : Int32) <<< (Int32.ofNat n &&& 31)) := rfl
theorem shv_cg {f g : Int → Int} : ∀ {n : Nat}, (∀ k : Int, 0 ≤ k → k < n → f k = g k) → shv f n = shv g n
  | 0, _ => rfl
  | n + 1, h => by
    unfold shv
    rw [h n (by omega) (by omega), shv_cg (fun k k0 k1 => h k k0 (by omega))]
/-- nothing: -2 in the class, -1 in the reference -/
def NNx (a b : Int) : Prop := a = b ∨ (a = -2 ∧ b = -1)
/-- what a man left -/
def LFx (a t u : Int32) : Prop := (a = -1 ∧ t = -1 ∧ u = -1) ∨ a = t * 6 + u
def RWd (nd s : Int) (d : Nat) (F : Nat → Nat → Int32) (A : Nat → Nat → Nat → Int32) (Am : Nat → Nat → Int32) : Prop := (∀ k : Int, 0 ≤ k → k < nd → ci A d 1 k = ai Am 13 (12 * s + k) ∧ ci A d 2 k = ai Am 14 (12 * s + k) ∧ ci A d 3 k = ai Am 15 (12 * s + k)) ∧ F 3 7 = shv (fun k => ai Am 16 (12 * s + k)) nd.toNat
def RWt (nt s : Int) (A : Nat → Nat → Nat → Int32) (Am : Nat → Nat → Int32) : Prop := (∀ k : Int, 0 ≤ k → k < nt → ci A 3 4 k = ai Am 18 (6 * s + k)) ∧ (∀ k : Int, nt ≤ k → k < 6 → ci A 3 4 k = 0)
def RWk (nk s : Int) (d : Nat) (A : Nat → Nat → Nat → Int32) (Am : Nat → Nat → Int32) : Prop := (∀ k : Int, 0 ≤ k → k < nk → ci A d 4 k = ai Am 20 (6 * s + k) ∧ ci A 3 2 k = ai Am 21 (6 * s + k)) ∧ (∀ k : Int, nk ≤ k → k < 6 → ci A 3 2 k = 0)
def RWs (nk s : Int) (d : Nat) (A : Nat → Nat → Nat → Int32) (Am : Nat → Nat → Int32) : Prop := ∀ t u : Int, 0 ≤ t → t < nk → 0 ≤ u → u < ci A d 5 t → ci A d 6 (t * 6 + u) = ai Am 23 (6 * (6 * s + t) + u) ∧ ci A d 7 (t * 6 + u) = ai Am 24 (6 * (6 * s + t) + u) ∧ ci A d 8 (t * 6 + u) = ai Am 25 (6 * (6 * s + t) + u) ∧ ci A d 9 (t * 6 + u) = ai Am 26 (6 * (6 * s + t) + u) ∧ NNx (ci A d 10 (t * 6 + u)) (ai Am 27 (6 * (6 * s + t) + u)) ∧ NNx (ci A d 11 (t * 6 + u)) (ai Am 28 (6 * (6 * s + t) + u))
def RWm (nm s : Int) (d : Nat) (A : Nat → Nat → Nat → Int32) (Am : Nat → Nat → Int32) : Prop := (∀ k : Int, 0 ≤ k → k < nm → ci A d 12 k = ai Am 30 (6 * s + k) ∧ LFx (A 3 3 k.toNat) (Am 31 (6 * s + k).toNat) (Am 32 (6 * s + k).toNat)) ∧ (∀ k : Int, nm ≤ k → k < 6 → ci A 3 3 k = -1)
def RWz (F : Nat → Nat → Int32) (A : Nat → Nat → Nat → Int32) : Prop := (∀ k : Int, 0 ≤ k → k < 36 → ci A 3 1 k = 0) ∧ (∀ k : Int, 0 ≤ k → k < 6 → ci A 3 5 k = 0 ∧ ci A 3 6 k = 0 ∧ ci A 3 7 k = -2) ∧ F 3 8 = 0
def RWn (s : Int) (d : Nat) (F : Nat → Nat → Int32) (Am : Nat → Nat → Int32) : Prop := F d 18 = Am 41 s.toNat
/-- the house that is read, and its first evening, row by row: with nd doors, nt tools, nk tasks, nm men -/
def RWc (nd nt nk nm : Int) (d : Nat) (F : Nat → Nat → Int32) (A : Nat → Nat → Nat → Int32) (Fm : Nat → Int32) (Am : Nat → Nat → Int32) : Prop := RWd nd (Fm 19).toInt d F A Am ∧ RWt nt (Fm 19).toInt A Am ∧ RWk nk (Fm 19).toInt d A Am ∧ RWs nk (Fm 19).toInt d A Am ∧ RWm nm (Fm 19).toInt d A Am ∧ RWz F A ∧ RWn (Fm 19).toInt d F Am
abbrev RW (d : Nat) (F : Nat → Nat → Int32) (A : Nat → Nat → Nat → Int32) (Fm : Nat → Int32) (Am : Nat → Nat → Int32) : Prop := RWc (F d 14).toInt (F d 15).toInt (F d 16).toInt (F d 17).toInt d F A Fm Am
/-- where the reference's rows count -/
def RLg (nd nt nk nm s : Int) (f : Int → Int) (j : Nat) (i : Int) : Prop := ((j = 13 ∨ j = 14 ∨ j = 15 ∨ j = 16) ∧ 12 * s ≤ i ∧ i < 12 * s + nd) ∨ (j = 18 ∧ 6 * s ≤ i ∧ i < 6 * s + nt) ∨ ((j = 20 ∨ j = 21) ∧ 6 * s ≤ i ∧ i < 6 * s + nk) ∨ ((j = 23 ∨ j = 24 ∨ j = 25 ∨ j = 26 ∨ j = 27 ∨ j = 28) ∧ ∃ t u : Int, 0 ≤ t ∧ t < nk ∧ 0 ≤ u ∧ u < f t ∧ i = 6 * (6 * s + t) + u) ∨ ((j = 30 ∨ j = 31 ∨ j = 32) ∧ 6 * s ≤ i ∧ i < 6 * s + nm) ∨ (j = 41 ∧ i = s)
theorem RLg.cs {f : Int → Int} {i : Int} (h : RLg nd nt nk nm s f j i) : ((j = 13 ∨ j = 14 ∨ j = 15 ∨ j = 16) ∧ 12 * s ≤ i ∧ i < 12 * s + nd) ∨ (j = 18 ∧ 6 * s ≤ i ∧ i < 6 * s + nt) ∨ ((j = 20 ∨ j = 21) ∧ 6 * s ≤ i ∧ i < 6 * s + nk) ∨ ((j = 23 ∨ j = 24 ∨ j = 25 ∨ j = 26 ∨ j = 27 ∨ j = 28) ∧ 36 * s ≤ i) ∨ ((j = 30 ∨ j = 31 ∨ j = 32) ∧ 6 * s ≤ i ∧ i < 6 * s + nm) ∨ (j = 41 ∧ i = s) := by
  rcases h with h | h | h | ⟨h, t, u, t0, t1, u0, u1, e⟩ | h | h
  · exact .inl h
  · exact .inr (.inl h)
  · exact .inr (.inr (.inl h))
  · exact .inr (.inr (.inr (.inl ⟨h, by omega⟩)))
  · exact .inr (.inr (.inr (.inr (.inl h))))
  · exact .inr (.inr (.inr (.inr (.inr h))))
theorem RWc.m (W : RWc nd nt nk nm d F A Fm Am) (hs : 0 ≤ (Fm 19).toInt) (e19 : Fm' 19 = Fm 19) (h : ∀ j i, RLg nd nt nk nm (Fm 19).toInt (ci A d 5) j i → ai Am' j i = ai Am j i) : RWc nd nt nk nm d F A Fm' Am' := by
  obtain ⟨⟨a1, a2⟩, ⟨b1, b2⟩, ⟨c1, c2⟩, w, ⟨m1, m2⟩, z, n⟩ := W
  unfold RWc
  rw [e19]
  refine ⟨⟨fun k k0 k1 => ?_, ?_⟩, ⟨fun k k0 k1 => ?_, b2⟩, ⟨fun k k0 k1 => ?_, c2⟩, fun t u t0 t1 u0 u1 => ?_, ⟨fun k k0 k1 => ?_, m2⟩, z, ?_⟩
  · rw [h 13 (12 * (Fm 19).toInt + k) (.inl ⟨by omega, by omega, by omega⟩), h 14 (12 * (Fm 19).toInt + k) (.inl ⟨by omega, by omega, by omega⟩), h 15 (12 * (Fm 19).toInt + k) (.inl ⟨by omega, by omega, by omega⟩)]
    exact a1 k k0 k1
  · rw [a2]
    exact shv_cg (fun k k0 k1 => (h 16 (12 * (Fm 19).toInt + k) (.inl ⟨by omega, by omega, by omega⟩)).symm)
  · rw [h 18 (6 * (Fm 19).toInt + k) (.inr (.inl ⟨rfl, by omega, by omega⟩))]
    exact b1 k k0 k1
  · rw [h 20 (6 * (Fm 19).toInt + k) (.inr (.inr (.inl ⟨by omega, by omega, by omega⟩))), h 21 (6 * (Fm 19).toInt + k) (.inr (.inr (.inl ⟨by omega, by omega, by omega⟩)))]
    exact c1 k k0 k1
  · have q : ∀ j, (j = 23 ∨ j = 24 ∨ j = 25 ∨ j = 26 ∨ j = 27 ∨ j = 28) → ai Am' j (6 * (6 * (Fm 19).toInt + t) + u) = ai Am j (6 * (6 * (Fm 19).toInt + t) + u) := fun j hj => h j _ (.inr (.inr (.inr (.inl ⟨hj, t, u, t0, t1, u0, u1, rfl⟩))))
    rw [q 23 (by omega), q 24 (by omega), q 25 (by omega), q 26 (by omega), q 27 (by omega), q 28 (by omega)]
    exact w t u t0 t1 u0 u1
  · have q : ∀ j, (j = 30 ∨ j = 31 ∨ j = 32) → ai Am' j (6 * (Fm 19).toInt + k) = ai Am j (6 * (Fm 19).toInt + k) := fun j hj => h j _ (.inr (.inr (.inr (.inr (.inl ⟨hj, by omega, by omega⟩)))))
    rw [q 30 (by omega), i_ext (q 31 (by omega)), i_ext (q 32 (by omega))]
    exact m1 k k0 k1
  · unfold RWn at n ⊢
    rw [n]
    exact i_ext (h 41 (Fm 19).toInt (.inr (.inr (.inr (.inr (.inr ⟨rfl, rfl⟩)))))).symm
/-- rows by which nothing is told have changed -/
theorem RWc.fr (W : RWc nd nt nk nm d F A Fm Am) (hs : 0 ≤ (Fm 19).toInt) (h7 : F' 3 7 = F 3 7) (h8 : F' 3 8 = F 3 8) (h18 : F' d 18 = F d 18) (h3 : ∀ o, A' 3 o = A 3 o) (hA : ∀ o, 1 ≤ o → o ≤ 12 → A' d o = A d o) (e19 : Fm' 19 = Fm 19) (hM : ∀ q, 13 ≤ q → q ≤ 41 → q ≤ 32 ∨ q = 41 → q ≠ 17 → q ≠ 19 → q ≠ 22 → q ≠ 29 → Am' q = Am q) : RWc nd nt nk nm d F' A' Fm' Am' := by
  have W2 := W.m (Fm' := Fm') (Am' := Am') hs e19 (fun j i h => by
    rw [ai_fr (hM j (by have h := RLg.cs h; omega) (by have h := RLg.cs h; omega) (by have h := RLg.cs h; omega) (by have h := RLg.cs h; omega) (by have h := RLg.cs h; omega) (by have h := RLg.cs h; omega) (by have h := RLg.cs h; omega))])
  unfold RWc RWd RWt RWk RWs RWm RWz RWn at W2 ⊢
  rw [h7, h8, h18, ci_fr (h3 1), ci_fr (h3 2), ci_fr (h3 3), ci_fr (h3 4), ci_fr (h3 5), ci_fr (h3 6), ci_fr (h3 7), h3 3, ci_fr (hA 1 (by decide) (by decide)), ci_fr (hA 2 (by decide) (by decide)), ci_fr (hA 3 (by decide) (by decide)), ci_fr (hA 4 (by decide) (by decide)), ci_fr (hA 5 (by decide) (by decide)), ci_fr (hA 6 (by decide) (by decide)), ci_fr (hA 7 (by decide) (by decide)), ci_fr (hA 8 (by decide) (by decide)), ci_fr (hA 9 (by decide) (by decide)), ci_fr (hA 10 (by decide) (by decide)), ci_fr (hA 11 (by decide) (by decide)), ci_fr (hA 12 (by decide) (by decide))]
  exact W2
/-- the reference has written behind what counts -/
theorem RWc.st (W : RWc nd nt nk nm d F A Fm Am) (hs : 0 ≤ (Fm 19).toInt) (o : ∀ q, q ≠ j → Am' q = Am q) (n : ∀ i, 0 ≤ i → i ≠ x → ai Am' j i = ai Am j i) (hx : ∀ i, RLg nd nt nk nm (Fm 19).toInt (ci A d 5) j i → 0 ≤ i ∧ i ≠ x) : RWc nd nt nk nm d F A Fm Am' :=
  W.m hs rfl (fun q i h => by
    by_cases e : q = j
    · subst e
      exact n i (hx i h).1 (hx i h).2
    · rw [ai_fr (o q e)])
theorem RWc.v (W : RWc nd nt nk nm d F A Fm Am) (hs : 0 ≤ (Fm 19).toInt) (hd : d ≠ 37) (fc : FrC F F') (fm : FrM Fm Fm') : RWc nd nt nk nm d F' A Fm' Am :=
  W.fr hs (fc 3 7 (by decide)) (fc 3 8 (by decide)) (fc d 18 (fun e => hd e.1)) (fun _ => rfl) (fun _ _ _ => rfl) (fm 19 (by decide) (by decide) (by decide) (by decide) (by decide)) (fun _ _ _ _ _ _ _ _ => rfl)
/-- one door more -/
theorem RWd.add (W : RWd nd s d F A Am) (h0 : 0 ≤ nd) (r1 : ∀ k, 0 ≤ k → k < nd → ci A' d 1 k = ci A d 1 k) (r2 : ∀ k, 0 ≤ k → k < nd → ci A' d 2 k = ci A d 2 k) (r3 : ∀ k, 0 ≤ k → k < nd → ci A' d 3 k = ci A d 3 k) (b1 : ci A' d 1 nd = ai Am 13 (12 * s + nd)) (b2 : ci A' d 2 nd = ai Am 14 (12 * s + nd)) (b3 : ci A' d 3 nd = ai Am 15 (12 * s + nd)) (b7 : F' 3 7 = if ai Am 16 (12 * s + nd) = 0 then F 3 7 else F 3 7 ||| ((1 : Int32) <<< (Int32.ofNat nd.toNat &&& 31))) : RWd (nd + 1) s d F' A' Am := by
  refine ⟨fun k k0 k1 => ?_, ?_⟩
  · by_cases e : k = nd
    · subst e
      exact ⟨b1, b2, b3⟩
    · rw [r1 k k0 (by omega), r2 k k0 (by omega), r3 k k0 (by omega)]
      exact W.1 k k0 (by omega)
  · have e : (nd + 1).toNat = nd.toNat + 1 := by omega
    have e2 : ((nd.toNat : Nat) : Int) = nd := by omega
    rw [b7, W.2, e, shv_s]
    simp only [e2]
theorem RWt.add (W : RWt nt s A Am) (r : ∀ k, 0 ≤ k → k < 6 → k ≠ nt → ci A' 3 4 k = ci A 3 4 k) (h6 : nt < 6) (b : ci A' 3 4 nt = ai Am 18 (6 * s + nt)) (h0 : 0 ≤ nt) : RWt (nt + 1) s A' Am := by
  refine ⟨fun k k0 k1 => ?_, fun k k0 k1 => ?_⟩
  · by_cases e : k = nt
    · subst e; exact b
    · rw [r k k0 (by omega) e]; exact W.1 k k0 (by omega)
  · rw [r k (by omega) k1 (by omega)]; exact W.2 k (by omega) k1
theorem RWk.add (W : RWk nk s d A Am) (r : ∀ k, 0 ≤ k → k < 6 → k ≠ nk → ci A' d 4 k = ci A d 4 k ∧ ci A' 3 2 k = ci A 3 2 k) (h6 : nk < 6) (b : ci A' d 4 nk = ai Am 20 (6 * s + nk)) (b2 : ci A' 3 2 nk = ai Am 21 (6 * s + nk)) (h0 : 0 ≤ nk) : RWk (nk + 1) s d A' Am := by
  refine ⟨fun k k0 k1 => ?_, fun k k0 k1 => ?_⟩
  · by_cases e : k = nk
    · subst e; exact ⟨b, b2⟩
    · rw [(r k k0 (by omega) e).1, (r k k0 (by omega) e).2]; exact W.1 k k0 (by omega)
  · rw [(r k (by omega) k1 (by omega)).2]; exact W.2 k (by omega) k1
theorem RWs.add (W : RWs nk s d A Am) (r : ∀ o, 5 ≤ o → o ≤ 11 → A' d o = A d o) (z : ci A d 5 nk = 0) : RWs (nk + 1) s d A' Am := by
  intro t u t0 t1 u0 u1
  rw [ci_fr (r 5 (by decide) (by decide))] at u1
  have e : t ≠ nk := fun e => by rw [e] at u1; omega
  rw [ci_fr (r 6 (by decide) (by decide)), ci_fr (r 7 (by decide) (by decide)), ci_fr (r 8 (by decide) (by decide)), ci_fr (r 9 (by decide) (by decide)), ci_fr (r 10 (by decide) (by decide)), ci_fr (r 11 (by decide) (by decide))]
  exact W t u t0 (by omega) u0 u1
theorem RWm.add (W : RWm nm s d A Am) (r : ∀ k, 0 ≤ k → k < 6 → k ≠ nm → ci A' d 12 k = ci A d 12 k ∧ ci A' 3 3 k = ci A 3 3 k) (h6 : nm < 6) (b : ci A' d 12 nm = ai Am 30 (6 * s + nm)) (b2 : LFx (A' 3 3 nm.toNat) (Am 31 (6 * s + nm).toNat) (Am 32 (6 * s + nm).toNat)) (h0 : 0 ≤ nm) : RWm (nm + 1) s d A' Am := by
  refine ⟨fun k k0 k1 => ?_, fun k k0 k1 => ?_⟩
  · by_cases e : k = nm
    · subst e; exact ⟨b, b2⟩
    · have r3 : A' 3 3 k.toNat = A 3 3 k.toNat := i_ext (r k k0 (by omega) e).2
      rw [(r k k0 (by omega) e).1, r3]; exact W.1 k k0 (by omega)
  · rw [(r k (by omega) k1 (by omega)).2]; exact W.2 k (by omega) k1
theorem RW.v (W : RW d F A Fm Am) (hs : 0 ≤ (Fm 19).toInt) (hd : d ≠ 37) (fc : FrC F F') (fm : FrM Fm Fm') : RW d F' A Fm' Am := by
  have h := RWc.v W hs hd fc fm
  show RWc (F' d 14).toInt (F' d 15).toInt (F' d 16).toInt (F' d 17).toInt d F' A Fm' Am
  rw [fc d 14 (fun e => hd e.1), fc d 15 (fun e => hd e.1), fc d 16 (fun e => hd e.1), fc d 17 (fun e => hd e.1)]
  exact h
theorem RWd.ca (W : RWd nd s d F A Am) (h : ∀ o, 1 ≤ o → o ≤ 3 → A' d o = A d o) : RWd nd s d F A' Am := by
  unfold RWd
  rw [ci_fr (h 1 (by decide) (by decide)), ci_fr (h 2 (by decide) (by decide)), ci_fr (h 3 (by decide) (by decide))]
  exact W
theorem RWt.ca (W : RWt nt s A Am) (h : A' 3 4 = A 3 4) : RWt nt s A' Am := by
  unfold RWt
  rw [ci_fr h]
  exact W
theorem RWk.ca (W : RWk nk s d A Am) (h : A' d 4 = A d 4) (h2 : A' 3 2 = A 3 2) : RWk nk s d A' Am := by
  unfold RWk
  rw [ci_fr h, ci_fr h2]
  exact W
theorem RWs.ca (W : RWs nk s d A Am) (r : ∀ o, 5 ≤ o → o ≤ 11 → A' d o = A d o) : RWs nk s d A' Am := by
  unfold RWs
  rw [ci_fr (r 5 (by decide) (by decide)), ci_fr (r 6 (by decide) (by decide)), ci_fr (r 7 (by decide) (by decide)), ci_fr (r 8 (by decide) (by decide)), ci_fr (r 9 (by decide) (by decide)), ci_fr (r 10 (by decide) (by decide)), ci_fr (r 11 (by decide) (by decide))]
  exact W
theorem RWm.ca (W : RWm nm s d A Am) (h : A' d 12 = A d 12) (h2 : A' 3 3 = A 3 3) : RWm nm s d A' Am := by
  unfold RWm
  rw [ci_fr h, ci_fr h2, h2]
  exact W
theorem RWz.ca (W : RWz F A) (h : ∀ o, o = 1 ∨ o = 5 ∨ o = 6 ∨ o = 7 → A' 3 o = A 3 o) : RWz F A' := by
  unfold RWz
  rw [ci_fr (h 1 (by omega)), ci_fr (h 5 (by omega)), ci_fr (h 6 (by omega)), ci_fr (h 7 (by omega))]
  exact W
theorem RW.fr (W : RW d F A Fm Am) (hs : 0 ≤ (Fm 19).toInt) (hF : ∀ k, 14 ≤ k → k ≤ 18 → F' d k = F d k) (h7 : F' 3 7 = F 3 7) (h8 : F' 3 8 = F 3 8) (h3 : ∀ o, A' 3 o = A 3 o) (hA : ∀ o, 1 ≤ o → o ≤ 12 → A' d o = A d o) (e19 : Fm' 19 = Fm 19) (hM : ∀ q, 13 ≤ q → q ≤ 41 → q ≤ 32 ∨ q = 41 → q ≠ 17 → q ≠ 19 → q ≠ 22 → q ≠ 29 → Am' q = Am q) : RW d F' A' Fm' Am' := by
  have h := RWc.fr W hs h7 h8 (hF 18 (by decide) (by decide)) h3 hA e19 hM
  show RWc (F' d 14).toInt (F' d 15).toInt (F' d 16).toInt (F' d 17).toInt d F' A' Fm' Am'
  rw [hF 14 (by decide) (by decide), hF 15 (by decide) (by decide), hF 16 (by decide) (by decide), hF 17 (by decide) (by decide)]
  exact h
/-- one step more -/
theorem RWs.put {v c : Int} (W : RWs nk s d A Am) (hs : 0 ≤ s) (v0 : 0 ≤ v) (c0 : 0 ≤ c) (c6 : c < 6) (hc : ci A d 5 v = c) (h6 : ∀ t, 0 ≤ t → ci A d 5 t ≤ 6) (a5 : ci A' d 5 v = c + 1) (a5' : ∀ t, 0 ≤ t → t ≠ v → ci A' d 5 t = ci A d 5 t) (ra : ∀ o, 6 ≤ o → o ≤ 11 → ∀ i, 0 ≤ i → i ≠ v * 6 + c → ci A' d o i = ci A d o i) (rm : ∀ j, 23 ≤ j → j ≤ 28 → ∀ i, 0 ≤ i → i ≠ 6 * (6 * s + v) + c → ai Am' j i = ai Am j i) (n1 : ci A' d 6 (v * 6 + c) = ai Am' 23 (6 * (6 * s + v) + c)) (n2 : ci A' d 7 (v * 6 + c) = ai Am' 24 (6 * (6 * s + v) + c)) (n3 : ci A' d 8 (v * 6 + c) = ai Am' 25 (6 * (6 * s + v) + c)) (n4 : ci A' d 9 (v * 6 + c) = ai Am' 26 (6 * (6 * s + v) + c)) (n5 : NNx (ci A' d 10 (v * 6 + c)) (ai Am' 27 (6 * (6 * s + v) + c))) (n6 : NNx (ci A' d 11 (v * 6 + c)) (ai Am' 28 (6 * (6 * s + v) + c))) : RWs nk s d A' Am' := by
  intro t u t0 t1 u0 u1
  by_cases e : t = v ∧ u = c
  · obtain ⟨rfl, rfl⟩ := e
    exact ⟨n1, n2, n3, n4, n5, n6⟩
  · have lt : u < ci A d 5 t := by
      by_cases e2 : t = v
      · subst e2
        have : u ≠ c := fun h => e ⟨rfl, h⟩
        omega
      · rw [a5' t t0 e2] at u1; exact u1
    have l6 := h6 t t0
    have ne : t * 6 + u ≠ v * 6 + c := by omega
    have ne2 : 6 * (6 * s + t) + u ≠ 6 * (6 * s + v) + c := by omega
    have i0 : 0 ≤ t * 6 + u := by omega
    have j0 : 0 ≤ 6 * (6 * s + t) + u := by omega
    rw [ra 6 (by decide) (by decide) _ i0 ne, ra 7 (by decide) (by decide) _ i0 ne, ra 8 (by decide) (by decide) _ i0 ne, ra 9 (by decide) (by decide) _ i0 ne, ra 10 (by decide) (by decide) _ i0 ne, ra 11 (by decide) (by decide) _ i0 ne, rm 23 (by decide) (by decide) _ j0 ne2, rm 24 (by decide) (by decide) _ j0 ne2, rm 25 (by decide) (by decide) _ j0 ne2, rm 26 (by decide) (by decide) _ j0 ne2, rm 27 (by decide) (by decide) _ j0 ne2, rm 28 (by decide) (by decide) _ j0 ne2]
    exact W t u t0 t1 u0 lt
/-- one more of a kind -/
def nx (q q' : Nat) (c : Int) : Int := if q = q' then c + 1 else c
end A5z
end Qz99
section Qz100
/-! sentences, side by side: what both sides hold of the house that is read -/
def rq (q : Nat) : Nat := if q = 0 then 11 else if q = 1 then 17 else if q = 2 then 19 else 29
def RHo (o : Int) (d : Nat) (F : Nat → Nat → Int32) (A : Nat → Nat → Nat → Int32) (J : Nat → Nat → Nat → Int64) (Fm : Nat → Int32) (Am : Nat → Nat → Int32) (Jm : Nat → Nat → Int64) : Prop := (0 ≤ (Fm 19).toInt) ∧ ((Fm 19).toInt ≤ 1) ∧ (∀ q, q < 4 → F d (cq q) = Am (rq q) (Fm 19).toInt.toNat) ∧ (F d 14 = Am 12 (Fm 19).toInt.toNat) ∧ (F 37 9 = Am 33 (Fm 19).toInt.toNat) ∧ (∀ k : Int, 0 ≤ k → k < (F d 16).toInt → ci A d 5 k = ai Am 22 (6 * (Fm 19).toInt + k)) ∧ (NR d F J Fm Am Jm) ∧ ((Fm 12).toInt = o)
theorem RHo.s0 {o : Int} {d : Nat} {F : Nat → Nat → Int32} {A : Nat → Nat → Nat → Int32} {J : Nat → Nat → Nat → Int64} {Fm : Nat → Int32} {Am : Nat → Nat → Int32} {Jm : Nat → Nat → Int64} (h_ : RHo o d F A J Fm Am Jm) : 0 ≤ (Fm 19).toInt := h_.1
theorem RHo.s1 {o : Int} {d : Nat} {F : Nat → Nat → Int32} {A : Nat → Nat → Nat → Int32} {J : Nat → Nat → Nat → Int64} {Fm : Nat → Int32} {Am : Nat → Nat → Int32} {Jm : Nat → Nat → Int64} (h_ : RHo o d F A J Fm Am Jm) : (Fm 19).toInt ≤ 1 := h_.2.1
theorem RHo.cn {o : Int} {d : Nat} {F : Nat → Nat → Int32} {A : Nat → Nat → Nat → Int32} {J : Nat → Nat → Nat → Int64} {Fm : Nat → Int32} {Am : Nat → Nat → Int32} {Jm : Nat → Nat → Int64} (h_ : RHo o d F A J Fm Am Jm) : ∀ q, q < 4 → F d (cq q) = Am (rq q) (Fm 19).toInt.toNat := h_.2.2.1
theorem RHo.dr {o : Int} {d : Nat} {F : Nat → Nat → Int32} {A : Nat → Nat → Nat → Int32} {J : Nat → Nat → Nat → Int64} {Fm : Nat → Int32} {Am : Nat → Nat → Int32} {Jm : Nat → Nat → Int64} (h_ : RHo o d F A J Fm Am Jm) : F d 14 = Am 12 (Fm 19).toInt.toNat := h_.2.2.2.1
theorem RHo.lw {o : Int} {d : Nat} {F : Nat → Nat → Int32} {A : Nat → Nat → Nat → Int32} {J : Nat → Nat → Nat → Int64} {Fm : Nat → Int32} {Am : Nat → Nat → Int32} {Jm : Nat → Nat → Int64} (h_ : RHo o d F A J Fm Am Jm) : F 37 9 = Am 33 (Fm 19).toInt.toNat := h_.2.2.2.2.1
theorem RHo.sc {o : Int} {d : Nat} {F : Nat → Nat → Int32} {A : Nat → Nat → Nat → Int32} {J : Nat → Nat → Nat → Int64} {Fm : Nat → Int32} {Am : Nat → Nat → Int32} {Jm : Nat → Nat → Int64} (h_ : RHo o d F A J Fm Am Jm) : ∀ k : Int, 0 ≤ k → k < (F d 16).toInt → ci A d 5 k = ai Am 22 (6 * (Fm 19).toInt + k) := h_.2.2.2.2.2.1
theorem RHo.nr {o : Int} {d : Nat} {F : Nat → Nat → Int32} {A : Nat → Nat → Nat → Int32} {J : Nat → Nat → Nat → Int64} {Fm : Nat → Int32} {Am : Nat → Nat → Int32} {Jm : Nat → Nat → Int64} (h_ : RHo o d F A J Fm Am Jm) : NR d F J Fm Am Jm := h_.2.2.2.2.2.2.1
theorem RHo.op {o : Int} {d : Nat} {F : Nat → Nat → Int32} {A : Nat → Nat → Nat → Int32} {J : Nat → Nat → Nat → Int64} {Fm : Nat → Int32} {Am : Nat → Nat → Int32} {Jm : Nat → Nat → Int64} (h_ : RHo o d F A J Fm Am Jm) : (Fm 12).toInt = o := h_.2.2.2.2.2.2.2
abbrev RH (d : Nat) (F : Nat → Nat → Int32) (A : Nat → Nat → Nat → Int32) (J : Nat → Nat → Nat → Int64) (Fm : Nat → Int32) (Am : Nat → Nat → Int32) (Jm : Nat → Nat → Int64) : Prop := RHo 0 d F A J Fm Am Jm
section A6
variable {T : TS} {d n m q : Nat} {P : Nat → Nat → Nat} {F F' : Nat → Nat → Int32} {A A' : Nat → Nat → Nat → Int32} {J J' : Nat → Nat → Nat → Int64} {Fm Fm' : Nat → Int32} {Am Am' : Nat → Nat → Int32} {Jm Jm' : Nat → Nat → Int64} {k k' x2 : Int32} {γ δ : Type} {Q : γ → δ → Prop}
theorem cq_lt (hq : q < 4) : 13 ≤ cq q ∧ cq q ≤ 17 ∧ cq q ≠ 14 := by unfold cq; split <;> omega
theorem rq_in (q : Nat) : rq q = 11 ∨ rq q = 17 ∨ rq q = 19 ∨ rq q = 29 := by
  unfold rq
  split
  · omega
  · split
    · omega
    · split <;> omega
theorem RHo.fr {o : Int} (H : RHo o d F A J Fm Am Jm) (hF : ∀ k, 13 ≤ k → k ≤ 17 → F' d k = F d k) (h9 : F' 37 9 = F 37 9) (h5 : A' d 5 = A d 5) (hJ : ∀ q, q < 4 → J' 37 (7 + q) = J 37 (7 + q)) (e19 : Fm' 19 = Fm 19) (e20 : Fm' 20 = Fm 20) (e12 : Fm' 12 = Fm 12) (hA : ∀ q, q = 9 ∨ q = 10 ∨ q = 11 ∨ q = 12 ∨ q = 17 ∨ q = 19 ∨ q = 22 ∨ q = 29 ∨ q = 33 → Am' q = Am q) (h8 : Jm' 8 = Jm 8) : RHo o d F' A' J' Fm' Am' Jm' := by
  refine ⟨by rw [e19]; exact H.s0, by rw [e19]; exact H.s1, ?_, ?_, ?_, ?_, ?_, by rw [e12]; exact H.op⟩
  · intro q hq
    rw [hF _ (cq_lt hq).1 (cq_lt hq).2.1, e19, hA (rq q) (by have := rq_in q; omega)]
    exact H.cn q hq
  · rw [hF 14 (by decide) (by decide), e19, hA 12 (by omega)]; exact H.dr
  · rw [h9, e19, hA 33 (by omega)]; exact H.lw
  · rw [hF 16 (by decide) (by decide), e19, ci_fr h5, ai_fr (hA 22 (by omega))]; exact H.sc
  · exact H.nr.fr (fun q hq => hF _ (cq_lt hq).1 (cq_lt hq).2.1) hJ e20 (hA 9 (by omega)) (hA 10 (by omega)) h8
/-- small steps leave it as it is -/
theorem RHo.v {o : Int} (H : RHo o d F A J Fm Am Jm) (hd : d ≠ 37) (fc : FrC F F') (fm : FrM Fm Fm') : RHo o d F' A J Fm' Am Jm :=
  H.fr (fun k _ _ => fc d k (fun e => hd e.1)) (fc 37 9 (by decide)) rfl (fun _ _ => rfl) (fm 19 (by decide) (by decide) (by decide) (by decide) (by decide)) (fm 20 (by decide) (by decide) (by decide) (by decide) (by decide)) (fm 12 (by decide) (by decide) (by decide) (by decide) (by decide)) (fun _ _ => rfl) rfl
theorem RHo.a {o : Int} (H : RHo o d F A J Fm Am Jm) (hA : ∀ q, q = 9 ∨ q = 10 ∨ q = 11 ∨ q = 12 ∨ q = 17 ∨ q = 19 ∨ q = 22 ∨ q = 29 ∨ q = 33 → Am' q = Am q) : RHo o d F A J Fm Am' Jm :=
  H.fr (fun _ _ _ => rfl) rfl rfl (fun _ _ => rfl) rfl rfl rfl hA rfl
theorem RX.fr (X : RX T A J Am Jm) (h2 : A' 37 2 = A 37 2) (h3 : A' 37 3 = A 37 3) (h4 : A' 37 4 = A 37 4) (h5 : J' 37 5 = J 37 5) (h6 : J' 37 6 = J 37 6) (m3 : Am' 3 = Am 3) (m4 : Am' 4 = Am 4) (m5 : Am' 5 = Am 5) (k6 : Jm' 6 = Jm 6) (k7 : Jm' 7 = Jm 7) : RX T A' J' Am' Jm' :=
  ⟨h2.trans X.a2, h3.trans X.a3, h4.trans X.a4, h5.trans X.j5, h6.trans X.j6, m3.trans X.m3, m4.trans X.m4, m5.trans X.m5, k6.trans X.k6, k7.trans X.k7⟩
theorem RX.a (X : RX T A J Am Jm) (hA : ∀ q, q = 3 ∨ q = 4 ∨ q = 5 → Am' q = Am q) : RX T A J Am' Jm := X.fr rfl rfl rfl rfl rfl (hA 3 (by omega)) (hA 4 (by omega)) (hA 5 (by omega)) rfl rfl
theorem RX.ca (X : RX T A J Am Jm) (hA : ∀ o, A' 37 o = A 37 o) : RX T A' J Am Jm := X.fr (hA 2) (hA 3) (hA 4) rfl rfl rfl rfl rfl rfl rfl
theorem RX.j (X : RX T A J Am Jm) {c : Int} {x : Int64} (U : JUm q J J' c x) : RX T A J' Am Jm := X.fr rfl rfl rfl (U.2.2 37 5 (by omega)) (U.2.2 37 6 (by omega)) rfl rfl rfl rfl rfl
theorem NR.j (N : NR d F J Fm Am Jm) {x : Int64} (U : JUm q J J' (F d (cq q)).toInt x) : NR d F J' Fm Am Jm := by
  refine ⟨N.n0, N.bd, fun k hk => ?_, N.nb, N.nc⟩
  obtain ⟨q', hq, h9, h0, h1, tn⟩ := N.na k hk
  refine ⟨q', hq, h9, h0, h1, ?_⟩
  by_cases e : q' = q
  · subst e
    rw [U.2.1 _ h0 (by omega)]
    exact tn
  · rw [U.2.2 37 (7 + q') (by omega)]
    exact tn
theorem RHo.j {o : Int} (H : RHo o d F A J Fm Am Jm) {x : Int64} (U : JUm q J J' (F d (cq q)).toInt x) : RHo o d F A J' Fm Am Jm :=
  ⟨H.s0, H.s1, H.cn, H.dr, H.lw, H.sc, H.nr.j U, H.op⟩
/-- a new name is known to both -/
theorem NR.add (N : NR d F J Fm Am Jm) (hq : q < 4) {x y : Int64} (hx : J 37 (7 + q) (F d (cq q)).toInt.toNat = x) (tn : TNi x.toInt y.toInt) (hl : (F d (cq q)).toInt < (ql q : Int)) (f1 : (F' d (cq q)).toInt = (F d (cq q)).toInt + 1) (f2 : ∀ q', q' < 4 → q' ≠ q → F' d (cq q') = F d (cq q')) (m20 : (Fm' 20).toInt = (Fm 20).toInt + 1) (m9 : ai Am' 9 (Fm 20).toInt = q) (m9o : ∀ j, 0 ≤ j → j ≠ (Fm 20).toInt → ai Am' 9 j = ai Am 9 j) (m10 : ai Am' 10 (Fm 20).toInt = (F d (cq q)).toInt) (m10o : ∀ j, 0 ≤ j → j ≠ (Fm 20).toInt → ai Am' 10 j = ai Am 10 j) (m8 : Jm' 8 (Fm 20).toInt.toNat = y) (m8o : ∀ j : Int, 0 ≤ j → j ≠ (Fm 20).toInt → Jm' 8 j.toNat = Jm 8 j.toNat) : NR d F' J Fm' Am' Jm' := by
  have n0 := N.n0
  have c0 := N.bd q hq
  have o9 : ∀ k : Nat, (k : Int) < (Fm 20).toInt → (Am' 9 k).toInt = (Am 9 k).toInt := fun k hk => m9o (k : Int) (by omega) (by omega)
  have o10 : ∀ k : Nat, (k : Int) < (Fm 20).toInt → (Am' 10 k).toInt = (Am 10 k).toInt := fun k hk => m10o (k : Int) (by omega) (by omega)
  have o8 : ∀ k : Nat, (k : Int) < (Fm 20).toInt → Jm' 8 k = Jm 8 k := fun k hk => m8o (k : Int) (by omega) (by omega)
  have w9 : ∀ k : Nat, (k : Int) = (Fm 20).toInt → (Am' 9 k).toInt = q := fun k hk => by
    have e : k = (Fm 20).toInt.toNat := by omega
    rw [e]; exact m9
  have w10 : ∀ k : Nat, (k : Int) = (Fm 20).toInt → (Am' 10 k).toInt = (F d (cq q)).toInt := fun k hk => by
    have e : k = (Fm 20).toInt.toNat := by omega
    rw [e]; exact m10
  have ff : ∀ q', q' < 4 → (F d (cq q')).toInt ≤ (F' d (cq q')).toInt := fun q' hq' => by
    by_cases e : q' = q
    · subst e; omega
    · rw [f2 q' hq' e]; omega
  refine ⟨by omega, fun q' hq' => ?_, fun k hk => ?_, fun q' hq' i i0 i1 => ?_, fun k k' hkk hk he => ?_⟩
  · by_cases e : q' = q
    · subst e; omega
    · rw [f2 q' hq' e]; exact N.bd q' hq'
  · by_cases e : (k : Int) < (Fm 20).toInt
    · obtain ⟨q', hq', h9, h0, h1, t⟩ := N.na k e
      have := ff q' hq'
      exact ⟨q', hq', by rw [o9 k e]; exact h9, by rw [o10 k e]; exact h0, by rw [o10 k e]; omega, by rw [o10 k e, o8 k e]; exact t⟩
    · have e' : (k : Int) = (Fm 20).toInt := by omega
      refine ⟨q, hq, w9 k e', by rw [w10 k e']; omega, by rw [w10 k e']; omega, ?_⟩
      have e2 : k = (Fm 20).toInt.toNat := by omega
      rw [w10 k e', hx, e2, m8]
      exact tn
  · by_cases e : q' = q ∧ i = (F d (cq q)).toInt
    · obtain ⟨rfl, rfl⟩ := e
      exact ⟨(Fm 20).toInt.toNat, by omega, m9, m10⟩
    · have i2 : i < (F d (cq q')).toInt := by
        by_cases e1 : q' = q
        · subst e1
          have : i ≠ (F d (cq q')).toInt := fun h => e ⟨rfl, h⟩
          omega
        · rw [f2 q' hq' e1] at i1; exact i1
      obtain ⟨k, k1, k2, k3⟩ := N.nb q' hq' i i0 i2
      exact ⟨k, by omega, by rw [o9 k k1]; exact k2, by rw [o10 k k1]; exact k3⟩
  · by_cases e : (k' : Int) < (Fm 20).toInt
    · rw [o10 k (by omega), o10 k' e]
      rw [o9 k (by omega), o9 k' e] at he
      exact N.nc k k' hkk e he
    · have e' : (k' : Int) = (Fm 20).toInt := by omega
      rw [w9 k' e', o9 k (by omega)] at he
      rw [w10 k' e', o10 k (by omega)]
      obtain ⟨q', hq', h9, h0, h1, t⟩ := N.na k (by omega)
      have : q' = q := by omega
      subst this
      exact h1
/-- the reference notes a name -/
theorem g_notes {x1 x2 x3 : Int32} {r} (h : d_notes Fm Am Jm x1 x2 x3 = some r) : ∃ Fm' Am' Jm', r = ((), Fm', Am', Jm') ∧ 0 ≤ x1.toInt ∧ 0 ≤ (Fm 20).toInt ∧ (Fm 20).toInt < 32 ∧ Fm' 20 = Fm 20 + 1 ∧ (∀ q, q ≠ 20 → Fm' q = Fm q) ∧ (∀ q, q ≠ 9 → q ≠ 10 → Am' q = Am q) ∧ ai Am' 9 (Fm 20).toInt = x2.toInt ∧ (∀ j, 0 ≤ j → j ≠ (Fm 20).toInt → ai Am' 9 j = ai Am 9 j) ∧ ai Am' 10 (Fm 20).toInt = x3.toInt ∧ (∀ j, 0 ≤ j → j ≠ (Fm 20).toInt → ai Am' 10 j = ai Am 10 j) ∧ Jm' 8 (Fm 20).toInt.toNat = Jm 6 x1.toInt.toNat ∧ (∀ j : Int, 0 ≤ j → j ≠ (Fm 20).toInt → Jm' 8 j.toNat = Jm 8 j.toNat) ∧ (∀ q, q ≠ 8 → Jm' q = Jm q) := by
  unfold d_notes at h
  obtain ⟨v, e1, h⟩ := Option.bind_eq_some_iff.mp h
  obtain ⟨J2, e2, h⟩ := Option.bind_eq_some_iff.mp h
  obtain ⟨A3, e3, h⟩ := Option.bind_eq_some_iff.mp h
  obtain ⟨A4, e4, h⟩ := Option.bind_eq_some_iff.mp h
  obtain ⟨F5, e5, h⟩ := Option.bind_eq_some_iff.mp h
  cases h
  have a1 := gg_ldJ e1
  have a2 := gg_stJ e2
  have a3 := gg_st e3
  have a4 := gg_st e4
  have a5 := gg_pf e5
  refine ⟨F5, A4, J2, rfl, a1.1, a2.1, a2.2.1, a5.1, a5.2, fun q h9 h10 => by rw [a4.2.2.1 q h10, a3.2.2.1 q h9], ?_, fun j hj hn => ?_, a4.2.2.2.1, fun j hj hn => ?_, by rw [a2.2.2.2.1, a1.2.2], a2.2.2.2.2, a2.2.2.1⟩
  · rw [ai_fr (a4.2.2.1 9 (by decide))]; exact a3.2.2.2.1
  · rw [ai_fr (a4.2.2.1 9 (by decide))]; exact a3.2.2.2.2 j hj hn
  · rw [a4.2.2.2.2 j hj hn, ai_fr (a3.2.2.1 10 (by decide))]
/-- takeFirst beside roomFor -/
theorem p2_first {f} {g} {x most : Int32} (K : TKs T) (R : RT T F Fm) (X : RX T A J Am Jm) (hk : KR k.toInt k'.toInt) (hl : k'.toInt ≠ 0 ∧ k'.toInt ≠ 3) (hm : (Am 3 (Fm 11).toInt.toNat).toInt = k'.toInt) (hx : x.toInt ≤ most.toInt) (ks : ∀ F' Fm', RU T F F' Fm Fm' → x.toInt < most.toInt → P2 (f ((), P, F', A, J)) (g ((), Fm', Am, Jm)) Q) (kf : ∀ F' Fm', FrC F F' → FrM Fm Fm' → FE F' Fm' → P2 (f ((), P, F', A, J)) (g ((), Fm', Am, Jm)) Q) : P2 (α := γ) (β := δ) ((e_Reader_takeFirst P F A J k x most).bind f) ((d_roomFor Fm Am Jm x most).bind g) Q := by
  have t0 := R.t0
  have t1 := R.t1
  have tk := R.tk
  unfold e_Reader_takeFirst d_roomFor
  by_cases c : x.toInt < most.toInt
  · rw [i_lt.mpr c, cond_true, i_ne.mpr (by omega), cond_true]
    unfold e_Reader_takeFirst_22 d_roomFor_10
    rw [i_nne.mpr (by rw [R.g0]; rfl), cond_false, Option.bind_assoc, Option.bind_assoc]
    exact p2_goes K R X hk hl hm (fun F' Fm' U => ks F' Fm' U c) kf
  · rw [i_nlt.mpr (by omega), cond_false, i_nne.mpr (by omega), cond_false]
    obtain ⟨F', e, h1, h2⟩ := e_fail_0 (P := P) (F := F) (A := A) (J := J) (k := 2) (v := A 37 3 (F 37 7).toInt.toNat) R.f0
    obtain ⟨Fm', e', h1', h2', _⟩ := d_fail_0 (F := Fm) (A := Am) (J := Jm) (k := 2) R.g0 t0 t1
    rw [m_ld_in (by rw [tk]; exact t0) (by rw [tk]; omega), Option.bind_some, e, Option.bind_some, e', Option.bind_some]
    dsimp only
    rw [e_take_ff (by rw [h1]; decide), Option.bind_some, i_ne.mpr (by rw [h1']; decide), cond_true, Option.bind_some]
    dsimp only
    rw [Option.bind_some]
    exact kf F' Fm' h2 h2' ⟨by rw [h1, h1'], by rw [h1']; decide⟩
/-- what a sentence leaves, on both sides -/
def RS (T : TS) (d : Nat) (P : Nat → Nat → Nat) (a : Unit × (Nat → Nat → Nat) × (Nat → Nat → Int32) × (Nat → Nat → Nat → Int32) × (Nat → Nat → Nat → Int64)) (b : Unit × (Nat → Int32) × (Nat → Nat → Int32) × (Nat → Nat → Int64)) : Prop := FE a.2.2.1 b.2.1 ∨ (RT T a.2.2.1 b.2.1 ∧ RX T a.2.2.2.1 a.2.2.2.2 b.2.2.1 b.2.2.2 ∧ RH d a.2.2.1 a.2.2.2.1 a.2.2.2.2 b.2.1 b.2.2.1 b.2.2.2 ∧ RW d a.2.2.1 a.2.2.2.1 b.2.1 b.2.2.1)
theorem FE.c {F : Nat → Nat → Int32} {Fm : Nat → Int32} (E : FE F Fm) : (F 37 10).toInt ≠ 0 := by
  rw [E.1]
  have := E.2
  omega
theorem FE.gg {F : Nat → Nat → Int32} {Fm : Nat → Int32} (E : FE F Fm) : 0 < (Fm 13).toInt := E.2
theorem FE.nz {F : Nat → Nat → Int32} {Fm : Nat → Int32} (E : FE F Fm) : g_cnd .ne (Fm 13) 0 = true := i_ne.mpr (by rw [i_0]; have := E.2; omega)
theorem FE.le {F : Nat → Nat → Int32} {Fm : Nat → Int32} (E : FE F Fm) : g_cnd .le (Fm 13) 0 = false := i_nle.mpr (by rw [i_0]; exact E.2)
theorem FE.gt {F : Nat → Nat → Int32} {Fm : Nat → Int32} (E : FE F Fm) : g_cnd .gt (Fm 13) 0 = true := i_gt.mpr (by rw [i_0]; exact E.2)
theorem chk_in (h5 : P 37 5 = d) (hk : c_kind d = 6) : c_chk 6 (P 37 5) = some d := by
  unfold c_chk
  rw [h5, if_pos hk]
theorem cz_00 : g_cnd .eq (0 : Int32) 0 = true := rfl
theorem cz_10 : g_cnd .eq (1 : Int32) 0 = false := by decide
/-- both go on to their ends with the fault that they have -/
theorem p2_ff {x : Option (Unit × (Nat → Nat → Nat) × (Nat → Nat → Int32) × (Nat → Nat → Nat → Int32) × (Nat → Nat → Nat → Int64))} {z : Option (Unit × (Nat → Int32) × (Nat → Nat → Int32) × (Nat → Nat → Int64))} (E : FE F Fm) (h1 : po x (fun a => a.2.2.1 37 10 = F 37 10)) (h2 : po z (fun b => b.2.1 13 = Fm 13)) : P2 x z (RS T d P) :=
  p2_of h1 h2 (fun a b ha hb => .inl ⟨by rw [ha, hb]; exact E.1, by rw [hb]; exact E.2⟩)
theorem p2_eta {x : Option γ} {z : Option (Unit × (Nat → Int32) × (Nat → Nat → Int32) × (Nat → Nat → Int64))} {Q : γ → Unit × (Nat → Int32) × (Nat → Nat → Int32) × (Nat → Nat → Int64) → Prop} (h : P2 x z Q) : P2 x (z.bind fun (_, F10, A11, J12) => some ((), F10, A11, J12)) Q := by
  intro a b ha hb
  obtain ⟨⟨u, F1, A1, J1⟩, e, hb⟩ := Option.bind_eq_some_iff.mp hb
  cases hb
  exact h a _ ha e
theorem rq_inj : ∀ q, q < 4 → ∀ q', q' < 4 → q' ≠ q → rq q' ≠ rq q ∧ cq q' ≠ cq q := by decide
theorem rq_ne : ∀ q, q < 4 → rq q ≠ 9 ∧ rq q ≠ 10 ∧ rq q ≠ 12 ∧ rq q ≠ 22 ∧ rq q ≠ 33 ∧ rq q ≠ 3 ∧ rq q ≠ 4 ∧ rq q ≠ 5 := by decide
/-- something with a name has been told: one more of it -/
theorem q_tail {tok s : Int32} (hq : q < 4) (hs : s.toInt = q) (hd : d ≠ 37) (R : RT T F Fm) (X : RX T A J Am Jm) (H : RH d F A J Fm Am Jm) {x : Int64} (hx : J 37 (7 + q) (F d (cq q)).toInt.toNat = x) (tn : TNi x.toInt (T.jr tok.toInt.toNat).toInt) (hl : (F d (cq q)).toInt < (ql q : Int)) (hsc : q = 2 → ci A d 5 (F d 16).toInt = ai Am 22 (6 * (Fm 19).toInt + (F d 16).toInt)) (W : RWc (F d 14).toInt (nx q 1 (F d 15).toInt) (nx q 2 (F d 16).toInt) (nx q 3 (F d 17).toInt) d F A Fm Am) : P2 ((c_pf F d (cq q) (F d (cq q) + 1)).bind fun F4 => some ((), P, F4, A, J)) ((m_ld (Am (rq q)) 2 (Fm 19)).bind fun v10 => (d_notes Fm Am Jm tok s v10).bind fun (_, F12, A13, J14) => (m_ld (A13 (rq q)) 2 (F12 19)).bind fun v15 => (m_st A13 (rq q) 2 (F12 19) (v15 + 1)).bind fun A16 => some ((), F12, A16, J14)) (RS T d P) := by
  have l1 := i_1
  have bd := H.nr.bd q hq
  have lq : (ql q : Int) ≤ 8 := by unfold ql; split <;> decide
  have ne := rq_ne q hq
  refine p2_bl (fun F4 e4 => ?_)
  have U4 := gg_cpf e4
  refine p2_br (fun v10 e10 => ?_)
  have a10 := gg_ld e10
  refine p2_br (fun r hr => ?_)
  obtain ⟨Fm5, Am5, Jm5, rfl, z1, z2, z3, n20, no, na, n9, n9o, n10, n10o, n8, n8o, nj⟩ := g_notes hr
  dsimp only
  refine p2_br (fun v15 e15 => ?_)
  have a15 := gg_ld e15
  refine p2_br (fun Am6 e16 => ?_)
  have a16 := gg_st e16
  have e19 : Fm5 19 = Fm 19 := no 19 (by decide)
  have hcn := H.cn q hq
  have f1 : (F4 d (cq q)).toInt = (F d (cq q)).toInt + 1 := by rw [U4.1, i_add (by omega) (by omega), i_1]
  have v15e : v15 = F d (cq q) := by rw [a15.2.2, e19, na _ ne.1 ne.2.1, hcn]
  have v10e : v10 = F d (cq q) := by rw [a10.2.2, hcn]
  have m20 : (Fm5 20).toInt = (Fm 20).toInt + 1 := by rw [n20, i_add (by omega) (by omega), i_1]
  have k6 := X.k6
  have nxe : ∀ q', q' < 4 → (F4 d (cq q')).toInt = nx q q' (F d (cq q')).toInt := fun q' hq' => by
    unfold nx
    by_cases e : q = q'
    · subst e
      rw [if_pos rfl]
      exact f1
    · rw [if_neg e, U4.2 d (cq q') (fun h => (rq_inj q hq q' hq' (fun h => e h.symm)).2 h.2)]
  have rqv : rq q = 11 ∨ rq q = 17 ∨ rq q = 19 ∨ rq q = 29 := rq_in q
  have cqv := cq_lt hq
  refine p2_some (.inr ⟨?_, ?_, ?_, ?_⟩)
  · exact R.cg (fun k _ => U4.2 37 k (fun e => hd e.1.symm)) (fun q hq => no q (by omega))
  · have X6 : RX T A J Am6 Jm5 := X.fr rfl rfl rfl rfl rfl (by rw [a16.2.2.1 3 (by omega), na 3 (by decide) (by decide)]) (by rw [a16.2.2.1 4 (by omega), na 4 (by decide) (by decide)]) (by rw [a16.2.2.1 5 (by omega), na 5 (by decide) (by decide)]) (nj 6 (by decide)) (nj 7 (by decide))
    exact X6
  · refine ⟨by show 0 ≤ (Fm5 19).toInt; rw [e19]; exact H.s0, by show (Fm5 19).toInt ≤ 1; rw [e19]; exact H.s1, fun q' hq' => ?_, ?_, ?_, fun k k0 k1 => ?_, ?_, by show (Fm5 12).toInt = 0; rw [no 12 (by decide)]; exact H.op⟩
    · show F4 d (cq q') = Am6 (rq q') (Fm5 19).toInt.toNat
      by_cases e : q' = q
      · subst e
        refine i_ext ?_
        have w : ai Am6 (rq q') (Fm5 19).toInt = (v15 + 1).toInt := a16.2.2.2.1
        have w' : (Am6 (rq q') (Fm5 19).toInt.toNat).toInt = (v15 + 1).toInt := w
        rw [w', v15e, U4.1]
      · have i := rq_inj q hq q' hq' e
        rw [U4.2 d (cq q') (fun h => i.2 h.2), a16.2.2.1 _ i.1, e19, na _ (rq_ne q' hq').1 (rq_ne q' hq').2.1]
        exact H.cn q' hq'
    · show F4 d 14 = Am6 12 (Fm5 19).toInt.toNat
      rw [U4.2 d 14 (fun h => (cq_lt hq).2.2 h.2.symm), a16.2.2.1 12 (by omega), na 12 (by decide) (by decide), e19]
      exact H.dr
    · show F4 37 9 = Am6 33 (Fm5 19).toInt.toNat
      rw [U4.2 37 9 (fun h => hd h.1.symm), a16.2.2.1 33 (by omega), na 33 (by decide) (by decide), e19]
      exact H.lw
    · show ci A d 5 k = ai Am6 22 (6 * (Fm5 19).toInt + k)
      rw [e19, ai_fr (a16.2.2.1 22 (by omega)), ai_fr (na 22 (by decide) (by decide))]
      have k1 : k < (F4 d 16).toInt := k1
      by_cases e : q = 2
      · subst e
        have f1 : (F4 d 16).toInt = (F d 16).toInt + 1 := f1
        by_cases e2 : k = (F d 16).toInt
        · rw [e2]; exact hsc rfl
        · exact H.sc k k0 (by omega)
      · have i := rq_inj q hq 2 (by decide) (fun h => e h.symm)
        rw [U4.2 d 16 (fun h => i.2 h.2)] at k1
        exact H.sc k k0 k1
    · show NR d F4 J Fm5 Am6 Jm5
      refine (H.nr.add hq hx tn hl f1 (fun q' hq' e => U4.2 d (cq q') (fun h => (rq_inj q hq q' hq' e).2 h.2)) m20 ?_ ?_ ?_ ?_ ?_ n8o)
      · rw [ai_fr (a16.2.2.1 9 (by omega)), n9, hs]
      · intro j hj hn; rw [ai_fr (a16.2.2.1 9 (by omega))]; exact n9o j hj hn
      · rw [ai_fr (a16.2.2.1 10 (by omega)), n10, v10e]
      · intro j hj hn; rw [ai_fr (a16.2.2.1 10 (by omega))]; exact n10o j hj hn
      · rw [n8, k6]
  · show RWc (F4 d 14).toInt (F4 d 15).toInt (F4 d 16).toInt (F4 d 17).toInt d F4 A Fm5 Am6
    rw [show (F4 d 15).toInt = _ from nxe 1 (by decide), show (F4 d 16).toInt = _ from nxe 2 (by decide), show (F4 d 17).toInt = _ from nxe 3 (by decide), U4.2 d 14 (fun h => cqv.2.2 h.2.symm)]
    exact W.fr H.s0 (U4.2 3 7 (by omega)) (U4.2 3 8 (by omega)) (U4.2 d 18 (by omega)) (fun _ => rfl) (fun _ _ _ => rfl) e19 (fun q h1 h2 h3 h4 h5 h6 h7 => by rw [a16.2.2.1 q (by omega), na q (by omega) (by omega)])
theorem RHo.ix6 {o : Int} {v : Int32} (H : RHo o d F A J Fm Am Jm) (h0 : 0 ≤ v.toInt) (h1 : v.toInt ≤ 12) : (6 * Fm 19 + v).toInt = 6 * (Fm 19).toInt + v.toInt := by
  have s0 := H.s0
  have s1 := H.s1
  have em := i_mulL (c := 6) (k := 6) (x := Fm 19) (by decide) (by omega) (by omega)
  rw [i_add (by omega) (by omega), em]
theorem RHo.ix12 {o : Int} {v : Int32} (H : RHo o d F A J Fm Am Jm) (h0 : 0 ≤ v.toInt) (h1 : v.toInt ≤ 12) : (12 * Fm 19 + v).toInt = 12 * (Fm 19).toInt + v.toInt := by
  have s0 := H.s0
  have s1 := H.s1
  have em := i_mulL (c := 12) (k := 12) (x := Fm 19) (by decide) (by omega) (by omega)
  rw [i_add (by omega) (by omega), em]
/-- a room is told -/
theorem q_room (K : TKs T) (R : RT T F Fm) (X : RX T A J Am Jm) (H : RH d F A J Fm Am Jm) (W : RW d F A Fm Am) (h5 : P 37 5 = d) (hk : c_kind d = 6) (hm : (Am 3 (Fm 11).toInt.toNat).toInt = (20 : Int32).toInt) : P2 (e_Reader_readRoom n P F A J) ((d_roomFor Fm Am Jm (Am 11 (Fm 19).toInt.toNat) 8).bind fun (_, F5, A6, J7) => cond (g_cnd .ne (F5 13) 0) (some ((), F5, A6, J7)) ((d_tellRoom m F5 A6 J7).bind fun (_, F10, A11, J12) => some ((), F10, A11, J12))) (RS T d P) := by
  have hd := kd37 hk
  have hc := chk_in h5 hk
  have l8 : (8 : Int32).toInt = 8 := by decide
  have bd : 0 ≤ (F d 13).toInt ∧ (F d 13).toInt ≤ 8 := H.nr.bd 0 (by decide)
  have rm : F d 13 = Am 11 (Fm 19).toInt.toNat := H.cn 0 (by decide)
  unfold e_Reader_readRoom
  rw [hc, Option.bind_some, ← rm]
  refine p2_first (k' := 20) K R X (by decide) (by decide) hm (by omega) (fun F1 Fm1 U1 hx => ?_) (fun F1 Fm1 fc fm E => ?_)
  · have R1 := U1.rt
    have H1 := H.v hd U1.c U1.m
    have e13 : F1 d 13 = F d 13 := U1.c d 13 (fun e => hd e.1)
    dsimp only
    rw [hc, Option.bind_some, i_nne.mpr (by rw [R1.g0]; rfl), cond_false, new_0]
    refine p2_eta ?_
    unfold d_tellRoom
    refine p2_new (q := 0) (by decide) h5 (show (F1 d 13).toInt < 8 by rw [e13]; omega) K R1 X H1.nr (fun F2 J2 Fm2 V2 tn ju => ?_) (fun F2 Fm2 fc fm E => ?_)
    · have X2 := X.j ju
      have H2 := (H1.j ju).v hd V2.fc V2.fm
      have c2 : F2 d 13 = F1 d 13 := V2.fc d 13 (fun e => hd e.1)
      dsimp only
      refine p2_take K V2.rt X2 (by decide) (by decide) (fun F3 Fm3 U3 _ => ?_) (fun F3 Fm3 fc fm E _ => ?_)
      · have H3 := H2.v hd U3.c U3.m
        have c3 : F3 d 13 = F1 d 13 := (U3.c d 13 (fun e => hd e.1)).trans c2
        dsimp only
        rw [cz_10, cond_false, hc, Option.bind_some, i_le.mpr (by rw [U3.rt.g0, i_0]; decide), cond_true]
        exact q_tail (q := 0) (by decide) (by decide) hd U3.rt X2 H3 (show J2 37 7 (F3 d 13).toInt.toNat = _ by rw [c3]; exact ju.1) tn (show (F3 d 13).toInt < 8 by rw [c3, e13]; omega) (fun h => absurd h (by decide)) (((W.v H.s0 hd U1.c U1.m).v H1.s0 hd V2.fc V2.fm).v H2.s0 hd U3.c U3.m)
      · refine p2_ff E ?_ ?_
        · (simp only [hc, new_0, new_1, new_2, new_3, known_0, known_1, known_2, known_3, gnew_ff E.c, gknown_ff E.c, e_num_ff E.c, e_take_ff E.c, e_next_ff E.c, Option.bind_some, cz_00, cond_true]; exact po_some rfl)
        · ((try dsimp only); repeat' (first | exact po_some rfl | rw [FE.nz E, cond_true] | rw [FE.le E, cond_false] | rw [FE.gt E, cond_true] | rw [d_must_ff (FE.gg E), Option.bind_some] | rw [d_known_ff (FE.gg E), Option.bind_some] | rw [d_num_ff (FE.gg E), Option.bind_some] | rw [d_is_ff (FE.gg E), Option.bind_some] | (refine po_call (d_named_ff (FE.gg E)) ?_; rintro _ rfl; try dsimp only) | refine po_cond (fun _ => ?_) (fun _ => ?_) | refine po_bl (fun _ _ => ?_)))
    · refine p2_ff E ?_ ?_
      · (simp only [hc, new_0, new_1, new_2, new_3, known_0, known_1, known_2, known_3, gnew_ff E.c, gknown_ff E.c, e_num_ff E.c, e_take_ff E.c, e_next_ff E.c, Option.bind_some, cz_00, cond_true]; exact po_some rfl)
      · ((try dsimp only); repeat' (first | exact po_some rfl | rw [FE.nz E, cond_true] | rw [FE.le E, cond_false] | rw [FE.gt E, cond_true] | rw [d_must_ff (FE.gg E), Option.bind_some] | rw [d_known_ff (FE.gg E), Option.bind_some] | rw [d_num_ff (FE.gg E), Option.bind_some] | rw [d_is_ff (FE.gg E), Option.bind_some] | (refine po_call (d_named_ff (FE.gg E)) ?_; rintro _ rfl; try dsimp only) | refine po_cond (fun _ => ?_) (fun _ => ?_) | refine po_bl (fun _ _ => ?_)))
  · refine p2_ff E ?_ ?_
    · (simp only [hc, new_0, new_1, new_2, new_3, known_0, known_1, known_2, known_3, gnew_ff E.c, gknown_ff E.c, e_num_ff E.c, e_take_ff E.c, e_next_ff E.c, Option.bind_some, cz_00, cond_true]; exact po_some rfl)
    · (dsimp only; rw [FE.nz E, cond_true]; exact po_some rfl)
end A6
end Qz100
section Qz101
section A7
variable {T : TS} {d n m q : Nat} {P : Nat → Nat → Nat} {F F' : Nat → Nat → Int32} {A A' : Nat → Nat → Nat → Int32} {J J' : Nat → Nat → Nat → Int64} {Fm Fm' : Nat → Int32} {Am Am' : Nat → Nat → Int32} {Jm Jm' : Nat → Nat → Int64} {k k' x2 : Int32}
theorem RV.h {o : Int} (V : RV T F F' Fm Fm') (hd : d ≠ 37) (H : RHo o d F A J Fm Am Jm) : RHo o d F' A J Fm' Am Jm := H.v hd V.fc V.fm
theorem RV.dg (V : RV T F F' Fm Fm') (hd : d ≠ 37) (k : Nat) : F' d k = F d k := V.fc d k (fun e => hd e.1)
theorem RU.dg (V : RU T F F' Fm Fm') (hd : d ≠ 37) (k : Nat) : F' d k = F d k := V.fc d k (fun e => hd e.1)
theorem RT.nz (R : RT T F Fm) : g_cnd .ne (Fm 13) 0 = false := i_nne.mpr (by rw [R.g0]; rfl)
theorem RT.le (R : RT T F Fm) : g_cnd .le (Fm 13) 0 = true := i_le.mpr (by rw [R.g0, i_0]; decide)
theorem RT.gt (R : RT T F Fm) : g_cnd .gt (Fm 13) 0 = false := i_ngt.mpr (by rw [R.g0, i_0]; decide)
/-- a tool is told -/
theorem q_tool (K : TKs T) (R : RT T F Fm) (X : RX T A J Am Jm) (H : RH d F A J Fm Am Jm) (W : RW d F A Fm Am) (h5 : P 37 5 = d) (h6 : P 37 6 = 3) (hk : c_kind d = 6) (hm : (Am 3 (Fm 11).toInt.toNat).toInt = (23 : Int32).toInt) : P2 (e_Reader_readTool n P F A J) ((d_roomFor Fm Am Jm (Am 17 (Fm 19).toInt.toNat) 6).bind fun (_, F5, A6, J7) => cond (g_cnd .ne (F5 13) 0) (some ((), F5, A6, J7)) ((d_tellTool m F5 A6 J7).bind fun (_, F10, A11, J12) => some ((), F10, A11, J12))) (RS T d P) := by
  have hd := kd37 hk
  have hd3 := kd3 hk
  have hc := chk_in h5 hk
  have l6 : (6 : Int32).toInt = 6 := by decide
  have bd : 0 ≤ (F d 15).toInt ∧ (F d 15).toInt ≤ 6 := H.nr.bd 1 (by decide)
  have rm : F d 15 = Am 17 (Fm 19).toInt.toNat := H.cn 1 (by decide)
  unfold e_Reader_readTool
  rw [hc, Option.bind_some, ← rm]
  refine p2_first (k' := 23) K R X (by decide) (by decide) hm (by omega) (fun F1 Fm1 U1 hx => ?_) (fun F1 Fm1 fc fm E => ?_)
  · have R1 := U1.rt
    have H1 := U1.v.h hd H
    have e1 := U1.dg hd 15
    dsimp only
    rw [hc, Option.bind_some, R1.nz, cond_false, new_1]
    refine p2_eta ?_
    unfold d_tellTool
    refine p2_new (q := 1) (by decide) h5 (show (F1 d 15).toInt < 6 by rw [e1]; omega) K R1 X H1.nr (fun F2 J2 Fm2 V2 tn ju => ?_) (fun F2 Fm2 fc fm E => ?_)
    · have X2 := X.j ju
      have H2 := V2.h hd (H1.j ju)
      have e2 := V2.dg hd 15
      dsimp only
      rw [hc, Option.bind_some, known_0]
      refine p2_br (fun v5 e5 => ?_)
      refine p2_known (q := 0) (by decide) (by decide) K V2.rt X2 H2.nr (fun v F3 Fm3 V3 _ hv => ?_) (fun F3 Fm3 fc fm E _ => ?_)
      · have H3 := V3.h hd H2
        have e3 := V3.dg hd 15
        dsimp only
        refine p2_br (fun Am4 e4 => ?_)
        have a4 := gg_st e4
        have X4 := X2.a (Am' := Am4) (fun q hq => a4.2.2.1 q (by omega))
        have H4 := H3.a (Am' := Am4) (fun q hq => a4.2.2.1 q (by omega))
        have s0 := H3.s0
        have W3 : RW d F3 A Fm3 Am := ((W.v H.s0 hd U1.c U1.m).v H1.s0 hd V2.fc V2.fm).v H2.s0 hd V3.fc V3.fm
        have v5e : v5 = F1 d 15 := by rw [(gg_ld e5).2.2, ← e2]; exact (H2.cn 1 (by decide)).symm
        have ix : (6 * Fm2 19 + v5).toInt = 6 * (Fm3 19).toInt + (F3 d 15).toInt := by
          rw [H2.ix6 (v := v5) (by rw [v5e, e1]; omega) (by rw [v5e, e1]; omega), V3.fm 19 (by decide) (by decide) (by decide) (by decide) (by decide), e3, e2, v5e]
        have W4 : RW d F3 A Fm3 Am4 := RWc.st W3 s0 a4.2.2.1 a4.2.2.2.2 (fun i h => by have h := RLg.cs h; rw [ix]; omega)
        refine p2_take K V3.rt X4 (by decide) (by decide) (fun F5 Fm5 U5 _ => ?_) (fun F5 Fm5 fc fm E _ => ?_)
        · have H5 := U5.v.h hd H4
          have e5 := U5.dg hd 15
          have W5 : RW d F5 A Fm5 Am4 := W4.v s0 hd U5.c U5.m
          dsimp only
          rw [cz_10, cond_false, U5.rt.le, cond_true]
          refine p2_bl (fun q25 e25 => ?_)
          obtain ⟨-, rfl⟩ := gg_chk e25
          rw [hc, Option.bind_some, h6]
          refine p2_bl (fun A6 e6 => ?_)
          have a6 := (gg_cst e6).2.2
          rw [Option.bind_some]
          have X6 := X4.ca (A' := A6) (fun o => a6.2.2 37 o (fun e => absurd e.1 (by decide)))
          have H6 : RH d F5 A6 J2 Fm5 Am4 Jm := H5.fr (fun _ _ _ => rfl) rfl (a6.2.2 d 5 (fun e => hd3 e.1)) (fun _ _ => rfl) rfl rfl rfl (fun _ _ => rfl) rfl
          have e15 : F5 d 15 = F1 d 15 := by rw [e5, e3, e2]
          obtain ⟨w1, w2, w3, w4, w5, w6, w7⟩ := W5
          have l3 : ∀ o, A6 d o = A d o := fun o => a6.2.2 d o (fun e => hd3 e.1)
          have t3 : ∀ o, o ≠ 4 → A6 3 o = A 3 o := fun o ho => a6.2.2 3 o (fun e => ho e.2)
          have e519 : Fm5 19 = Fm3 19 := U5.fm 19 (by decide)
          refine q_tail (q := 1) (by decide) (by decide) hd U5.rt X6 H6 (show J2 37 8 (F5 d 15).toInt.toNat = _ by rw [e15]; exact ju.1) tn (show (F5 d 15).toInt < 6 by rw [e15, e1]; omega) (fun h => absurd h (by decide)) ⟨w1.ca (fun o _ _ => l3 o), w2.add (fun k k0 _ kn => a6.2.1 k k0 kn) (by rw [e15, e1]; omega) ?_ (by rw [e15, e1]; omega), w3.ca (l3 4) (t3 2 (by decide)), w4.ca (fun o _ _ => l3 o), w5.ca (l3 12) (t3 3 (by decide)), w6.ca (fun o ho => t3 o (by omega)), w7⟩
          rw [a6.1, e519, e5, ← ix, a4.2.2.2.1]
        · refine p2_ff E ?_ ?_
          · (simp only [hc, new_0, new_1, new_2, new_3, known_0, known_1, known_2, known_3, gnew_ff E.c, gknown_ff E.c, e_num_ff E.c, e_take_ff E.c, e_next_ff E.c, Option.bind_some, cz_00, cond_true]; exact po_some rfl)
          · ((try dsimp only); repeat' (first | exact po_some rfl | rw [FE.nz E, cond_true] | rw [FE.le E, cond_false] | rw [FE.gt E, cond_true] | rw [d_must_ff (FE.gg E), Option.bind_some] | rw [d_known_ff (FE.gg E), Option.bind_some] | rw [d_num_ff (FE.gg E), Option.bind_some] | rw [d_is_ff (FE.gg E), Option.bind_some] | (refine po_call (d_named_ff (FE.gg E)) ?_; rintro _ rfl; try dsimp only) | refine po_cond (fun _ => ?_) (fun _ => ?_) | refine po_bl (fun _ _ => ?_)))
      · refine p2_ff E ?_ ?_
        · (simp only [hc, new_0, new_1, new_2, new_3, known_0, known_1, known_2, known_3, gnew_ff E.c, gknown_ff E.c, e_num_ff E.c, e_take_ff E.c, e_next_ff E.c, Option.bind_some, cz_00, cond_true]; exact po_some rfl)
        · ((try dsimp only); repeat' (first | exact po_some rfl | rw [FE.nz E, cond_true] | rw [FE.le E, cond_false] | rw [FE.gt E, cond_true] | rw [d_must_ff (FE.gg E), Option.bind_some] | rw [d_known_ff (FE.gg E), Option.bind_some] | rw [d_num_ff (FE.gg E), Option.bind_some] | rw [d_is_ff (FE.gg E), Option.bind_some] | (refine po_call (d_named_ff (FE.gg E)) ?_; rintro _ rfl; try dsimp only) | refine po_cond (fun _ => ?_) (fun _ => ?_) | refine po_bl (fun _ _ => ?_)))
    · refine p2_ff E ?_ ?_
      · (simp only [hc, new_0, new_1, new_2, new_3, known_0, known_1, known_2, known_3, gnew_ff E.c, gknown_ff E.c, e_num_ff E.c, e_take_ff E.c, e_next_ff E.c, Option.bind_some, cz_00, cond_true]; exact po_some rfl)
      · ((try dsimp only); repeat' (first | exact po_some rfl | rw [FE.nz E, cond_true] | rw [FE.le E, cond_false] | rw [FE.gt E, cond_true] | rw [d_must_ff (FE.gg E), Option.bind_some] | rw [d_known_ff (FE.gg E), Option.bind_some] | rw [d_num_ff (FE.gg E), Option.bind_some] | rw [d_is_ff (FE.gg E), Option.bind_some] | (refine po_call (d_named_ff (FE.gg E)) ?_; rintro _ rfl; try dsimp only) | refine po_cond (fun _ => ?_) (fun _ => ?_) | refine po_bl (fun _ _ => ?_)))
  · refine p2_ff E ?_ ?_
    · (simp only [hc, new_0, new_1, new_2, new_3, known_0, known_1, known_2, known_3, gnew_ff E.c, gknown_ff E.c, e_num_ff E.c, e_take_ff E.c, e_next_ff E.c, Option.bind_some, cz_00, cond_true]; exact po_some rfl)
    · (dsimp only; rw [FE.nz E, cond_true]; exact po_some rfl)
/-- a task is told -/
theorem q_task (K : TKs T) (R : RT T F Fm) (X : RX T A J Am Jm) (H : RH d F A J Fm Am Jm) (W : RW d F A Fm Am) (h5 : P 37 5 = d) (h6 : P 37 6 = 3) (hk : c_kind d = 6) (hz : ∀ t, cf F d 16 ≤ t → t < 6 → ci A d 5 t = 0) (hm : (Am 3 (Fm 11).toInt.toNat).toInt = (24 : Int32).toInt) : P2 (e_Reader_readTask n P F A J) ((d_roomFor Fm Am Jm (Am 19 (Fm 19).toInt.toNat) 6).bind fun (_, F5, A6, J7) => cond (g_cnd .ne (F5 13) 0) (some ((), F5, A6, J7)) ((d_tellTask m F5 A6 J7).bind fun (_, F10, A11, J12) => some ((), F10, A11, J12))) (RS T d P) := by
  have hd := kd37 hk
  have hd3 := kd3 hk
  have hc := chk_in h5 hk
  have l6 : (6 : Int32).toInt = 6 := by decide
  have bd : 0 ≤ (F d 16).toInt ∧ (F d 16).toInt ≤ 6 := H.nr.bd 2 (by decide)
  have rm : F d 16 = Am 19 (Fm 19).toInt.toNat := H.cn 2 (by decide)
  unfold e_Reader_readTask
  rw [hc, Option.bind_some, ← rm]
  refine p2_first (k' := 24) K R X (by decide) (by decide) hm (by omega) (fun F1 Fm1 U1 hx => ?_) (fun F1 Fm1 fc fm E => ?_)
  · have R1 := U1.rt
    have H1 := U1.v.h hd H
    have e1 := U1.dg hd 16
    dsimp only
    rw [hc, Option.bind_some, R1.nz, cond_false, new_2]
    refine p2_eta ?_
    unfold d_tellTask
    have s0 := H1.s0
    have s1 := H1.s1
    refine p2_br (fun v1 ev1 => ?_)
    have av1 := gg_ld ev1
    have v1e : v1 = F1 d 16 := by rw [av1.2.2]; exact (H1.cn 2 (by decide)).symm
    refine p2_new (q := 2) (by decide) h5 (show (F1 d 16).toInt < 6 by rw [e1]; omega) K R1 X H1.nr (fun F2 J2 Fm2 V2 tn ju => ?_) (fun F2 Fm2 fc fm E => ?_)
    · have X2 := X.j ju
      have H2 := V2.h hd (H1.j ju)
      have e2 := V2.dg hd 16
      dsimp only
      rw [hc, Option.bind_some, known_0]
      refine p2_known (q := 0) (by decide) (by decide) K V2.rt X2 H2.nr (fun v F3 Fm3 V3 _ hv => ?_) (fun F3 Fm3 fc fm E _ => ?_)
      · have H3 := V3.h hd H2
        have e3 := V3.dg hd 16
        dsimp only
        refine p2_br (fun Am4 e4 => ?_)
        have a4 := gg_st e4
        have X4 := X2.a (Am' := Am4) (fun q hq => a4.2.2.1 q (by omega))
        have H4 := H3.a (Am' := Am4) (fun q hq => a4.2.2.1 q (by omega))
        refine p2_num K V3.rt X4 (fun F5 Fm5 V5 _ => ?_) (fun v5 F5 Fm5 fc fm E => ?_)
        · have H5 := V5.h hd H4
          have e5 := V5.dg hd 16
          dsimp only
          refine p2_br (fun Am6 e6 => ?_)
          have a6 := gg_st e6
          refine p2_br (fun Am7 e7 => ?_)
          have a7 := gg_st e7
          have X7 := X4.a (Am' := Am7) (fun q hq => by rw [a7.2.2.1 q (by omega), a6.2.2.1 q (by omega)])
          have e16 : F5 d 16 = F1 d 16 := by rw [e5, e3, e2]
          have e19 : Fm5 19 = Fm1 19 := by
            rw [V5.fm 19 (by decide) (by decide) (by decide) (by decide) (by decide), V3.fm 19 (by decide) (by decide) (by decide) (by decide) (by decide), V2.fm 19 (by decide) (by decide) (by decide) (by decide) (by decide)]
          have em := i_mulL (c := 6) (k := 6) (x := Fm1 19) (by decide) (by omega) (by omega)
          have ei := i_add (x := 6 * Fm1 19) (y := v1) (by rw [v1e, e1]; omega) (by rw [v1e, e1]; omega)
          have ix : (6 * Fm1 19 + v1).toInt = 6 * (Fm5 19).toInt + (F5 d 16).toInt := by rw [ei, em, e19, e16, v1e]
          have e319 : Fm3 19 = Fm1 19 := by rw [V3.fm 19 (by decide) (by decide) (by decide) (by decide) (by decide), V2.fm 19 (by decide) (by decide) (by decide) (by decide) (by decide)]
          have e316 : F3 d 16 = F1 d 16 := by rw [e3, e2]
          have W3 : RW d F3 A Fm3 Am := ((W.v H.s0 hd U1.c U1.m).v H1.s0 hd V2.fc V2.fm).v H2.s0 hd V3.fc V3.fm
          have W4 : RW d F3 A Fm3 Am4 := RWc.st W3 H3.s0 a4.2.2.1 a4.2.2.2.2 (fun i h => by have h := RLg.cs h; rw [ix, e19, e16, ← e319, ← e316]; have := H3.s0; omega)
          have W5 : RW d F5 A Fm5 Am4 := W4.v H3.s0 hd V5.fc V5.fm
          have W6 : RW d F5 A Fm5 Am6 := RWc.st W5 H5.s0 a6.2.2.1 a6.2.2.2.2 (fun i h => by have h := RLg.cs h; rw [ix]; have := H5.s0; omega)
          have W7 : RW d F5 A Fm5 Am7 := RWc.st W6 H5.s0 a7.2.2.1 a7.2.2.2.2 (fun i h => by have h := RLg.cs h; omega)
          have o7 : ∀ q, q ≠ 21 → q ≠ 22 → Am7 q = Am4 q := fun q h1 h2 => by rw [a7.2.2.1 q h2, a6.2.2.1 q h1]
          have H7 : RH d F5 A J2 Fm5 Am7 Jm := by
            refine ⟨H5.s0, H5.s1, fun q hq => ?_, ?_, ?_, fun k k0 k1 => ?_, H5.nr.fr (fun _ _ => rfl) (fun _ _ => rfl) rfl (o7 9 (by decide) (by decide)) (o7 10 (by decide) (by decide)) rfl, H5.op⟩
            · rw [o7 (rq q) (by have := rq_in q; omega) (by have := rq_in q; omega)]; exact H5.cn q hq
            · rw [o7 12 (by decide) (by decide)]; exact H5.dr
            · rw [o7 33 (by decide) (by decide)]; exact H5.lw
            · rw [a7.2.2.2.2 _ (by rw [e19]; omega) (by rw [ix]; omega), ai_fr (a6.2.2.1 22 (by decide))]
              exact H5.sc k k0 k1
          refine p2_take K V5.rt X7 (by decide) (by decide) (fun F8 Fm8 U8 _ => ?_) (fun F8 Fm8 fc fm E _ => ?_)
          · have H8 := U8.v.h hd H7
            have e8 := U8.dg hd 16
            have e819 : Fm8 19 = Fm5 19 := U8.fm 19 (by decide)
            dsimp only
            rw [cz_10, cond_false, U8.rt.le, cond_true, hc, Option.bind_some, Option.bind_some]
            refine p2_bl (fun A9 e9 => ?_)
            have a9 := (gg_cst e9).2.2
            refine p2_bl (fun q25 e25 => ?_)
            obtain ⟨-, rfl⟩ := gg_chk e25
            rw [Option.bind_some, h6]
            refine p2_bl (fun A10 e10 => ?_)
            have a10 := (gg_cst e10).2.2
            rw [Option.bind_some]
            have o37 : ∀ o, A10 37 o = A 37 o := fun o => by rw [a10.2.2 37 o (fun e => absurd e.1 (by decide)), a9.2.2 37 o (fun e => hd e.1.symm)]
            have o5 : A10 d 5 = A d 5 := by rw [a10.2.2 d 5 (fun e => hd3 e.1), a9.2.2 d 5 (fun e => absurd e.2 (by decide))]
            have X10 := X7.ca (A' := A10) o37
            have H10 : RH d F8 A10 J2 Fm8 Am7 Jm := H8.fr (fun _ _ _ => rfl) rfl o5 (fun _ _ => rfl) rfl rfl rfl (fun _ _ => rfl) rfl
            have e816 : F8 d 16 = F1 d 16 := by rw [e8, e16]
            have W8 : RW d F8 A Fm8 Am7 := W7.v H5.s0 hd U8.c U8.m
            obtain ⟨w1, w2, w3, w4, w5, w6, w7⟩ := W8
            have l9 : ∀ o, o ≠ 4 → A10 d o = A d o := fun o ho => by rw [a10.2.2 d o (fun e => hd3 e.1), a9.2.2 d o (fun e => ho e.2)]
            have t9 : ∀ o, o ≠ 2 → A10 3 o = A 3 o := fun o ho => by rw [a10.2.2 3 o (fun e => ho e.2), a9.2.2 3 o (fun e => hd3 e.1.symm)]
            have r4 : A10 d 4 = A9 d 4 := a10.2.2 d 4 (fun e => hd3 e.1)
            have r2 : A9 3 2 = A 3 2 := a9.2.2 3 2 (fun e => hd3 e.1.symm)
            refine q_tail (q := 2) (by decide) (by decide) hd U8.rt X10 H10 (show J2 37 9 (F8 d 16).toInt.toNat = _ by rw [e816]; exact ju.1) tn (show (F8 d 16).toInt < 6 by rw [e816, e1]; omega) (fun _ => ?_) ⟨w1.ca (fun o _ _ => l9 o (by omega)), w2.ca (t9 4 (by decide)), w3.add (fun k k0 _ kn => ⟨by rw [ci_fr r4]; exact a9.2.1 k k0 kn, by rw [a10.2.1 k k0 kn, ci_fr r2]⟩) (by rw [e816, e1]; omega) ?_ ?_ (by rw [e816, e1]; omega), w4.add (fun o _ _ => l9 o (by omega)) (hz _ (by rw [e816, e1]; exact Int.le_refl _) (by rw [e816, e1]; omega)), w5.ca (l9 12 (by decide)) (t9 3 (by decide)), w6.ca (fun o ho => t9 o (by omega)), w7⟩
            · rw [ci_fr o5, e819, e8, ← ix, a7.2.2.2.1, e16, e1]
              exact hz _ (Int.le_refl _) (by omega)
            · rw [ci_fr r4, a9.1, e819, e8, ← ix, ai_fr (o7 20 (by decide) (by decide)), a4.2.2.2.1]
            · rw [a10.1, e819, e8, ← ix, ai_fr (a7.2.2.1 21 (by decide)), a6.2.2.2.1]
          · refine p2_ff E ?_ ?_
            · (simp only [hc, new_0, new_1, new_2, new_3, known_0, known_1, known_2, known_3, gnew_ff E.c, gknown_ff E.c, e_num_ff E.c, e_take_ff E.c, e_next_ff E.c, Option.bind_some, cz_00, cond_true]; exact po_some rfl)
            · ((try dsimp only); repeat' (first | exact po_some rfl | rw [FE.nz E, cond_true] | rw [FE.le E, cond_false] | rw [FE.gt E, cond_true] | rw [d_must_ff (FE.gg E), Option.bind_some] | rw [d_known_ff (FE.gg E), Option.bind_some] | rw [d_num_ff (FE.gg E), Option.bind_some] | rw [d_is_ff (FE.gg E), Option.bind_some] | (refine po_call (d_named_ff (FE.gg E)) ?_; rintro _ rfl; try dsimp only) | refine po_cond (fun _ => ?_) (fun _ => ?_) | refine po_bl (fun _ _ => ?_)))
        · refine p2_ff E ?_ ?_
          · (simp only [hc, new_0, new_1, new_2, new_3, known_0, known_1, known_2, known_3, gnew_ff E.c, gknown_ff E.c, e_num_ff E.c, e_take_ff E.c, e_next_ff E.c, Option.bind_some, cz_00, cond_true]; exact po_some rfl)
          · ((try dsimp only); repeat' (first | exact po_some rfl | rw [FE.nz E, cond_true] | rw [FE.le E, cond_false] | rw [FE.gt E, cond_true] | rw [d_must_ff (FE.gg E), Option.bind_some] | rw [d_known_ff (FE.gg E), Option.bind_some] | rw [d_num_ff (FE.gg E), Option.bind_some] | rw [d_is_ff (FE.gg E), Option.bind_some] | (refine po_call (d_named_ff (FE.gg E)) ?_; rintro _ rfl; try dsimp only) | refine po_cond (fun _ => ?_) (fun _ => ?_) | refine po_bl (fun _ _ => ?_)))
      · refine p2_ff E ?_ ?_
        · (simp only [hc, new_0, new_1, new_2, new_3, known_0, known_1, known_2, known_3, gnew_ff E.c, gknown_ff E.c, e_num_ff E.c, e_take_ff E.c, e_next_ff E.c, Option.bind_some, cz_00, cond_true]; exact po_some rfl)
        · ((try dsimp only); repeat' (first | exact po_some rfl | rw [FE.nz E, cond_true] | rw [FE.le E, cond_false] | rw [FE.gt E, cond_true] | rw [d_must_ff (FE.gg E), Option.bind_some] | rw [d_known_ff (FE.gg E), Option.bind_some] | rw [d_num_ff (FE.gg E), Option.bind_some] | rw [d_is_ff (FE.gg E), Option.bind_some] | (refine po_call (d_named_ff (FE.gg E)) ?_; rintro _ rfl; try dsimp only) | refine po_cond (fun _ => ?_) (fun _ => ?_) | refine po_bl (fun _ _ => ?_)))
    · refine p2_ff E ?_ ?_
      · (simp only [hc, new_0, new_1, new_2, new_3, known_0, known_1, known_2, known_3, gnew_ff E.c, gknown_ff E.c, e_num_ff E.c, e_take_ff E.c, e_next_ff E.c, Option.bind_some, cz_00, cond_true]; exact po_some rfl)
      · ((try dsimp only); repeat' (first | exact po_some rfl | rw [FE.nz E, cond_true] | rw [FE.le E, cond_false] | rw [FE.gt E, cond_true] | rw [d_must_ff (FE.gg E), Option.bind_some] | rw [d_known_ff (FE.gg E), Option.bind_some] | rw [d_num_ff (FE.gg E), Option.bind_some] | rw [d_is_ff (FE.gg E), Option.bind_some] | (refine po_call (d_named_ff (FE.gg E)) ?_; rintro _ rfl; try dsimp only) | refine po_cond (fun _ => ?_) (fun _ => ?_) | refine po_bl (fun _ _ => ?_)))
  · refine p2_ff E ?_ ?_
    · (simp only [hc, new_0, new_1, new_2, new_3, known_0, known_1, known_2, known_3, gnew_ff E.c, gknown_ff E.c, e_num_ff E.c, e_take_ff E.c, e_next_ff E.c, Option.bind_some, cz_00, cond_true]; exact po_some rfl)
    · (dsimp only; rw [FE.nz E, cond_true]; exact po_some rfl)
end A7
end Qz101
section Qz102
section A8
variable {T : TS} {d n m q : Nat} {P : Nat → Nat → Nat} {F F' : Nat → Nat → Int32} {A A' : Nat → Nat → Nat → Int32} {J J' : Nat → Nat → Nat → Int64} {Fm Fm' : Nat → Int32} {Am Am' : Nat → Nat → Int32} {Jm Jm' : Nat → Nat → Int64} {k k' x1 x2 x3 s0 : Int32}
/-- the end of a door's sentence -/
theorem qd_end (K : TKs T) (R : RT T F Fm) (X : RX T A J Am Jm) (H : RH d F A J Fm Am Jm) (W : RW d F A Fm Am) (b0 : 0 ≤ (F d 14).toInt ∧ (F d 14).toInt < 12) (z1 : ai Am 13 (12 * (Fm 19).toInt + (F d 14).toInt) = x1.toInt) (z2 : ai Am 14 (12 * (Fm 19).toInt + (F d 14).toInt) = x2.toInt) (z3 : ai Am 15 (12 * (Fm 19).toInt + (F d 14).toInt) = x3.toInt) (z4 : s0.toInt = 0 ∧ ai Am 16 (12 * (Fm 19).toInt + (F d 14).toInt) = 0 ∨ s0.toInt ≠ 0 ∧ ai Am 16 (12 * (Fm 19).toInt + (F d 14).toInt) ≠ 0) (h5 : P 37 5 = d) (h6 : P 37 6 = 3) (hk : c_kind d = 6) : P2 (e_Reader_readDoor_91 n P F A J x1 x2 x3 s0) ((d_must Fm Am Jm 4).bind fun (_, F53, A54, J55) => cond (g_cnd .ne (F53 13) 0) (some ((), F53, A54, J55)) ((m_ld (A54 12) 2 (F53 19)).bind fun v57 => (m_st A54 12 2 (F53 19) (v57 + 1)).bind fun A58 => some ((), F53, A58, J55))) (RS T d P) := by
  have hd := kd37 hk
  have hd3 := kd3 hk
  have hc := chk_in h5 hk
  unfold e_Reader_readDoor_91
  refine p2_take K R X (by decide) (by decide) (fun F1 Fm1 U1 _ => ?_) (fun F1 Fm1 fc fm E _ => ?_)
  · have H1 := U1.v.h hd H
    dsimp only
    rw [cz_10, cond_false, U1.rt.nz, cond_false, hc, Option.bind_some, Option.bind_some]
    refine p2_bl (fun A2 e2 => ?_)
    have a2 := (gg_cst e2).2.2
    rw [Option.bind_some]
    refine p2_bl (fun A3 e3 => ?_)
    have a3 := (gg_cst e3).2.2
    rw [Option.bind_some]
    refine p2_bl (fun A4 e4 => ?_)
    have a4 := (gg_cst e4).2.2
    refine p2_bl (fun q5 e5 => ?_)
    obtain ⟨-, rfl⟩ := gg_chk e5
    rw [h6]
    have o37 : ∀ o, A4 37 o = A 37 o := fun o => by rw [a4.2.2 37 o (fun e => hd e.1.symm), a3.2.2 37 o (fun e => hd e.1.symm), a2.2.2 37 o (fun e => hd e.1.symm)]
    have o5 : A4 d 5 = A d 5 := by rw [a4.2.2 d 5 (fun e => absurd e.2 (by decide)), a3.2.2 d 5 (fun e => absurd e.2 (by decide)), a2.2.2 d 5 (fun e => absurd e.2 (by decide))]
    have X4 := X.ca (A' := A4) o37
    have H4 : RH d F1 A4 J Fm1 Am Jm := H1.fr (fun _ _ _ => rfl) rfl o5 (fun _ _ => rfl) rfl rfl rfl (fun _ _ => rfl) rfl
    have e14 := U1.dg hd 14
    have e19 : Fm1 19 = Fm 19 := U1.fm 19 (by decide)
    have W1 : RW d F1 A Fm1 Am := W.v H.s0 hd U1.c U1.m
    have of14 : Int32.ofNat (F1 d 14).toInt.toNat = F1 d 14 := i_ext (by rw [Int32.toInt_ofNat_of_lt (by rw [e14]; omega), e14]; omega)
    have fin : ∀ s2, s2 = (if ai Am 16 (12 * (Fm1 19).toInt + (F1 d 14).toInt) = 0 then 0 else (1 : Int32) <<< (F1 d 14 &&& 31)) → P2 (e_Reader_readDoor_165 n P F1 A4 J 3 (F1 3 7) s2) ((m_ld (Am 12) 2 (Fm1 19)).bind fun v57 => (m_st Am 12 2 (Fm1 19) (v57 + 1)).bind fun A58 => some ((), Fm1, A58, Jm)) (RS T d P) := by
      intro s2 hs2
      unfold e_Reader_readDoor_165
      refine p2_bl (fun F5 e5 => ?_)
      have U5 := gg_cpf e5
      rw [hc, Option.bind_some]
      refine p2_bl (fun F6 e6 => ?_)
      have U6 := gg_cpf e6
      refine p2_br (fun v7 e7 => ?_)
      have a7 := gg_ld e7
      refine p2_br (fun Am8 e8 => ?_)
      have a8 := gg_st e8
      have f : ∀ r k, ¬ (r = 3 ∧ k = 7) → ¬ (r = d ∧ k = 14) → F6 r k = F1 r k := fun r k h h' => by rw [U6.2 r k h', U5.2 r k h]
      refine p2_some (.inr ⟨?_, ?_, ?_, ?_⟩)
      · exact U1.rt.cg (fun k _ => f 37 k (fun e => absurd e.1 (by decide)) (fun e => hd e.1.symm)) (fun _ _ => rfl)
      · exact X4.a (fun q hq => a8.2.2.1 q (by omega))
      · refine ⟨H4.s0, H4.s1, fun q hq => ?_, ?_, ?_, ?_, ?_, H4.op⟩
        · show F6 d (cq q) = Am8 (rq q) (Fm1 19).toInt.toNat
          rw [f d (cq q) (fun e => hd3 e.1) (fun e => (cq_lt hq).2.2 e.2), a8.2.2.1 _ (by have := rq_in q; omega)]
          exact H4.cn q hq
        · show F6 d 14 = Am8 12 (Fm1 19).toInt.toNat
          refine i_ext ?_
          have w : (Am8 12 (Fm1 19).toInt.toNat).toInt = (v7 + 1).toInt := a8.2.2.2.1
          rw [w, a7.2.2, ← H4.dr, U6.1, U5.2 d 14 (fun e => hd3 e.1)]
        · show F6 37 9 = Am8 33 (Fm1 19).toInt.toNat
          rw [f 37 9 (fun e => absurd e.1 (by decide)) (fun e => hd e.1.symm), a8.2.2.1 33 (by decide)]
          exact H4.lw
        · show ∀ k : Int, 0 ≤ k → k < (F6 d 16).toInt → ci A4 d 5 k = ai Am8 22 (6 * (Fm1 19).toInt + k)
          rw [f d 16 (fun e => hd3 e.1) (fun e => absurd e.2 (by decide)), ai_fr (a8.2.2.1 22 (by decide))]
          exact H4.sc
        · exact H4.nr.fr (fun q hq => f d (cq q) (fun e => hd3 e.1) (fun e => (cq_lt hq).2.2 e.2)) (fun _ _ => rfl) rfl (a8.2.2.1 9 (by decide)) (a8.2.2.1 10 (by decide)) rfl
      · obtain ⟨w1, w2, w3, w4, w5, w6, w7⟩ := W1
        have g : ∀ k, k ≠ 14 → F6 d k = F1 d k := fun k hk => f d k (fun e => hd3 e.1) (fun e => hk e.2)
        have m8 : ∀ q, q ≠ 12 → Am8 q = Am q := fun q hq => a8.2.2.1 q hq
        have l4 : ∀ o, 4 ≤ o → A4 d o = A d o := fun o ho => by rw [a4.2.2 d o (fun e => by omega), a3.2.2 d o (fun e => by omega), a2.2.2 d o (fun e => by omega)]
        have t4 : ∀ o, A4 3 o = A 3 o := fun o => by rw [a4.2.2 3 o (fun e => hd3 e.1.symm), a3.2.2 3 o (fun e => hd3 e.1.symm), a2.2.2 3 o (fun e => hd3 e.1.symm)]
        have c14 : (F6 d 14).toInt = (F1 d 14).toInt + 1 := by rw [U6.1, U5.2 d 14 (fun e => hd3 e.1), i_add (by rw [i_1, e14]; omega) (by rw [i_1, e14]; omega), i_1]
        have r1 : A4 d 1 = A2 d 1 := by rw [a4.2.2 d 1 (fun e => absurd e.2 (by decide)), a3.2.2 d 1 (fun e => absurd e.2 (by decide))]
        have r2 : A4 d 2 = A3 d 2 := a4.2.2 d 2 (fun e => absurd e.2 (by decide))
        have r2' : A2 d 2 = A d 2 := a2.2.2 d 2 (fun e => absurd e.2 (by decide))
        have r3' : A3 d 3 = A d 3 := by rw [a3.2.2 d 3 (fun e => absurd e.2 (by decide)), a2.2.2 d 3 (fun e => absurd e.2 (by decide))]
        have base : RWc ((F1 d 14).toInt + 1) (F1 d 15).toInt (F1 d 16).toInt (F1 d 17).toInt d F6 A4 Fm1 Am := by
          refine ⟨w1.add (by rw [e14]; exact b0.1) (fun k k0 k1 => by rw [ci_fr r1]; exact a2.2.1 k k0 (by omega)) (fun k k0 k1 => by rw [ci_fr r2, a3.2.1 k k0 (by omega), ci_fr r2']) (fun k k0 k1 => by rw [a4.2.1 k k0 (by omega), ci_fr r3']) ?_ ?_ ?_ ?_, w2.ca (t4 4), w3.ca (l4 4 (by decide)) (t4 2), w4.ca (fun o ho _ => l4 o (by omega)), w5.ca (l4 12 (by decide)) (t4 3), ⟨?_, ?_, ?_⟩, ?_⟩
          · rw [ci_fr r1, a2.1, e19, e14, z1]
          · rw [ci_fr r2, a3.1, e19, e14, z2]
          · rw [a4.1, e19, e14, z3]
          · rw [U6.2 3 7 (fun e => hd3 e.1.symm), U5.1, hs2, of14]
            split
            · exact Int32.or_zero
            · rfl
          · intro k k0 k1; rw [ci_fr (t4 1)]; exact w6.1 k k0 k1
          · intro k k0 k1; rw [ci_fr (t4 5), ci_fr (t4 6), ci_fr (t4 7)]; exact w6.2.1 k k0 k1
          · rw [f 3 8 (by omega) (by omega)]; exact w6.2.2
          · show F6 d 18 = _
            rw [g 18 (by decide)]
            exact w7
        show RWc (F6 d 14).toInt (F6 d 15).toInt (F6 d 16).toInt (F6 d 17).toInt d F6 A4 Fm1 Am8
        rw [c14, g 15 (by decide), g 16 (by decide), g 17 (by decide)]
        exact base.m H1.s0 rfl (fun j i h => by rw [ai_fr (m8 j (by have h := RLg.cs h; omega))])
    rw [← e19, ← e14] at z4
    refine p2_cl (fun c => fin _ ?_) (fun c => fin _ ?_)
    · rw [i_eq, i_0] at c
      rcases z4 with ⟨_, h⟩ | ⟨h, _⟩
      · rw [if_pos h]
      · exact absurd c h
    · rw [i_neq, i_0] at c
      rcases z4 with ⟨h, _⟩ | ⟨_, h⟩
      · exact absurd h c
      · rw [if_neg h]
  · refine p2_ff E ?_ ?_
    · (simp only [hc, new_0, new_1, new_2, new_3, known_0, known_1, known_2, known_3, gnew_ff E.c, gknown_ff E.c, e_num_ff E.c, e_take_ff E.c, e_next_ff E.c, Option.bind_some, cz_00, cond_true]; exact po_some rfl)
    · (dsimp only; rw [FE.nz E, cond_true]; exact po_some rfl)
/-- a door: behind its rooms -/
theorem qd_tail {ix : Int32} (K : TKs T) (R : RT T F Fm) (X : RX T A J Am Jm) (H : RH d F A J Fm Am Jm) (W : RW d F A Fm Am) (b0 : 0 ≤ (F d 14).toInt ∧ (F d 14).toInt < 12) (hx : ix.toInt = 12 * (Fm 19).toInt + (F d 14).toInt) (z1 : ai Am 13 ix.toInt = x1.toInt) (z2 : ai Am 14 ix.toInt = x2.toInt) (h5 : P 37 5 = d) (h6 : P 37 6 = 3) (hk : c_kind d = 6) : P2 (e_Reader_readDoor_60 n P F A J x1 x2) (d_tellDoor_82 m Fm Am Jm ix) (RS T d P) := by
  have hd := kd37 hk
  have hc := chk_in h5 hk
  have n0 : vp_nar .boolean (0 : Int32) = 0 := by decide
  have n1 : vp_nar .boolean (1 : Int32) = 1 := by decide
  unfold e_Reader_readDoor_60 d_tellDoor_82
  refine p2_num K R X (fun F1 Fm1 V1 _ => ?_) (fun v F1 Fm1 fc fm E => ?_)
  · have H1 := V1.h hd H
    dsimp only
    refine p2_br (fun Am2 e2 => ?_)
    have a2 := gg_st e2
    have X2 := X.a (Am' := Am2) (fun q hq => a2.2.2.1 q (by omega))
    have H2 := H1.a (Am' := Am2) (fun q hq => a2.2.2.1 q (by omega))
    have s0 := H1.s0
    have e14 := V1.dg hd 14
    have e19 : Fm1 19 = Fm 19 := V1.fm 19 (by decide) (by decide) (by decide) (by decide) (by decide)
    have hx1 : ix.toInt = 12 * (Fm1 19).toInt + (F1 d 14).toInt := by rw [e19, e14]; exact hx
    have W2 : RW d F1 A Fm1 Am2 := RWc.st (W.v H.s0 hd V1.fc V1.fm) s0 a2.2.2.1 a2.2.2.2.2 (fun i h => by have h := RLg.cs h; rw [hx1]; omega)
    rw [V1.rt.nz, cond_false]
    refine p2_next K V1.rt X2 (k' := 22) (by decide) (fun hm => ?_) (fun _ => ?_)
    · rw [cz_10, cond_false, cond_false]
      unfold d_tellDoor_121
      refine p2_br (fun Am3 e3 => ?_)
      have a3 := gg_st e3
      have X3 := X2.a (Am' := Am3) (fun q hq => a3.2.2.1 q (by omega))
      have H3 := H2.a (Am' := Am3) (fun q hq => a3.2.2.1 q (by omega))
      have W3 : RW d F1 A Fm1 Am3 := RWc.st W2 s0 a3.2.2.1 a3.2.2.2.2 (fun i h => by have h := RLg.cs h; rw [hx1]; omega)
      have y1 : ai Am3 13 ix.toInt = x1.toInt := by rw [ai_fr (a3.2.2.1 13 (by decide)), ai_fr (a2.2.2.1 13 (by decide))]; exact z1
      have y2 : ai Am3 14 ix.toInt = x2.toInt := by rw [ai_fr (a3.2.2.1 14 (by decide)), ai_fr (a2.2.2.1 14 (by decide))]; exact z2
      have y3 := a2.2.2.2.1
      rw [← ai_fr (a3.2.2.1 15 (by decide))] at y3
      have y4 := a3.2.2.2.1
      refine p2_br (fun v4 e4 => ?_)
      have a4 := gg_ld e4
      have v4e : v4.toInt = 1 := by
        have w : (Am3 16 ix.toInt.toNat).toInt = (vp_nar .boolean (1 : Int32)).toInt := a3.2.2.2.1
        rw [a4.2.2, w, n1]; decide
      rw [i_neq.mpr (by rw [v4e]; decide), cond_false]
      refine p2_goes (k' := 22) K V1.rt X3 (by decide) (by decide) (by rw [a3.2.2.1 3 (by decide)]; exact hm) (fun F5 Fm5 U5 => ?_) (fun F5 Fm5 fc fm E => ?_)
      · dsimp only
        rw [cz_10, cond_false]
        have hx5 : ix.toInt = 12 * (Fm5 19).toInt + (F5 d 14).toInt := by rw [U5.fm 19 (by decide), U5.dg hd 14]; exact hx1
        rw [n1] at y4
        rw [hx5] at y1 y2 y3 y4
        exact qd_end K U5.rt X3 (U5.v.h hd H3) (W3.v s0 hd U5.c U5.m) (by rw [U5.dg hd 14, e14]; exact b0) y1 y2 y3 (.inr ⟨by decide, by rw [y4]; decide⟩) h5 h6 hk
      · refine p2_ff E ?_ ?_
        · unfold e_Reader_readDoor_90 e_Reader_readDoor_91
          (simp only [hc, new_0, new_1, new_2, new_3, known_0, known_1, known_2, known_3, gnew_ff E.c, gknown_ff E.c, e_num_ff E.c, e_take_ff E.c, e_next_ff E.c, Option.bind_some, cz_00, cond_true]; exact po_some rfl)
        · dsimp only
          rw [d_must_ff E.2, Option.bind_some]
          (dsimp only; rw [FE.nz E, cond_true]; exact po_some rfl)
    · rw [cz_00, cond_true, cond_true]
      unfold d_tellDoor_120 d_tellDoor_121 d_tellDoor_135 e_Reader_readDoor_90
      refine p2_br (fun Am3 e3 => ?_)
      have a3 := gg_st e3
      have X3 := X2.a (Am' := Am3) (fun q hq => a3.2.2.1 q (by omega))
      have H3 := H2.a (Am' := Am3) (fun q hq => a3.2.2.1 q (by omega))
      have W3 : RW d F1 A Fm1 Am3 := RWc.st W2 s0 a3.2.2.1 a3.2.2.2.2 (fun i h => by have h := RLg.cs h; rw [hx1]; omega)
      have y1 : ai Am3 13 ix.toInt = x1.toInt := by rw [ai_fr (a3.2.2.1 13 (by decide)), ai_fr (a2.2.2.1 13 (by decide))]; exact z1
      have y2 : ai Am3 14 ix.toInt = x2.toInt := by rw [ai_fr (a3.2.2.1 14 (by decide)), ai_fr (a2.2.2.1 14 (by decide))]; exact z2
      have y3 := a2.2.2.2.1
      rw [← ai_fr (a3.2.2.1 15 (by decide))] at y3
      have y4 := a3.2.2.2.1
      refine p2_br (fun v4 e4 => ?_)
      have a4 := gg_ld e4
      have v4e : v4.toInt = 0 := by
        have w : (Am3 16 ix.toInt.toNat).toInt = (vp_nar .boolean (0 : Int32)).toInt := a3.2.2.2.1
        rw [a4.2.2, w, n0]; decide
      rw [i_eq.mpr (by rw [v4e]; decide), cond_true]
      rw [n0] at y4
      rw [hx1] at y1 y2 y3 y4
      exact qd_end K V1.rt X3 H3 W3 (by rw [e14]; exact b0) y1 y2 y3 (.inl ⟨by decide, by rw [y4]; decide⟩) h5 h6 hk
  · refine p2_ff E ?_ ?_
    · unfold e_Reader_readDoor_90 e_Reader_readDoor_91
      (simp only [hc, new_0, new_1, new_2, new_3, known_0, known_1, known_2, known_3, gnew_ff E.c, gknown_ff E.c, e_num_ff E.c, e_take_ff E.c, e_next_ff E.c, Option.bind_some, cz_00, cond_true]; exact po_some rfl)
    · dsimp only
      refine po_bl (fun Am2 e2 => ?_)
      rw [E.nz, cond_true]
      unfold d_tellDoor_120 d_tellDoor_121 d_tellDoor_135
      refine po_bl (fun Am3 e3 => ?_)
      have a3 := gg_st e3
      refine po_bl (fun v4 e4 => ?_)
      have a4 := gg_ld e4
      have v4e : v4.toInt = 0 := by
        have w : (Am3 16 ix.toInt.toNat).toInt = (vp_nar .boolean (0 : Int32)).toInt := a3.2.2.2.1
        rw [a4.2.2, w, n0]; decide
      rw [i_eq.mpr (by rw [v4e]; decide), cond_true, d_must_ff E.2, Option.bind_some]
      (dsimp only; rw [FE.nz E, cond_true]; exact po_some rfl)
theorem d_door_ff {ix : Int32} (E : FE F Fm) : po (d_tellDoor_82 m Fm Am Jm ix) (fun b => b.2.1 13 = Fm 13) := by
  have n0 : vp_nar .boolean (0 : Int32) = 0 := by decide
  unfold d_tellDoor_82
  rw [d_num_ff E.2, Option.bind_some]
  dsimp only
  refine po_bl (fun Am2 e2 => ?_)
  rw [E.nz, cond_true]
  unfold d_tellDoor_120 d_tellDoor_121 d_tellDoor_135
  refine po_bl (fun Am3 e3 => ?_)
  have a3 := gg_st e3
  refine po_bl (fun v4 e4 => ?_)
  have a4 := gg_ld e4
  have v4e : v4.toInt = 0 := by
    have w : (Am3 16 ix.toInt.toNat).toInt = (vp_nar .boolean (0 : Int32)).toInt := a3.2.2.2.1
    rw [a4.2.2, w, n0]; decide
  rw [i_eq.mpr (by rw [v4e]; decide), cond_true, d_must_ff E.2, Option.bind_some]
  (dsimp only; rw [FE.nz E, cond_true]; exact po_some rfl)
/-- a door is told -/
theorem q_door (K : TKs T) (R : RT T F Fm) (X : RX T A J Am Jm) (H : RH d F A J Fm Am Jm) (W : RW d F A Fm Am) (a14 : 0 ≤ (F d 14).toInt) (h5 : P 37 5 = d) (h6 : P 37 6 = 3) (hk : c_kind d = 6) (b14 : (F d 14).toInt ≤ 12) (hm : (Am 3 (Fm 11).toInt.toNat).toInt = (21 : Int32).toInt) : P2 (e_Reader_readDoor n P F A J) ((d_roomFor Fm Am Jm (Am 12 (Fm 19).toInt.toNat) 12).bind fun (_, F5, A6, J7) => cond (g_cnd .ne (F5 13) 0) (some ((), F5, A6, J7)) ((d_tellDoor m F5 A6 J7).bind fun (_, F10, A11, J12) => some ((), F10, A11, J12))) (RS T d P) := by
  have hd := kd37 hk
  have hc := chk_in h5 hk
  have l12 : (12 : Int32).toInt = 12 := by decide
  unfold e_Reader_readDoor
  rw [hc, Option.bind_some, ← H.dr]
  refine p2_first (k' := 21) K R X (by decide) (by decide) hm (by omega) (fun F1 Fm1 U1 hx => ?_) (fun F1 Fm1 fc fm E => ?_)
  · have R1 := U1.rt
    have H1 := U1.v.h hd H
    dsimp only
    rw [hc, Option.bind_some, R1.nz, cond_false, known_0]
    refine p2_eta ?_
    unfold d_tellDoor
    refine p2_br (fun v1 ev1 => ?_)
    have e14 := U1.dg hd 14
    have v1e : v1 = F1 d 14 := by rw [(gg_ld ev1).2.2]; exact H1.dr.symm
    have bF1 : 0 ≤ (F1 d 14).toInt ∧ (F1 d 14).toInt < 12 := by rw [e14]; omega
    have ix : (12 * Fm1 19 + v1).toInt = 12 * (Fm1 19).toInt + (F1 d 14).toInt := by rw [H1.ix12 (v := v1) (by rw [v1e]; omega) (by rw [v1e]; omega), v1e]
    refine p2_known (q := 0) (by decide) (by decide) K R1 X H1.nr (fun v2 F2 Fm2 V2 _ hv2 => ?_) (fun F2 Fm2 fc fm E _ => ?_)
    · have H2 := V2.h hd H1
      dsimp only
      refine p2_br (fun Am3 e3 => ?_)
      have a3 := gg_st e3
      have ix2 : (12 * Fm1 19 + v1).toInt = 12 * (Fm2 19).toInt + (F2 d 14).toInt := by rw [V2.fm 19 (by decide) (by decide) (by decide) (by decide) (by decide), V2.dg hd 14]; exact ix
      have W3 : RW d F2 A Fm2 Am3 := RWc.st ((W.v H.s0 hd U1.c U1.m).v H1.s0 hd V2.fc V2.fm) H2.s0 a3.2.2.1 a3.2.2.2.2 (fun i h => by have h := RLg.cs h; rw [ix2]; have := H2.s0; omega)
      have X3 := X.a (Am' := Am3) (fun q hq => a3.2.2.1 q (by omega))
      have H3 := H2.a (Am' := Am3) (fun q hq => a3.2.2.1 q (by omega))
      rw [hc, Option.bind_some, known_0]
      refine p2_known (q := 0) (by decide) (by decide) K V2.rt X3 H3.nr (fun v4 F4 Fm4 V4 _ hv4 => ?_) (fun F4 Fm4 fc fm E _ => ?_)
      · have H4 := V4.h hd H3
        dsimp only
        refine p2_br (fun Am5 e5 => ?_)
        have a5 := gg_st e5
        have X5 := X3.a (Am' := Am5) (fun q hq => a5.2.2.1 q (by omega))
        have H5 := H4.a (Am' := Am5) (fun q hq => a5.2.2.1 q (by omega))
        have ix4 : (12 * Fm1 19 + v1).toInt = 12 * (Fm4 19).toInt + (F4 d 14).toInt := by rw [V4.fm 19 (by decide) (by decide) (by decide) (by decide) (by decide), V4.dg hd 14]; exact ix2
        have W5 : RW d F4 A Fm4 Am5 := RWc.st (W3.v H2.s0 hd V4.fc V4.fm) H4.s0 a5.2.2.1 a5.2.2.2.2 (fun i h => by have h := RLg.cs h; rw [ix4]; have := H4.s0; omega)
        have b4 : 0 ≤ (F4 d 14).toInt ∧ (F4 d 14).toInt < 12 := by rw [V4.dg hd 14, V2.dg hd 14]; exact bF1
        have y1 : ai Am5 13 (12 * Fm1 19 + v1).toInt = v2.toInt := by rw [ai_fr (a5.2.2.1 13 (by decide))]; exact a3.2.2.2.1
        have y2 := a5.2.2.2.1
        rw [V4.rt.nz, cond_false]
        refine p2_br (fun v13 e13 => ?_)
        have a13 := gg_ld e13
        have v13e : v13 = v2 := by
          refine i_ext ?_
          have w : (Am3 13 (12 * Fm1 19 + v1).toInt.toNat).toInt = v2.toInt := a3.2.2.2.1
          rw [a13.2.2, a5.2.2.1 13 (by decide), w]
        subst v13e
        by_cases c1 : v13.toInt < 0
        · rw [i_lt.mpr (by rw [i_0]; exact c1), cond_true, cond_true]
          exact qd_tail K V4.rt X5 H5 W5 b4 ix4 y1 y2 h5 h6 hk
        · rw [i_nlt.mpr (by rw [i_0]; omega), cond_false, cond_false, e13, Option.bind_some]
          refine p2_br (fun v16 e16 => ?_)
          have a16 := gg_ld e16
          have v16e : v16 = v4 := by
            refine i_ext ?_
            have w : (Am5 14 (12 * Fm1 19 + v1).toInt.toNat).toInt = v4.toInt := a5.2.2.2.1
            rw [a16.2.2, w]
          subst v16e
          by_cases c2 : v13.toInt = v16.toInt
          · rw [i_nne.mpr c2, cond_false, cond_false]
            rcases hv4 with ⟨_, _, U4⟩ | ⟨rfl, _⟩
            · obtain ⟨F6, Fm6, b1, b2, V6⟩ := U4.late (P := P) (k := 5) K V2.rt X5
              rw [b1, b2, Option.bind_some, Option.bind_some]
              have ix6 : (12 * Fm1 19 + v1).toInt = 12 * (Fm6 19).toInt + (F6 d 14).toInt := by rw [V6.fm 19 (by decide) (by decide) (by decide) (by decide) (by decide), V6.dg hd 14]; exact ix2
              have W6 : RW d F6 A Fm6 Am5 := RWc.st (W3.v H2.s0 hd V6.fc V6.fm) (V6.h hd H3).s0 a5.2.2.1 a5.2.2.2.2 (fun i h => by have h := RLg.cs h; rw [ix6]; have := (V6.h hd H3).s0; omega)
              have b6 : 0 ≤ (F6 d 14).toInt ∧ (F6 d 14).toInt < 12 := by rw [V6.dg hd 14, V2.dg hd 14]; exact bF1
              exact qd_tail K V6.rt X5 (V6.h hd (H3.a (Am' := Am5) (fun q hq => a5.2.2.1 q (by omega)))) W6 b6 ix6 y1 y2 h5 h6 hk
            · exact absurd (show (-1 : Int32).toInt = -1 by decide) (by omega)
          · rw [i_ne.mpr c2, cond_true, cond_true]
            exact qd_tail K V4.rt X5 H5 W5 b4 ix4 y1 y2 h5 h6 hk
      · refine p2_ff E ?_ ?_
        · dsimp only
          refine po_cond (fun _ => ?_) (fun _ => po_cond (fun _ => ?_) (fun h => ?_))
          · unfold e_Reader_readDoor_60 e_Reader_readDoor_90 e_Reader_readDoor_91
            (simp only [hc, new_0, new_1, new_2, new_3, known_0, known_1, known_2, known_3, gnew_ff E.c, gknown_ff E.c, e_num_ff E.c, e_take_ff E.c, e_next_ff E.c, Option.bind_some, cz_00, cond_true]; exact po_some rfl)
          · unfold e_Reader_readDoor_60 e_Reader_readDoor_90 e_Reader_readDoor_91
            (simp only [hc, new_0, new_1, new_2, new_3, known_0, known_1, known_2, known_3, gnew_ff E.c, gknown_ff E.c, e_num_ff E.c, e_take_ff E.c, e_next_ff E.c, Option.bind_some, cz_00, cond_true]; exact po_some rfl)
          · rw [i_nne] at h
            rename_i c1
            rw [i_nlt, h] at c1
            exact absurd c1 (by decide)
        · dsimp only
          refine po_bl (fun Am5 e5 => ?_)
          rw [E.nz, cond_true]
          exact d_door_ff E
    · refine p2_ff E ?_ ?_
      · dsimp only
        simp only [hc, known_0, gknown_ff E.c, Option.bind_some]
        rw [i_lt.mpr (by decide), cond_true]
        unfold e_Reader_readDoor_60 e_Reader_readDoor_90 e_Reader_readDoor_91
        (simp only [hc, new_0, new_1, new_2, new_3, known_0, known_1, known_2, known_3, gnew_ff E.c, gknown_ff E.c, e_num_ff E.c, e_take_ff E.c, e_next_ff E.c, Option.bind_some, cz_00, cond_true]; exact po_some rfl)
      · dsimp only
        refine po_bl (fun Am3 e3 => ?_)
        rw [d_known_ff E.2, Option.bind_some]
        dsimp only
        refine po_bl (fun Am5 e5 => ?_)
        rw [E.nz, cond_true]
        exact d_door_ff E
  · refine p2_ff E ?_ ?_
    · simp only [hc, known_0, gknown_ff E.c, Option.bind_some]
      rw [i_lt.mpr (by decide), cond_true]
      unfold e_Reader_readDoor_60 e_Reader_readDoor_90 e_Reader_readDoor_91
      (simp only [hc, new_0, new_1, new_2, new_3, known_0, known_1, known_2, known_3, gnew_ff E.c, gknown_ff E.c, e_num_ff E.c, e_take_ff E.c, e_next_ff E.c, Option.bind_some, cz_00, cond_true]; exact po_some rfl)
    · (dsimp only; rw [FE.nz E, cond_true]; exact po_some rfl)
/-- the night's length is told -/
theorem q_night (K : TKs T) (R : RT T F Fm) (X : RX T A J Am Jm) (H : RH d F A J Fm Am Jm) (W : RW d F A Fm Am) (h5 : P 37 5 = d) (hk : c_kind d = 6) (hm : (Am 3 (Fm 11).toInt.toNat).toInt = (34 : Int32).toInt) : P2 (e_Reader_readNight P F A J) ((d_goesOn Fm Am Jm).bind fun (_, F100, A101, J102) => (d_bounded F100 A101 J102 1 600).bind fun (v103, F104, A105, J106) => (m_st A105 41 2 (F100 19) v103).bind fun A107 => (d_must F104 A107 J106 4).bind fun (_, F109, A110, J111) => some ((), F109, A110, J111)) (RS T d P) := by
  have hd := kd37 hk
  have hc := chk_in h5 hk
  unfold e_Reader_readNight
  refine p2_goes (k' := 34) K R X (by decide) (by decide) hm (fun F1 Fm1 U1 => ?_) (fun F1 Fm1 fc fm E => ?_)
  · have H1 := U1.v.h hd H
    dsimp only
    rw [hc, Option.bind_some]
    refine p2_num K U1.rt X (fun F2 Fm2 V2 _ => ?_) (fun v F2 Fm2 fc fm E => ?_)
    · have H2 := V2.h hd H1
      dsimp only
      refine p2_bl (fun F3 e3 => ?_)
      have U3 := gg_cpf e3
      refine p2_br (fun Am4 e4 => ?_)
      have a4 := gg_st e4
      have X4 := X.a (Am' := Am4) (fun q hq => a4.2.2.1 q (by omega))
      have H4 : RH d F3 A J Fm2 Am4 Jm := H2.fr (fun k h1 h2 => U3.2 d k (fun e => by omega)) (U3.2 37 9 (fun e => hd e.1.symm)) rfl (fun _ _ => rfl) rfl rfl rfl (fun q hq => a4.2.2.1 q (by omega)) rfl
      have R4 : RT T F3 Fm2 := V2.rt.cg (fun k _ => U3.2 37 k (fun e => hd e.1.symm)) (fun _ _ => rfl)
      refine p2_take K R4 X4 (by decide) (by decide) (fun F5 Fm5 U5 _ => ?_) (fun F5 Fm5 fc fm E _ => ?_)
      · have W2 : RW d F2 A Fm2 Am := (W.v H.s0 hd U1.c U1.m).v H1.s0 hd V2.fc V2.fm
        have W4 : RW d F3 A Fm2 Am4 := by
          obtain ⟨w1, w2, w3, w4, w5, w6, w7⟩ := W2
          have g : ∀ k, k ≠ 18 → F3 d k = F2 d k := fun k hk => U3.2 d k (fun e => hk e.2)
          have base : RWc (F2 d 14).toInt (F2 d 15).toInt (F2 d 16).toInt (F2 d 17).toInt d F2 A Fm2 Am := ⟨w1, w2, w3, w4, w5, w6, w7⟩
          have m4 : ∀ q, q ≠ 41 → Am4 q = Am q := fun q hq => a4.2.2.1 q hq
          have hd3 := kd3 hk
          show RWc (F3 d 14).toInt (F3 d 15).toInt (F3 d 16).toInt (F3 d 17).toInt d F3 A Fm2 Am4
          rw [g 14 (by decide), g 15 (by decide), g 16 (by decide), g 17 (by decide)]
          unfold RWc RWd RWt RWk RWs RWm RWz
          rw [U3.2 3 7 (fun e => hd3 e.1.symm), U3.2 3 8 (fun e => hd3 e.1.symm), ai_fr (m4 13 (by decide)), ai_fr (m4 14 (by decide)), ai_fr (m4 15 (by decide)), ai_fr (m4 16 (by decide)), ai_fr (m4 18 (by decide)), ai_fr (m4 20 (by decide)), ai_fr (m4 21 (by decide)), ai_fr (m4 23 (by decide)), ai_fr (m4 24 (by decide)), ai_fr (m4 25 (by decide)), ai_fr (m4 26 (by decide)), ai_fr (m4 27 (by decide)), ai_fr (m4 28 (by decide)), ai_fr (m4 30 (by decide)), m4 31 (by decide), m4 32 (by decide)]
          refine ⟨w1, w2, w3, w4, w5, w6, ?_⟩
          show F3 d 18 = Am4 41 (Fm2 19).toInt.toNat
          rw [U3.1]
          have e219 : Fm2 19 = Fm1 19 := V2.fm 19 (by decide) (by decide) (by decide) (by decide) (by decide)
          rw [e219]
          exact i_ext a4.2.2.2.1.symm
        exact p2_some (.inr ⟨U5.rt, X4, U5.v.h hd H4, W4.v H4.s0 hd U5.c U5.m⟩)
      · exact p2_some (.inl E)
    · have e10 : ∀ {F3 : Nat → Nat → Int32} {x : Int32}, c_pf F2 d 18 x = some F3 → F3 37 10 = F2 37 10 := fun e => (gg_cpf e).2 37 10 (fun e => hd e.1.symm)
      refine p2_ff E ?_ ?_
      · dsimp only
        refine po_bl (fun F3 e3 => ?_)
        rw [e_take_ff (by rw [e10 e3]; exact E.c), Option.bind_some]
        exact po_some (e10 e3)
      · ((try dsimp only); repeat' (first | exact po_some rfl | rw [FE.nz E, cond_true] | rw [FE.le E, cond_false] | rw [FE.gt E, cond_true] | rw [d_must_ff (FE.gg E), Option.bind_some] | rw [d_known_ff (FE.gg E), Option.bind_some] | rw [d_num_ff (FE.gg E), Option.bind_some] | rw [d_is_ff (FE.gg E), Option.bind_some] | (refine po_call (d_named_ff (FE.gg E)) ?_; rintro _ rfl; try dsimp only) | refine po_cond (fun _ => ?_) (fun _ => ?_) | refine po_bl (fun _ _ => ?_)))
  · refine p2_ff E ?_ ?_
    · dsimp only
      rw [hc, Option.bind_some, e_num_ff E.c, Option.bind_some]
      dsimp only
      refine po_bl (fun F3 e3 => ?_)
      have e10 : F3 37 10 = F1 37 10 := (gg_cpf e3).2 37 10 (fun e => hd e.1.symm)
      rw [e_take_ff (by rw [e10]; exact E.c), Option.bind_some]
      exact po_some e10
    · ((try dsimp only); repeat' (first | exact po_some rfl | rw [FE.nz E, cond_true] | rw [FE.le E, cond_false] | rw [FE.gt E, cond_true] | rw [d_must_ff (FE.gg E), Option.bind_some] | rw [d_known_ff (FE.gg E), Option.bind_some] | rw [d_num_ff (FE.gg E), Option.bind_some] | rw [d_is_ff (FE.gg E), Option.bind_some] | (refine po_call (d_named_ff (FE.gg E)) ?_; rintro _ rfl; try dsimp only) | refine po_cond (fun _ => ?_) (fun _ => ?_) | refine po_bl (fun _ _ => ?_)))
end A8
end Qz102
