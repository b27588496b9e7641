/-! the class reads -/
section R9e
variable {P P' : Nat → Nat → Nat} {F F' F0 : Nat → Nat → Int32} {A A' A0 : Nat → Nat → Nat → Int32} {J : Nat → Nat → Nat → Int64} {n d : Nat}
/-- what the reading of a text leaves -/
def RTc (P : Nat → Nat → Nat) (d : Nat) (F0 : Nat → Nat → Int32) (A0 : Nat → Nat → Nat → Int32) (r : Int32 × (Nat → Nat → Nat) × (Nat → Nat → Int32) × (Nat → Nat → Nat → Int32) × (Nat → Nat → Nat → Int64)) : Prop := r.2.1 = P ∧ Rc r.2.2.1 r.2.2.2.1 ∧ (∀ r' k, r' ≠ 37 → r' ≠ d → r' ≠ 3 → r.2.2.1 r' k = F0 r' k) ∧ (∀ r' o, r' ≠ 37 → r' ≠ d → r' ≠ 3 → r.2.2.2.1 r' o = A0 r' o) ∧ (r.1.toInt ≠ 0 ∨ (DVc r.2.2.1 r.2.2.2.1 d ∧ ∀ t, cf r.2.2.1 d 16 ≤ t → t < 6 → ci r.2.2.2.1 d 5 t = 0))
theorem s_readText_171 (hk : c_kind d = 6) (V : RVc d F0 F A0 A) : ok (e_Reader_readText_171 n P F A J) (RTc P d F0 A0) := by
  have l0 : (0 : Int32).toInt = 0 := by decide
  have hd := kd37 hk
  obtain ⟨v1, ⟨v2, v3⟩, v4, v5, v6⟩ := V
  unfold e_Reader_readText_171
  refine ok_cond (fun c => ?_) (fun c => ?_)
  · rw [i_ne, l0] at c
    exact ok_some ⟨rfl, v1, v2, v3, .inl c⟩
  · rw [i_nne, l0] at c
    refine ok_cpf ?_
    intro F2 U2
    refine ok_cpf ?_
    intro F3 U3
    have fd : ∀ k, F3 d k = F d k := fun k => (U3.2 d k (fun h => hd h.1)).trans (U2.2 d k (fun h => hd h.1))
    have k10 : F3 37 10 = F 37 12 := (U3.2 37 10 (by simp)).trans U2.1
    refine ok_some ⟨rfl, (v1.pf U2 trivial).pf U3 trivial, fun r k a b c => (U3.2 r k (fun h => a h.1)).trans ((U2.2 r k (fun h => a h.1)).trans (v2 r k a b c)), v3, ?_⟩
    show (F3 37 10).toInt ≠ 0 ∨ (DVc F3 A d ∧ ∀ t, cf F3 d 16 ≤ t → t < 6 → ci A d 5 t = 0)
    rw [k10]
    rcases v6 with h | h | h
    · exact absurd c h
    · exact .inl h
    · refine .inr ⟨h.cgF fd, ?_⟩
      unfold cf
      rw [fd]
      exact v4
theorem s_readText_10 (e5 : P 37 5 = d) (e6 : P 37 6 = 3) (hk : c_kind d = 6) : ∀ {n : Nat} {F : Nat → Nat → Int32} {A : Nat → Nat → Nat → Int32} {J : Nat → Nat → Nat → Int64} {x4 : Int32}, RVc d F0 F A0 A → 0 ≤ x4.toInt ∧ x4.toInt ≤ 401 → 1000 - x4.toInt < (n : Int) → ok (e_Reader_readText_10 n P F A J x4) (RTc P d F0 A0) := by
  have hd := kd37 hk
  intro n
  induction n with
  | zero => intro F A J x4 V hx hn; exact absurd hn (by omega)
  | succ n ih =>
    intro F A J x4 V hx hn
    have l1 : (1 : Int32).toInt = 1 := by decide
    have l400 : (400 : Int32).toInt = 400 := by decide
    have a := V.1.tok
    have f171 : ok (e_Reader_readText_171 n P F A J) (RTc P d F0 A0) := s_readText_171 hk V
    unfold e_Reader_readText_10
    refine ok_cond (fun _ => f171) (fun c => ?_)
    rw [i_ngt] at c
    have e4 := i_add (x := x4) (y := 1) (by omega) (by omega)
    refine ok_cond (fun _ => f171) (fun _ => ?_)
    refine ok_call (s_isNext V.1) ?_
    intro v8 _
    refine ok_cond (fun _ => f171) (fun _ => ?_)
    refine ok_ldn (by omega) (by omega) (fun v10 => ?_)
    have nx : ∀ {o : Option (Unit × (Nat → Nat → Nat) × (Nat → Nat → Int32) × (Nat → Nat → Nat → Int32) × (Nat → Nat → Nat → Int64))}, ok o (RXc P d F0 A0) → ok (o.bind fun (_, P13, F14, A15, J16) => e_Reader_readText_165 (e_Reader_readText_10 n) n P13 F14 A15 J16 x4) (RTc P d F0 A0) := by
      intro o ho
      refine ok_call ho ?_
      rintro ⟨u, P2, F2, A2, J2⟩ ⟨g1, g2⟩
      dsimp only at g1 g2 ⊢
      subst g1
      unfold e_Reader_readText_165
      exact ih g2 (by omega) (by omega)
    refine ok_cond (fun _ => nx (s_readRoom e5 hk V (by omega))) (fun _ => ?_)
    refine ok_cond (fun _ => nx (s_readDoor e5 e6 hk V (by omega))) (fun _ => ?_)
    refine ok_cond (fun _ => nx (s_readTool e5 e6 hk V (by omega))) (fun _ => ?_)
    refine ok_cond (fun _ => nx (s_readTask e5 e6 hk V (by omega))) (fun _ => ?_)
    refine ok_cond (fun _ => nx (s_readStep e5 hk V (by omega))) (fun _ => ?_)
    refine ok_cond (fun _ => nx (s_readMan e5 e6 hk V (by omega))) (fun _ => ?_)
    refine ok_cond (fun _ => nx (s_readLaw e5 hk V (by omega))) (fun _ => ?_)
    refine ok_cond (fun _ => nx (s_readNight e5 hk V)) (fun _ => ?_)
    refine ok_ldn (by omega) (by omega) (fun v52 => ?_)
    refine ok_call (s_fail V.1 (by decide)) ?_
    rintro ⟨u, P2, F2, A2, J2⟩ ⟨q, -⟩
    dsimp only at q ⊢
    have V2 := V.q hd q
    have ep := q.1
    subst ep
    exact ih V2 (by omega) (by omega)
theorem s_houseClear (hk : c_kind d = 6) (R : Rc F A) : ok (e_House_clear P F A J d) (fun r => r.2.1 = P ∧ (∀ r' k, r' ≠ d → r.2.2.1 r' k = F r' k) ∧ (∀ r' o, r' ≠ d → r.2.2.2.1 r' o = A r' o) ∧ Rc r.2.2.1 r.2.2.2.1 ∧ cf r.2.2.1 d 14 = 0 ∧ cf r.2.2.1 d 16 = 0 ∧ cf r.2.2.1 d 17 = 0 ∧ cf r.2.2.1 d 18 = 480 ∧ cf r.2.2.1 d 1304 = 0 ∧ (∀ t, 0 ≤ t → t < 6 → ci r.2.2.2.1 d 5 t = 0)) := by
  have l0 : (0 : Int32).toInt = 0 := by decide
  have l480 : (480 : Int32).toInt = 480 := by decide
  unfold e_House_clear
  refine ok_cpf ?_
  intro F1 U1
  refine ok_cpf ?_
  intro F2 U2
  refine ok_cpf ?_
  intro F3 U3
  refine ok_cpf ?_
  intro F4 U4
  refine ok_cpf ?_
  intro F5 U5
  refine ok_cpf ?_
  intro F6 U6
  refine ok_cfi ?_
  intro A7 a7 b7 c7
  have R6 : Rc F6 A := (((((R.pf U1 (by rw [hk]; exact (show 0 ≤ (0 : Int32).toInt ∧ (0 : Int32).toInt ≤ 8 by decide))).pf U2 (by rw [hk]; exact (show 0 ≤ (0 : Int32).toInt ∧ (0 : Int32).toInt ≤ 12 by decide))).pf U3 (by rw [hk]; exact (show 0 ≤ (0 : Int32).toInt ∧ (0 : Int32).toInt ≤ 6 by decide))).pf U4 (by rw [hk]; exact (show 0 ≤ (0 : Int32).toInt ∧ (0 : Int32).toInt ≤ 6 by decide))).pf U5 (by rw [hk]; exact (show 0 ≤ (0 : Int32).toInt ∧ (0 : Int32).toInt ≤ 6 by decide))).pf U6 (by rw [hk]; exact trivial)
  have R7 : Rc F6 A7 := R6.fi a7 b7 c7 (by rw [hk]; exact (show 0 ≤ (0 : Int32).toInt ∧ (0 : Int32).toInt ≤ 6 by decide))
  unfold e_Laws_clear
  have lc : ok ((c_pf F6 d 1304 0).bind fun F1 => (c_fi A7 d 14 6 ((-1))).bind fun A2 => some ((), P, F1, A2, J)) (fun r => r.2.1 = P ∧ FUm F6 r.2.2.1 d 1304 0 ∧ (∀ r' o, ¬ (r' = d ∧ o = 14) → r.2.2.2.1 r' o = A7 r' o) ∧ Rc r.2.2.1 r.2.2.2.1) := by
    refine ok_cpf ?_
    intro F8 U8
    refine ok_cfi ?_
    intro A9 a9 b9 c9
    exact ok_some ⟨rfl, U8, c9, (R7.pf U8 (by rw [hk]; exact (show 0 ≤ (0 : Int32).toInt ∧ (0 : Int32).toInt ≤ 400 by decide))).fi a9 b9 c9 (by rw [hk]; exact trivial)⟩
  refine ok_call lc ?_
  rintro ⟨u, P8, F8, A8, J8⟩ ⟨g1, U8, g3, g4⟩
  dsimp only at g1 U8 g3 g4 ⊢
  refine ok_some ⟨g1, fun r k h => (U8.2 r k (fun e => h e.1)).trans ((U6.2 r k (fun e => h e.1)).trans ((U5.2 r k (fun e => h e.1)).trans ((U4.2 r k (fun e => h e.1)).trans ((U3.2 r k (fun e => h e.1)).trans ((U2.2 r k (fun e => h e.1)).trans (U1.2 r k (fun e => h e.1))))))), fun r o h => (g3 r o (fun e => h e.1)).trans (c7 r o (fun e => h e.1)), g4, ?_, ?_, ?_, ?_, ?_, fun t t0 t1 => ?_⟩
  · show (F8 d 14).toInt = 0
    rw [U8.2 d 14 (by simp), U6.2 d 14 (by simp), U5.2 d 14 (by simp), U4.2 d 14 (by simp), U3.2 d 14 (by simp), U2.1]; exact l0
  · show (F8 d 16).toInt = 0
    rw [U8.2 d 16 (by simp), U6.2 d 16 (by simp), U5.2 d 16 (by simp), U4.1]; exact l0
  · show (F8 d 17).toInt = 0
    rw [U8.2 d 17 (by simp), U6.2 d 17 (by simp), U5.1]; exact l0
  · show (F8 d 18).toInt = 480
    rw [U8.2 d 18 (by simp), U6.1]; exact l480
  · show (F8 d 1304).toInt = 0
    rw [U8.1]; exact l0
  · show ci A8 d 5 t = 0
    rw [ci_fr (g3 d 5 (by simp)), a7 t t0 t1]; exact l0
theorem s_open (hk : c_kind d = 6) (R : Rc F A) (hn : 5200 ≤ n) : ok (e_Reader_open n P F A J d 3) (fun r => (∀ r' k, r' ≠ 37 → r.2.1 r' k = P r' k) ∧ r.2.1 37 5 = d ∧ r.2.1 37 6 = 3 ∧ RVc d F r.2.2.1 A r.2.2.2.1) := by
  have l0 : (0 : Int32).toInt = 0 := by decide
  have hd := kd37 hk
  have h3 := kd3 hk
  unfold e_Reader_open
  refine ok_cpp ?_
  intro P1 p1 o1
  refine ok_cpp ?_
  intro P2 p2 o2
  have x5 : P2 37 5 = d := (o2 37 5 (by simp)).trans p1
  have x6 : P2 37 6 = 3 := p2
  have oP : ∀ r' k, r' ≠ 37 → P2 r' k = P r' k := fun r' k h => (o2 r' k (fun e => h e.1)).trans (o1 r' k (fun e => h e.1))
  rw [x5]
  refine ok_chk hk ?_
  refine ok_call (s_houseClear hk R) ?_
  rintro ⟨u3, P3, F3, A3, J3⟩ ⟨g1, g2, g3, g4, g5, g6, g7, g8, g9, g10⟩
  dsimp only at g1 g2 g3 g4 g5 g6 g7 g8 g9 g10 ⊢
  subst g1
  rw [x6]
  refine ok_chk (by decide) ?_
  refine ok_call (s_clear (r0 := 3) (by decide) g4) ?_
  rintro ⟨u4, P4, F4, A4, J4⟩ ⟨y1, y2, y3, y4, y5⟩
  dsimp only at y1 y2 y3 y4 y5 ⊢
  subst y1
  refine ok_cpf ?_
  intro F5 U5
  refine ok_cpf ?_
  intro F6 U6
  refine ok_cpf ?_
  intro F7 U7
  refine ok_cpf ?_
  intro F8 U8
  refine ok_cpf ?_
  intro F9 U9
  have R9 : Rc F9 A4 := ((((y4.pf U5 (show 0 ≤ (0 : Int32).toInt ∧ (0 : Int32).toInt ≤ 400 by decide)).pf U6 (show 0 ≤ (0 : Int32).toInt ∧ (0 : Int32).toInt ≤ 400 by decide)).pf U7 (show 0 ≤ (0 : Int32).toInt ∧ (0 : Int32).toInt ≤ 8 by decide)).pf U8 trivial).pf U9 trivial
  refine ok_call (s_scanAll R9 (by omega)) ?_
  rintro ⟨u10, P10, F10, A10, J10⟩ ⟨z1, z2, z3, z4⟩
  dsimp only at z1 z2 z3 z4 ⊢
  subst z1
  have f37 : ∀ r k, r ≠ 37 → F10 r k = F4 r k := fun r k h => (z2 r k (fun e => h e.1)).trans ((U9.2 r k (fun e => h e.1)).trans ((U8.2 r k (fun e => h e.1)).trans ((U7.2 r k (fun e => h e.1)).trans ((U6.2 r k (fun e => h e.1)).trans (U5.2 r k (fun e => h e.1))))))
  have fd : ∀ k, F10 d k = F3 d k := fun k => (f37 d k hd).trans (y2 d k h3)
  have ad : ∀ o, A10 d o = A3 d o := fun o => (z3 d o (fun e => hd e.1)).trans (y3 d o h3)
  have b14 : cf F10 d 14 = 0 := by unfold cf at g5 ⊢; rw [fd]; exact g5
  have b16 : cf F10 d 16 = 0 := by unfold cf at g6 ⊢; rw [fd]; exact g6
  have b17 : cf F10 d 17 = 0 := by unfold cf at g7 ⊢; rw [fd]; exact g7
  have b18 : cf F10 d 18 = 480 := by unfold cf at g8 ⊢; rw [fd]; exact g8
  have b13 : cf F10 d 1304 = 0 := by unfold cf at g9 ⊢; rw [fd]; exact g9
  have b5 : ∀ t, 0 ≤ t → t < 6 → ci A10 d 5 t = 0 := fun t t0 t1 => by rw [ci_fr (ad 5)]; exact g10 t t0 t1
  have tk : 0 ≤ (F10 37 7).toInt ∧ (F10 37 7).toInt ≤ 400 := z4.1 37 7
  suffices V : RVc d F F10 A A10 from ok_some ⟨oP, x5, x6, V⟩
  refine ⟨z4, ⟨fun r k a b c => (f37 r k a).trans ((y2 r k c).trans (g2 r k b)), fun r o a b c => (z3 r o (fun e => a e.1)).trans ((y3 r o c).trans (g3 r o b))⟩, fun t p q => b5 t (by omega) q, .inr (by unfold cf at b13 ⊢; omega), .inr (.inr ⟨fun x p q => absurd q (by omega), fun x p q => absurd q (by omega), fun x p q => absurd q (by omega), fun t s t0 t1 s0 s1 => absurd s1 (by rw [b5 t t0 t1]; omega), fun i p q => absurd q (by omega), ⟨by omega, by omega⟩, fun m m0 m1 => ?_⟩)⟩
  rw [ci_fr (z3 3 3 (by simp)), y5 m m0 m1]
  exact .inl rfl
/-- the draft was written, the house in use is as it was -/
theorem Gc.rd (G : Gc P F A) (R : Rc F' A') (h8 : P' 0 8 = P 0 8) (h9 : P' 0 9 = P 0 9) (h4 : P' 32 4 = P 32 4) (hF : ∀ k, F' (P 0 8) k = F (P 0 8) k) (hA : ∀ o, A' (P 0 8) o = A (P 0 8) o) (h3 : ∀ r, c_kind r = 2 → r ≠ 3 → A' r 3 = A r 3) (f4 : ∀ k, F' 4 k = F 4 k) (f0 : F' 0 10 = F 0 10) : Gc P' F' A' := by
  obtain ⟨g1, g2, g3, g4, g5, g6, g7⟩ := G
  refine ⟨R, by rw [h8, h9]; exact g2, by rw [h4, h8]; exact g3, by rw [h8]; exact g4.cg hF (fun o _ => hA o), by rw [h8]; exact g5.cg (hA 5) (h3 2 (by decide) (by decide)), fun u u0 u1 => ?_, fun s s0 s1 => ?_⟩
  · unfold cf at u1 ⊢
    rw [f4 1, h8]
    rw [f4 2] at u1
    have := k_st (m := (((F 4 1).toInt + u) % 20).toNat) (by omega)
    exact (g6 u u0 u1).cg (hA 5) (h3 _ this.1 this.2.1)
  · rw [f0] at s1
    rw [h8]
    have := k_sl s0
    exact (g7 s s0 s1).cg (hA 5) (h3 _ this.1 this.2.1)
theorem s_cRead (G : Gc P F A) (hn : 6000 ≤ n) : ok (e_SleepWork_read n P F A J) (fun r => (Gc r.2.1 r.2.2.1 r.2.2.2.1 ∧ r.2.1 32 9 = P 32 9) ∧ cf r.2.2.1 1 1 = 0) := by
  have l0 : (0 : Int32).toInt = 0 := by decide
  have hk := G.k09
  have hd := kd37 hk
  have h3 := kd3 hk
  have hne : P 0 8 ≠ P 0 9 := by rcases G.2.1 with h | h <;> (rw [h.1, h.2]; decide)
  have n37 : P 0 8 ≠ 37 := kd37 G.k08
  have n3 : P 0 8 ≠ 3 := kd3 G.k08
  unfold e_SleepWork_read
  refine ok_chk hk ?_
  unfold e_Reader_readText
  have rt : ok ((e_Reader_open n P F A J (P 0 9) 3).bind fun (_, P2, F3, A4, J5) => e_Reader_readText_10 n P2 F3 A4 J5 0) (fun r => (∀ r' k, r' ≠ 37 → r.2.1 r' k = P r' k) ∧ RTc r.2.1 (P 0 9) F A r) := by
    refine ok_call (s_open hk G.1 (by omega)) ?_
    rintro ⟨u, P2, F2, A2, J2⟩ ⟨oP, x5, x6, V⟩
    dsimp only at oP x5 x6 V ⊢
    refine ok_mono (s_readText_10 x5 x6 hk V (by decide) (by omega)) (fun r hr => ?_)
    have e := hr.1
    rw [e]
    exact ⟨oP, hr⟩
  refine ok_call rt ?_
  rintro ⟨v2, P2, F2, A2, J2⟩ ⟨oP, t1, t2, t3, t4, t5⟩
  dsimp only at oP t1 t2 t3 t4 t5 ⊢
  unfold e_Reader_placeOfFault
  have pf : ok (cond (g_cnd .ne (F2 37 10) 0) (some (F2 37 11)) (some (-1))) (fun _ => True) := ok_cond (fun _ => ok_some trivial) (fun _ => ok_some trivial)
  refine ok_call pf ?_
  intro v7 _
  refine ok_cpf ?_
  intro F8 U8
  refine ok_cpf ?_
  intro F9 U9
  have R9 : Rc F9 A2 := (t2.pf U8 trivial).pf U9 (show 0 ≤ (0 : Int32).toInt ∧ (0 : Int32).toInt ≤ 2000 by decide)
  have o9 : ∀ r k, ¬ (r = 0 ∧ k = 11) → ¬ (r = 1 ∧ k = 1) → F9 r k = F2 r k := fun r k a b => (U9.2 r k b).trans (U8.2 r k a)
  have z1 : cf F9 1 1 = 0 := by unfold cf; rw [U9.1]; exact l0
  have nd : ∀ {r : Nat}, c_kind r ≠ 6 → r ≠ P 0 9 := fun h e => h (by rw [e]; exact hk)
  have G9 : Gc P2 F9 A2 := by
    refine G.rd R9 (oP 0 8 (by decide)) (oP 0 9 (by decide)) (oP 32 4 (by decide)) (fun k => (o9 _ k (fun e => by have := e.1; have := G.live; omega) (fun e => by have := e.1; have := G.live; omega)).trans (t3 _ k n37 hne n3)) (fun o => t4 _ o n37 hne n3) (fun r a b => t4 r 3 (fun e => absurd a (by rw [e]; decide)) (nd (by rw [a]; decide)) b) (fun k => (o9 4 k (by simp) (by simp)).trans (t3 4 k (by decide) (nd (by decide)) (by decide))) ((o9 0 10 (by simp) (by simp)).trans (t3 0 10 (by decide) (nd (by decide)) (by decide)))
  refine ok_cond (fun _ => ok_some ⟨⟨G9, oP 32 9 (by decide)⟩, z1⟩) (fun c => ?_)
  rw [i_nne, l0] at c
  obtain ⟨D, D5⟩ := t5.resolve_left (fun h => h c)
  -- the move
  unfold e_SleepWork_moveIn
  have mv : ok ((c_chk 6 (P2 0 8)).bind fun q1 => (c_chk 6 (P2 0 9)).bind fun q2 => (c_pp P2 0 8 q2).bind fun P3 => (c_pp P3 0 9 q1).bind fun P4 => (e_State_copy P4 F9 A2 J2 2 3).bind fun (_, P6, F7, A8, J9) => (c_pf F7 4 2 0).bind fun F10 => (c_pf F10 25 2 0).bind fun F11 => (c_pf F11 0 10 0).bind fun F12 => (c_chk 6 (P6 0 8)).bind fun q13 => (e_Evening_enter P6 F12 A8 J9 q13).bind fun (_, P15, F16, A17, J18) => some ((), P15, F16, A17, J18)) (fun r => (Gc r.2.1 r.2.2.1 r.2.2.2.1 ∧ r.2.1 32 9 = P 32 9) ∧ cf r.2.2.1 1 1 = 0) := by
    refine ok_chk G9.k08 ?_
    refine ok_chk G9.k09 ?_
    refine ok_cpp ?_
    intro P3 p3 o3
    refine ok_cpp ?_
    intro P4 p4 o4
    have y9 : P2 0 9 = P 0 9 := oP 0 9 (by decide)
    have y8 : P2 0 8 = P 0 8 := oP 0 8 (by decide)
    have x8 : P4 0 8 = P 0 9 := (o4 0 8 (by simp)).trans (p3.trans y9)
    have x9 : P4 0 9 = P 0 8 := p4.trans y8
    refine ok_call (s_copy (r0 := 2) (r1 := 3) (by decide) (by decide) G9.1) ?_
    rintro ⟨u, P5, F5, A5, J5⟩ ⟨g1, g2, g3, g4, g5⟩
    dsimp only at g1 g2 g3 g4 g5 ⊢
    subst g1
    refine ok_cpf ?_
    intro Fa Ua
    refine ok_cpf ?_
    intro Fb Ub
    refine ok_cpf ?_
    intro Fc Uc
    have kd : c_kind (P5 0 8) = 6 := by rw [x8]; exact hk
    refine ok_chk kd ?_
    rw [x8]
    unfold e_Evening_enter
    have en : ok ((c_pp P5 32 4 (P 0 9)).bind fun P1 => (e_Ways_drop P1 Fc A5 J5).bind fun (_, P3, F4, A5, J6) => (e_Evening_setStale P3 F4 A5 J6).bind fun (_, P8, F9, A10, J11) => some ((), P8, F9, A10, J11)) (fun r => r.2.1 32 4 = P 0 9 ∧ r.2.1 0 8 = P5 0 8 ∧ (r.2.1 0 9 = P5 0 9 ∧ r.2.1 32 9 = P5 32 9) ∧ (∀ r' k, ¬ (r' = 36 ∧ k = 101) → ¬ (r' = 32 ∧ k = 6) → r.2.2.1 r' k = Fc r' k) ∧ r.2.2.2.1 = A5 ∧ (Rc Fc A5 → Rc r.2.2.1 A5)) := by
      refine ok_cpp ?_
      intro P6 p6 o6
      unfold e_Ways_drop
      have wd : ok ((c_pf Fc 36 101 (-1)).bind fun F1 => some ((), P6, F1, A5, J5)) (fun r => r.2.1 = P6 ∧ FUm Fc r.2.2.1 36 101 (-1) ∧ r.2.2.2.1 = A5) := by
        refine ok_cpf ?_
        intro Fd Ud
        exact ok_some ⟨rfl, Ud, rfl⟩
      refine ok_call wd ?_
      rintro ⟨u7, P7, F7, A7, J7⟩ ⟨w1, w2, w3⟩
      dsimp only at w1 w2 w3 ⊢
      subst w1
      subst w3
      unfold e_Evening_setStale
      have ss : ok ((c_pf F7 32 6 (-1)).bind fun F1 => some ((), P7, F1, A7, J7)) (fun r => r.2.1 = P7 ∧ FUm F7 r.2.2.1 32 6 (-1) ∧ r.2.2.2.1 = A7) := by
        refine ok_cpf ?_
        intro Fd Ud
        exact ok_some ⟨rfl, Ud, rfl⟩
      refine ok_call ss ?_
      rintro ⟨u8, P8, F8', A8, J8⟩ ⟨w4, w5, w6⟩
      dsimp only at w4 w5 w6 ⊢
      subst w4
      exact ok_some ⟨p6, o6 0 8 (by simp), ⟨o6 0 9 (by simp), o6 32 9 (by simp)⟩, fun r k a b => (w5.2 r k b).trans (w2.2 r k a), w6, fun R => (R.pf w2 trivial).pf w5 trivial⟩
    refine ok_call en ?_
    rintro ⟨u9, P9, F9', A9, J9⟩ ⟨e1, e2, e3, e4, e5, e6⟩
    dsimp only at e1 e2 e3 e4 e5 e6 ⊢
    subst e5
    have Rc' : Rc Fc A9 := ((g4.pf Ua (show 0 ≤ (0 : Int32).toInt ∧ (0 : Int32).toInt ≤ 20 by decide)).pf Ub (show 0 ≤ (0 : Int32).toInt ∧ (0 : Int32).toInt ≤ 30 by decide)).pf Uc (show 0 ≤ (0 : Int32).toInt ∧ (0 : Int32).toInt ≤ 7 by decide)
    have R' := e6 Rc'
    have n2 : P 0 9 ≠ 2 := fun e => absurd hk (by rw [e]; decide)
    have fd : ∀ k, F9' (P 0 9) k = F2 (P 0 9) k := fun k => by
      have q1 : ∀ {r : Nat}, c_kind r ≠ 6 → ¬ (P 0 9 = r) := fun h e => h (by rw [← e]; exact hk)
      exact (e4 _ k (fun e => q1 (by decide) e.1) (fun e => q1 (by decide) e.1)).trans ((Uc.2 _ k (fun e => q1 (by decide) e.1)).trans ((Ub.2 _ k (fun e => q1 (by decide) e.1)).trans ((Ua.2 _ k (fun e => q1 (by decide) e.1)).trans ((g2 _ k n2).trans (o9 _ k (fun e => q1 (by decide) e.1) (fun e => q1 (by decide) e.1))))))
    have ad : ∀ o, A9 (P 0 9) o = A2 (P 0 9) o := fun o => g3 _ o n2
    have f42 : cf F9' 4 2 = 0 := by unfold cf; rw [e4 4 2 (by simp) (by simp), Uc.2 4 2 (by simp), Ub.2 4 2 (by simp), Ua.1]; exact l0
    have f010 : F9' 0 10 = 0 := by rw [e4 0 10 (by simp) (by simp), Uc.1]
    have f11 : F9' 1 1 = F9 1 1 := (e4 1 1 (by simp) (by simp)).trans ((Uc.2 1 1 (by simp)).trans ((Ub.2 1 1 (by simp)).trans ((Ua.2 1 1 (by simp)).trans (g2 1 1 (by decide)))))
    suffices GZ : Gc P9 F9' A9 from ok_some ⟨⟨GZ, e3.2.trans ((o4 32 9 (by simp)).trans ((o3 32 9 (by simp)).trans (oP 32 9 (by decide))))⟩, (show cf F9' 1 1 = 0 by unfold cf at z1 ⊢; rw [f11]; exact z1)⟩
    refine ⟨R', ?_, ?_, ?_, ?_, fun u u0 u1 => absurd u1 (by omega), fun s s0 s1 => absurd (b_none ⟨s, s0⟩) (by rw [f010] at s1; exact s1)⟩
    · show (P9 0 8 = 27 ∧ P9 0 9 = 28) ∨ (P9 0 8 = 28 ∧ P9 0 9 = 27)
      rw [e2, e3.1, x8, x9]
      rcases G.2.1 with h | h
      · exact .inr ⟨h.2, h.1⟩
      · exact .inl ⟨h.2, h.1⟩
    · show P9 32 4 = P9 0 8
      rw [e1, e2, x8]
    · show HVc F9' A9 (P9 0 8)
      rw [e2, x8]
      obtain ⟨d1, d2, d3, d4, d5, d6, d7⟩ := D
      have HV2 : HVc F2 A2 (P 0 9) := by
        refine ⟨d1, d2, fun t t0 t1 hp => ?_, d4, d5, d6⟩
        by_cases w : cf F2 (P 0 9) 16 ≤ t
        · exact absurd (D5 t w t1) (by omega)
        · exact d3 t t0 (by omega)
      exact HV2.cg fd (fun o _ => ad o)
    · show LVc A9 (P9 0 8) 2
      rw [e2, x8]
      intro m m0 m1
      rw [g5 m m0 m1]
      exact (D.2.2.2.2.2.2 m m0 m1).cg (ad 5)
  refine ok_call mv ?_
  rintro ⟨u, P12, F13, A14, J15⟩ ⟨m1, m2⟩
  exact ok_some ⟨m1, m2⟩
end R9e
