/-! leave and work, on both sides; undo, hold, restore, tell, forget with all that is shared -/
section H9fa
variable {n : Nat} {h : Nat} {P P' : Nat → Nat → Nat} {F F' : Nat → Nat → Int32} {A A' : Nat → Nat → Nat → Int32} {J : Nat → Nat → Nat → Int64} {Fm Fm' : Nat → Int32} {Am Am' : Nat → Nat → Int32} {Jm : Nat → Nat → Int64} {x1 x2 x3 : Int32}
theorem u_cLeave (h16 : (F (P 0 8) 16).toInt ≤ 6) (h5 : ∀ t, 0 ≤ t → ci A (P 0 8) 5 t ≤ 6) : po (e_SleepWork_leave P F A J x1 x2 x3) (fun r => ∃ v, CH P F A 3 x1.toInt v r ∧ (r.1 = 1 → (x2.toInt = -1 ∧ x3.toInt = -1 ∧ v = -1) ∨ (0 ≤ x2.toInt ∧ x2.toInt < (F (P 0 8) 16).toInt ∧ 0 ≤ x3.toInt ∧ x3.toInt < ci A (P 0 8) 5 x2.toInt ∧ v = x2.toInt * 6 + x3.toInt))) := by
  have lm : ((-1 : Int32)).toInt = -1 := by decide
  have none : ∀ {r : cR Int32}, r.1 = 0 → r.2.1 = P → r.2.2.1 = F → r.2.2.2.1 = A → ∃ v, CH P F A 3 x1.toInt v r ∧ (r.1 = 1 → (x2.toInt = -1 ∧ x3.toInt = -1 ∧ v = -1) ∨ (0 ≤ x2.toInt ∧ x2.toInt < (F (P 0 8) 16).toInt ∧ 0 ≤ x3.toInt ∧ x3.toInt < ci A (P 0 8) 5 x2.toInt ∧ v = x2.toInt * 6 + x3.toInt)) := fun a b c d => ⟨0, ⟨b, .inl ⟨a, c, d⟩⟩, fun e => absurd (a.symm.trans e) (by decide)⟩
  have f69 : ∀ {s2 : Int32}, ((x2.toInt = -1 ∧ x3.toInt = -1 ∧ s2.toInt = -1) ∨ (0 ≤ x2.toInt ∧ x2.toInt < (F (P 0 8) 16).toInt ∧ 0 ≤ x3.toInt ∧ x3.toInt < ci A (P 0 8) 5 x2.toInt ∧ s2.toInt = x2.toInt * 6 + x3.toInt)) → po (e_SleepWork_leave_69 P F A J x1 s2) (fun r => ∃ v, CH P F A 3 x1.toInt v r ∧ (r.1 = 1 → (x2.toInt = -1 ∧ x3.toInt = -1 ∧ v = -1) ∨ (0 ≤ x2.toInt ∧ x2.toInt < (F (P 0 8) 16).toInt ∧ 0 ≤ x3.toInt ∧ x3.toInt < ci A (P 0 8) 5 x2.toInt ∧ v = x2.toInt * 6 + x3.toInt))) := by
    intro s2 hs
    unfold e_SleepWork_leave_69
    refine po_bl (fun A10 h10 => ?_)
    have U := gg_cst h10
    refine po_call w_stale ?_
    rintro ⟨u, P7, F8, A9, J10⟩ ⟨w1, w2, w3⟩
    dsimp only at w1 w2 w3 ⊢
    rw [w1, w3]
    exact po_some ⟨s2.toInt, ⟨rfl, .inr ⟨rfl, ⟨U.1, U.2.1⟩, w2, U.2.2⟩⟩, fun _ => hs⟩
  have two : 0 ≤ x2.toInt ∧ x2.toInt < (F (P 0 8) 16).toInt ∧ 0 ≤ x3.toInt ∧ x3.toInt < ci A (P 0 8) 5 x2.toInt → (x2 * 6 + x3).toInt = x2.toInt * 6 + x3.toInt := fun q => by
    have := h5 x2.toInt q.1
    have m := i_mulR (c := 6) (k := 6) (x := x2) (by decide) (by omega) (by omega)
    rw [i_add (by rw [m]; omega) (by rw [m]; omega), m]
  unfold e_SleepWork_leave
  refine po_bl (fun v1 _ => ?_)
  refine po_cond (fun _ => ?_) (fun _ => po_some (none rfl rfl rfl rfl))
  have f24 : ¬ (x2.toInt = -1 ∧ x3.toInt = -1) → po (e_SleepWork_leave_24 P F A J x1 x2 x3) (fun r => ∃ v, CH P F A 3 x1.toInt v r ∧ (r.1 = 1 → (x2.toInt = -1 ∧ x3.toInt = -1 ∧ v = -1) ∨ (0 ≤ x2.toInt ∧ x2.toInt < (F (P 0 8) 16).toInt ∧ 0 ≤ x3.toInt ∧ x3.toInt < ci A (P 0 8) 5 x2.toInt ∧ v = x2.toInt * 6 + x3.toInt))) := fun hn => by
    unfold e_SleepWork_leave_24 e_SleepWork_leave_25
    refine po_cond (fun c => absurd c (by decide)) (fun _ => ?_)
    refine po_bl (fun _ h => ?_)
    obtain ⟨-, rfl⟩ := gg_chk h
    refine po_call v_cStep ?_
    intro v b
    rcases b with ⟨rfl, p2⟩ | ⟨rfl, p2⟩
    · refine po_cond (fun _ => ?_) (fun c => absurd c (by decide))
      unfold e_SleepWork_leave_46
      exact po_cond (fun _ => f69 (.inr ⟨p2.1, p2.2.1, p2.2.2.1, p2.2.2.2, two p2⟩)) (fun c => absurd c (by decide))
    · exact po_cond (fun c => absurd c (by decide)) (fun _ => po_some (none rfl rfl rfl rfl))
  refine po_cond (fun c => ?_) (fun c => ?_)
  · rw [i_ne, lm] at c
    exact f24 (fun h => c h.1)
  · rw [i_nne, lm] at c
    refine po_cond (fun c2 => ?_) (fun c2 => ?_)
    · rw [i_ne, lm] at c2
      exact f24 (fun h => c2 h.2)
    · rw [i_nne, lm] at c2
      unfold e_SleepWork_leave_25
      refine po_cond (fun _ => ?_) (fun c => absurd c (by decide))
      unfold e_SleepWork_leave_46
      exact po_cond (fun c => absurd c (by decide)) (fun _ => f69 (.inl ⟨c, c2, lm⟩))
theorem u_dLeave (S : SAm Fm Am) : po (d_leave Fm Am Jm x1 x2 x3) (fun r => r.2.1 = Fm ∧ ((r.1 = 0 ∧ r.2.2.1 = Am) ∨ (r.1 = 1 ∧ (∀ q, q ≠ 47 → r.2.2.1 q = Am q) ∧ ai r.2.2.1 47 (42 + x1.toInt) = x2.toInt ∧ ai r.2.2.1 47 (48 + x1.toInt) = x3.toInt ∧ ∀ q, 0 ≤ q → q ≠ 42 + x1.toInt → q ≠ 48 + x1.toInt → ai r.2.2.1 47 q = ai Am 47 q))) := by
  have l42 : (42 : Int32).toInt = 42 := by decide
  have l48 : (48 : Int32).toInt = 48 := by decide
  have c := S.cnt (j := 29) (by omega)
  unfold d_leave
  refine po_call (v_dMan S) ?_
  intro v b
  rcases b with ⟨rfl, p⟩ | ⟨rfl, p⟩
  · refine po_cond (fun c => absurd c (by decide)) (fun _ => ?_)
    refine po_bl (fun v3 _ => ?_)
    refine po_cond (fun _ => ?_) (fun _ => po_some ⟨rfl, .inl ⟨rfl, rfl⟩⟩)
    refine po_bl (fun A5 h5 => po_bl (fun A6 h6 => po_some ⟨rfl, .inr ⟨rfl, ?_⟩⟩))
    have U := (gg_st h5).2.2
    have V := (gg_st h6).2.2
    have e := i_72 (k := 42) (x := x1) (by decide) (by omega)
    have e2 := i_72 (k := 48) (x := x1) (by decide) (by omega)
    rw [l42] at e
    rw [l48] at e2
    rw [e] at U
    rw [e2] at V
    exact ⟨fun q hq => (V.1 q hq).trans (U.1 q hq), (V.2.2 _ (by omega) (by omega)).trans U.2.1, V.2.1, fun q q0 a b => (V.2.2 q q0 b).trans (U.2.2 q q0 a)⟩
  · exact po_cond (fun _ => po_some ⟨rfl, .inl ⟨rfl, rfl⟩⟩) (fun c => absurd c (by decide))
theorem p2_leaveX (X : XR P F A Fm Am) (G : Gc P F A) (S : SAm Fm Am) : P2 (e_SleepWork_leave P F A J x1 x2 x3) (d_leave Fm Am Jm x1 x2 x3) (fun a b => a.1 = b.1 ∧ XR a.2.1 a.2.2.1 a.2.2.2.1 b.2.1 b.2.2.1) := by
  intro a b ha hb
  have e1 : a.1 = b.1 := p2_leave G S X.1.1 a b ha hb
  have n17 := X.1.ct.2.2.2.2.2
  obtain ⟨v, ⟨p1, c⟩, q⟩ := u_cLeave X.1.ct.2.2.2.1.2 (fun t t0 => (X.1.s6 t0).2) a ha
  obtain ⟨d1, d⟩ := u_dLeave S b hb
  refine ⟨e1, ?_⟩
  rcases c with ⟨c0, cF, cA⟩ | ⟨c0, ci', cF, cA⟩
  · rcases d with ⟨d0, dA⟩ | ⟨d0, -⟩
    · rw [p1, cF, cA, d1, dA]
      exact X
    · rw [c0, d0] at e1
      exact absurd e1 (by decide)
  · rcases d with ⟨d0, dA⟩ | ⟨d0, m1, m2, m3, m4⟩
    · rw [c0, d0] at e1
      exact absurd e1 (by decide)
    · have fr := CH.fr cF cA
      rw [p1]
      refine X.now G fr.1 fr.2.1 d1 (fun q hq _ => m1 q hq) ?_
      refine X.2.2.1.1.left fr.2.2.1.1 fr.2.2.1.2 fr.2.2.2 (fun k k0 hk => cA.2.1 k k0 hk) cA.1 m4 m2 m3 ?_ ci'.1 ci'.2 n17
      rcases q c0 with ⟨a1, a2, a3⟩ | ⟨a1, a2, a3, a4, a5⟩
      · exact .inl ⟨a3, a1, a2⟩
      · exact .inr ⟨a1, a2, a3, a4, a5⟩
/-- the two scalars and the relation of what is kept, together -/
theorem p2_undoR (X : XR P F A Fm Am) (G : Gc P F A) (S : SAm Fm Am) : P2 (e_SleepWork_undo P F A J) (d_undo n Fm Am Jm) (fun a b => a.1 = b.1 ∧ XR a.2.1 a.2.2.1 a.2.2.2.1 b.2.1 b.2.2.1) := by
  intro a b ha hb
  have sc : a.1 = b.1 ∧ SCx a.2.2.1 b.2.1 b.2.2.1 := p2_undo G S ⟨X.1.1, X.2.1⟩ a b ha hb
  have yy : YS (SS (P 0 8) F A) a.2.2.1 a.2.2.2.1 b.2.1 b.2.2.1 := p2_undoX (SS.ok X.1.ct.2.2.2.2.2) G.1 (SCx.r74 S) X.2.1.2.1 X.2.2.1 a b ha hb
  obtain ⟨p, h2, h3, h32, h5, -⟩ := v_cUndo3 G.1 a ha
  obtain ⟨d1, d2⟩ := r_undo (SCx.r74 S) b hb
  have dA : ∀ q, q ≠ 47 → b.2.2.1 q = Am q := fun q hq => by
    rcases d2 with ⟨-, -, -, e⟩ | ⟨-, -, -, e⟩
    · rw [e]
    · exact e.1 q hq
  have n2 : P 0 8 ≠ 2 := G.n2
  have n4 : P 0 8 ≠ 4 := fun e => absurd G.k08 (by rw [e]; decide)
  have n32 : P 0 8 ≠ 32 := fun e => absurd G.k08 (by rw [e]; decide)
  have hF8 : ∀ k, a.2.2.1 (P 0 8) k = F (P 0 8) k := fun k => h2 _ k n2 n4 n32
  have hA8 : ∀ o, a.2.2.2.1 (P 0 8) o = A (P 0 8) o := fun o => h5 _ o n2
  refine ⟨sc.1, ?_⟩
  rw [p]
  refine ⟨X.1.fr hF8 (fun o _ => hA8 o) (d1 18 (by decide)) (fun q _ _ => dA q (by omega)), sc.2, yy.map (fun f a g s => s.hs (hF8 17) (hF8 16) (hA8 5)), X.2.2.2.1.cg hF8 (fun o _ => hA8 o) (h2 36 101 (by decide) (by decide) (by decide)) (h5 36 2 (by decide)), ?_⟩
  intro i i0 i1
  rw [h2 25 2 (by decide) (by decide) (by decide)] at i1
  rw [ci_fr (h5 25 1 (by decide)), ci_fr (h5 25 2 (by decide)), ai_fr (dA 58 (by decide)), ai_fr (dA 59 (by decide)), ai_fr (dA 60 (by decide))]
  exact X.2.2.2.2 i i0 i1
theorem p2_holdR (X : XR P F A Fm Am) (G : Gc P F A) (S : SAm Fm Am) : P2 (e_SleepWork_hold P F A J x1) (d_hold n Fm Am Jm x1) (fun a b => a.1 = b.1 ∧ XR a.2.1 a.2.2.1 a.2.2.2.1 b.2.1 b.2.2.1) := by
  intro a b ha hb
  have sc : a.1 = b.1 ∧ SCx a.2.2.1 b.2.1 b.2.2.1 := p2_hold G S ⟨X.1.1, X.2.1⟩ a b ha hb
  have yy : YS (SS (P 0 8) F A) a.2.2.1 a.2.2.2.1 b.2.1 b.2.2.1 := p2_holdX (SS.ok X.1.ct.2.2.2.2.2) X.2.2.1 a b ha hb
  obtain ⟨p, h1⟩ := v_cHold3 a ha
  obtain ⟨d1, d2⟩ := r_hold b hb
  have hh : (∀ q k, q < 29 ∨ 31 < q → ¬ (q = 0 ∧ k = 10) → a.2.2.1 q k = F q k) ∧ ∀ q o, q < 29 ∨ 31 < q → a.2.2.2.1 q o = A q o := by
    rcases h1 with ⟨-, ef, ea⟩ | ⟨z, hf, ha', -⟩
    · exact ⟨fun q k _ _ => by rw [ef], fun q o _ => by rw [ea]⟩
    · exact ⟨fun q k hq hk => hf q k (by omega) hk, fun q o hq => ha' q o (by omega)⟩
  have dA : ∀ q, q ≠ 61 → q ≠ 62 → b.2.2.1 q = Am q := fun q h6 h7 => by
    rcases d2 with ⟨-, e⟩ | ⟨-, A3, k1, -, e⟩
    · rw [e]
    · exact (e.1 q h7).trans (k1 q h6)
  have lv := G.live
  have hF8 : ∀ k, a.2.2.1 (P 0 8) k = F (P 0 8) k := fun k => hh.1 _ k (by omega) (by omega)
  have hA8 : ∀ o, a.2.2.2.1 (P 0 8) o = A (P 0 8) o := fun o => hh.2 _ o (by omega)
  refine ⟨sc.1, ?_⟩
  rw [p]
  refine ⟨X.1.fr hF8 (fun o _ => hA8 o) (by rw [d1]) (fun q _ _ => dA q (by omega) (by omega)), sc.2, yy.map (fun f a g s => s.hs (hF8 17) (hF8 16) (hA8 5)), X.2.2.2.1.cg hF8 (fun o _ => hA8 o) (hh.1 36 101 (by omega) (by omega)) (hh.2 36 2 (by omega)), ?_⟩
  intro i i0 i1
  rw [hh.1 25 2 (by omega) (by omega)] at i1
  rw [ci_fr (hh.2 25 1 (by omega)), ci_fr (hh.2 25 2 (by omega)), ai_fr (dA 58 (by decide) (by decide)), ai_fr (dA 59 (by decide) (by decide)), ai_fr (dA 60 (by decide) (by decide))]
  exact X.2.2.2.2 i i0 i1
theorem p2_restoreR (X : XR P F A Fm Am) (G : Gc P F A) (S : SAm Fm Am) : P2 (e_SleepWork_restore P F A J x1) (d_restore n Fm Am Jm x1) (fun a b => a.1 = b.1 ∧ XR a.2.1 a.2.2.1 a.2.2.2.1 b.2.1 b.2.2.1) := by
  intro a b ha hb
  have sc : a.1 = b.1 ∧ SCx a.2.2.1 b.2.1 b.2.2.1 := p2_restore G S ⟨X.1.1, X.2.1⟩ a b ha hb
  have yy : YS (SS (P 0 8) F A) a.2.2.1 a.2.2.2.1 b.2.1 b.2.2.1 := p2_restoreX (SS.ok X.1.ct.2.2.2.2.2) X.2.1.2.2 X.2.2.1 a b ha hb sc.1
  obtain ⟨p, h1⟩ := v_cRestore3 a ha
  have d2 := r_restore b hb
  have hh : (∀ q k, q ≠ 2 → ¬ (q = 4 ∧ k = 2) → ¬ (q = 32 ∧ k = 6) → a.2.2.1 q k = F q k) ∧ ∀ q o, q ≠ 2 → a.2.2.2.1 q o = A q o := by
    rcases h1 with ⟨-, ef, ea⟩ | ⟨-, -, -, hf, ha', -⟩
    · exact ⟨fun q k _ _ _ => by rw [ef], fun q o _ => by rw [ea]⟩
    · exact ⟨hf, ha'⟩
  have dA : (∀ q, q ≠ 47 → b.2.2.1 q = Am q) ∧ b.2.1 18 = Fm 18 := by
    rcases d2 with ⟨-, ef, e⟩ | ⟨-, -, -, ef, e⟩
    · exact ⟨fun q _ => by rw [e], by rw [ef]⟩
    · exact ⟨fun q h => e.1 q h, ef 18 (by decide)⟩
  have n2 : P 0 8 ≠ 2 := G.n2
  have n4 : P 0 8 ≠ 4 := fun e => absurd G.k08 (by rw [e]; decide)
  have n32 : P 0 8 ≠ 32 := fun e => absurd G.k08 (by rw [e]; decide)
  have hF8 : ∀ k, a.2.2.1 (P 0 8) k = F (P 0 8) k := fun k => hh.1 _ k n2 (fun e => n4 e.1) (fun e => n32 e.1)
  have hA8 : ∀ o, a.2.2.2.1 (P 0 8) o = A (P 0 8) o := fun o => hh.2 _ o n2
  refine ⟨sc.1, ?_⟩
  rw [p]
  refine ⟨X.1.fr hF8 (fun o _ => hA8 o) dA.2 (fun q _ _ => dA.1 q (by omega)), sc.2, yy.map (fun f a g s => s.hs (hF8 17) (hF8 16) (hA8 5)), X.2.2.2.1.cg hF8 (fun o _ => hA8 o) (hh.1 36 101 (by decide) (by decide) (by decide)) (hh.2 36 2 (by decide)), ?_⟩
  intro i i0 i1
  rw [hh.1 25 2 (by decide) (by decide) (by decide)] at i1
  rw [ci_fr (hh.2 25 1 (by decide)), ci_fr (hh.2 25 2 (by decide)), ai_fr (dA.1 58 (by decide)), ai_fr (dA.1 59 (by decide)), ai_fr (dA.1 60 (by decide))]
  exact X.2.2.2.2 i i0 i1
end H9fa
