/-! tell, forget and work, on both sides -/
section H9fb
variable {n : Nat} {h : Nat} {P P' : Nat → Nat → Nat} {F F' : Nat → Nat → Int32} {A A' : Nat → Nat → Nat → Int32} {J : Nat → Nat → Nat → Int64} {Fm Fm' : Nat → Int32} {Am Am' : Nat → Nat → Int32} {Jm : Nat → Nat → Int64} {x1 x2 x3 : Int32}
theorem XR.told (X : XR P F A Fm Am) (G : Gc P F A) (hF : ∀ r k, ¬ (r = 25 ∧ k = 2) → ¬ (r = 32 ∧ k = 6) → F' r k = F r k) (hA : ∀ r o, ¬ (r = 25 ∧ (o = 1 ∨ o = 2)) → A' r o = A r o) (e : ∀ q, q ≠ 77 → Fm' q = Fm q) (m : ∀ q, q ≠ 58 → q ≠ 59 → q ≠ 60 → Am' q = Am q) (sc : SCx F' Fm' Am') (T : TLx F' A' Am') : XR P F' A' Fm' Am' := by
  obtain ⟨N, C, Y, W, -⟩ := X
  have n25 : P 0 8 ≠ 25 := fun e => absurd G.k08 (by rw [e]; decide)
  have n32 : P 0 8 ≠ 32 := fun e => absurd G.k08 (by rw [e]; decide)
  have hF8 : ∀ k, F' (P 0 8) k = F (P 0 8) k := fun k => hF _ k (fun e => n25 e.1) (fun e => n32 e.1)
  have hA8 : ∀ o, A' (P 0 8) o = A (P 0 8) o := fun o => hA _ o (fun e => n25 e.1)
  have hS : SOK (SS (P 0 8) F A) := SS.ok N.ct.2.2.2.2.2
  have sr : ∀ r : Nat, r ≠ 25 → r ≠ 32 → SE (F r) (F' r) (A r) (A' r) := fun r h1 h2 => .of (fun k => hF r k (fun e => h1 e.1) (fun e => h2 e.1)) (fun o => hA r o (fun e => h1 e.1))
  have Y' : YS (SS (P 0 8) F A) F' A' Fm' Am' := by
    refine ⟨Y.1.cg hS (sr 2 (by decide) (by decide)) (fun i _ _ => by unfold ai; rw [m 47 (by decide) (by decide) (by decide)]), ?_, Y.2.2.cg hS (fun r r0 r1 => sr r (by omega) (by omega)) (m 61 (by decide) (by decide) (by decide)) (m 62 (by decide) (by decide) (by decide))⟩
    rw [e 74 (by decide)]
    exact Y.2.1.cg hS (by rw [hF 4 1 (by decide) (by decide)]) (fun r r0 r1 => sr r (by omega) (by omega)) (m 57 (by decide) (by decide) (by decide))
  exact ⟨N.fr hF8 (fun o _ => hA8 o) (e 18 (by decide)) (fun q a b => m q (by omega) (by omega) (by omega)), sc, Y'.map (fun f a g s => s.hs (hF8 17) (hF8 16) (hA8 5)), W.cg hF8 (fun o _ => hA8 o) (hF 36 101 (by decide) (by decide)) (hA 36 2 (by decide)), T⟩
theorem u_cForget : po (e_SleepWork_forget P F A J) (fun r => r.2.1 = P ∧ (∀ q k, ¬ (q = 25 ∧ k = 2) → ¬ (q = 32 ∧ k = 6) → r.2.2.1 q k = F q k) ∧ r.2.2.1 25 2 = 0 ∧ r.2.2.2.1 = A) := by
  unfold e_SleepWork_forget
  refine po_bl (fun F1 h1 => ?_)
  have u := gg_cpf h1
  refine po_call w_stale ?_
  rintro ⟨_, P3, F4, A5, J6⟩ ⟨w1, w2, w3⟩
  dsimp only at w1 w2 w3 ⊢
  exact po_some ⟨w1, fun q k a b => (w2.2 q k b).trans (u.2 q k a), (w2.2 25 2 (by decide)).trans u.1, w3⟩
theorem u_dForget : po (d_forget Fm Am Jm) (fun r => (∀ q, q ≠ 77 → r.2.1 q = Fm q) ∧ r.2.2.1 = Am) := by
  unfold d_forget
  exact po_bl (fun F1 h1 => po_some ⟨(gg_pf h1).2, rfl⟩)
theorem p2_forgetR (X : XR P F A Fm Am) (G : Gc P F A) (S : SAm Fm Am) : P2 (e_SleepWork_forget P F A J) (d_forget Fm Am Jm) (fun a b => a.1 = b.1 ∧ XR a.2.1 a.2.2.1 a.2.2.2.1 b.2.1 b.2.2.1) := by
  intro a b ha hb
  have sc : a.1 = b.1 ∧ SCx a.2.2.1 b.2.1 b.2.2.1 := p2_forget G S ⟨X.1.1, X.2.1⟩ a b ha hb
  obtain ⟨p, hF, h25, hA⟩ := u_cForget a ha
  obtain ⟨e, m⟩ := u_dForget b hb
  refine ⟨sc.1, ?_⟩
  rw [p]
  refine X.told G hF (fun r o _ => by rw [hA]) e (fun q _ _ _ => by rw [m]) sc.2 (fun k k0 k1 => ?_)
  rw [h25, i_0] at k1
  exact absurd k1 (by omega)
/-- what is told, put behind the rest -/
theorem u_cTell : po (e_SleepWork_tell P F A J x1 x2 x3) (fun r => r.2.1 = P ∧ ((r.2.2.1 = F ∧ r.2.2.2.1 = A) ∨ ((0 ≤ x1.toInt ∧ x1.toInt < (F (P 0 8) 16).toInt ∧ 0 ≤ x2.toInt ∧ x2.toInt < ci A (P 0 8) 5 x1.toInt) ∧ r.2.2.1 25 2 = F 25 2 + 1 ∧ (∀ q k, ¬ (q = 25 ∧ k = 2) → r.2.2.1 q k = F q k) ∧ (∀ q o, ¬ (q = 25 ∧ (o = 1 ∨ o = 2)) → r.2.2.2.1 q o = A q o) ∧ ci r.2.2.2.1 25 1 (F 25 2).toInt = (x1 * 6 + x2).toInt ∧ ci r.2.2.2.1 25 2 (F 25 2).toInt = x3.toInt ∧ ∀ k : Int, 0 ≤ k → k ≠ (F 25 2).toInt → ci r.2.2.2.1 25 1 k = ci A 25 1 k ∧ ci r.2.2.2.1 25 2 k = ci A 25 2 k))) := by
  unfold e_SleepWork_tell
  refine po_bl (fun _ h => ?_)
  obtain ⟨-, rfl⟩ := gg_chk h
  refine po_call v_cStep ?_
  intro v b
  rcases b with ⟨rfl, p⟩ | ⟨rfl, p⟩
  · refine po_cond (fun c => absurd c (by decide)) (fun _ => ?_)
    refine po_cond (fun c => po_some ⟨rfl, .inl ⟨rfl, rfl⟩⟩) (fun c3 => ?_)
    refine po_cond (fun c => po_some ⟨rfl, .inl ⟨rfl, rfl⟩⟩) (fun c4 => ?_)
    refine po_bl (fun v6 _ => ?_)
    refine po_cond (fun _ => ?_) (fun _ => po_some ⟨rfl, .inl ⟨rfl, rfl⟩⟩)
    unfold e_Told_add
    refine po_call (R := fun (r : cR Int32) => r.2.1 = P ∧ r.2.2.1 25 2 = F 25 2 + 1 ∧ (∀ q k, ¬ (q = 25 ∧ k = 2) → r.2.2.1 q k = F q k) ∧ (∀ q o, ¬ (q = 25 ∧ (o = 1 ∨ o = 2)) → r.2.2.2.1 q o = A q o) ∧ ci r.2.2.2.1 25 1 (F 25 2).toInt = (x1 * 6 + x2).toInt ∧ ci r.2.2.2.1 25 2 (F 25 2).toInt = x3.toInt ∧ ∀ k : Int, 0 ≤ k → k ≠ (F 25 2).toInt → ci r.2.2.2.1 25 1 k = ci A 25 1 k ∧ ci r.2.2.2.1 25 2 k = ci A 25 2 k) ?_ ?_
    · refine po_bl (fun A1 h1 => po_bl (fun A2 h2 => po_bl (fun F3 h3 => po_some ?_)))
      have U1 := (gg_cst h1).2.2
      have U2 := (gg_cst h2).2.2
      have u := gg_cpf h3
      have e1 : A2 25 1 = A1 25 1 := U2.2.2 25 1 (by decide)
      have e2 : A1 25 2 = A 25 2 := U1.2.2 25 2 (by decide)
      refine ⟨rfl, u.1, u.2, fun q o hn => (U2.2.2 q o (fun e => hn ⟨e.1, .inr e.2⟩)).trans (U1.2.2 q o (fun e => hn ⟨e.1, .inl e.2⟩)), ?_, U2.1, fun k k0 hk => ⟨?_, ?_⟩⟩
      · show ci A2 25 1 _ = _
        rw [ci_fr e1]
        exact U1.1
      · show ci A2 25 1 k = _
        rw [ci_fr e1]
        exact U1.2.1 k k0 hk
      · show ci A2 25 2 k = _
        rw [U2.2.1 k k0 hk, ci_fr e2]
    rintro ⟨v8, P9, F10, A11, J12⟩ ⟨a0, a1, a2, a3, a4, a5, a6⟩
    exact po_some ⟨a0, .inr ⟨p, a1, a2, a3, a4, a5, a6⟩⟩
  · exact po_cond (fun _ => po_some ⟨rfl, .inl ⟨rfl, rfl⟩⟩) (fun c => absurd c (by decide))
theorem u_dTell : po (d_tell3 Fm Am Jm x1 x2 x3) (fun r => (r.2.1 = Fm ∧ r.2.2.1 = Am) ∨ (r.2.1 77 = Fm 77 + 1 ∧ (∀ q, q ≠ 77 → r.2.1 q = Fm q) ∧ (∀ q, q ≠ 58 → q ≠ 59 → q ≠ 60 → r.2.2.1 q = Am q) ∧ ai r.2.2.1 58 (Fm 77).toInt = x1.toInt ∧ ai r.2.2.1 59 (Fm 77).toInt = x2.toInt ∧ ai r.2.2.1 60 (Fm 77).toInt = x3.toInt ∧ ∀ k : Int, 0 ≤ k → k ≠ (Fm 77).toInt → ai r.2.2.1 58 k = ai Am 58 k ∧ ai r.2.2.1 59 k = ai Am 59 k ∧ ai r.2.2.1 60 k = ai Am 60 k)) := by
  unfold d_tell3
  refine po_cond (fun _ => po_some (.inl ⟨rfl, rfl⟩)) (fun _ => ?_)
  refine po_bl (fun v2 _ => ?_)
  refine po_cond (fun _ => po_some (.inl ⟨rfl, rfl⟩)) (fun _ => ?_)
  refine po_bl (fun v4 _ => ?_)
  refine po_cond (fun _ => ?_) (fun _ => po_some (.inl ⟨rfl, rfl⟩))
  refine po_bl (fun A6 h6 => po_bl (fun A7 h7 => po_bl (fun A8 h8 => po_bl (fun F9 h9 => po_some (.inr ?_)))))
  have U6 := (gg_st h6).2.2
  have U7 := (gg_st h7).2.2
  have U8 := (gg_st h8).2.2
  have u := gg_pf h9
  have e58 : A8 58 = A6 58 := (U8.1 58 (by decide)).trans (U7.1 58 (by decide))
  have e59 : A8 59 = A7 59 := U8.1 59 (by decide)
  have f59 : A6 59 = Am 59 := U6.1 59 (by decide)
  have f60 : A7 60 = Am 60 := (U7.1 60 (by decide)).trans (U6.1 60 (by decide))
  refine ⟨u.1, u.2, fun q a b c => (U8.1 q c).trans ((U7.1 q b).trans (U6.1 q a)), ?_, ?_, U8.2.1, fun k k0 hk => ⟨?_, ?_, ?_⟩⟩
  · show ai A8 58 _ = _
    rw [ai_fr e58]
    exact U6.2.1
  · show ai A8 59 _ = _
    rw [ai_fr e59]
    exact U7.2.1
  · show ai A8 58 k = _
    rw [ai_fr e58]
    exact U6.2.2 k k0 hk
  · show ai A8 59 k = _
    rw [ai_fr e59, U7.2.2 k k0 hk, ai_fr f59]
  · show ai A8 60 k = _
    rw [U8.2.2 k k0 hk, ai_fr f60]
theorem p2_tellR (X : XR P F A Fm Am) (G : Gc P F A) (S : SAm Fm Am) : P2 (e_SleepWork_tell P F A J x1 x2 x3) (d_tell3 Fm Am Jm x1 x2 x3) (fun a b => a.1 = b.1 ∧ XR a.2.1 a.2.2.1 a.2.2.2.1 b.2.1 b.2.2.1) := by
  intro a b ha hb
  have sc : a.1 = b.1 ∧ SCx a.2.2.1 b.2.1 b.2.2.1 := p2_tell G S ⟨X.1.1, X.2.1⟩ a b ha hb
  obtain ⟨p, c⟩ := u_cTell a ha
  have d := u_dTell b hb
  have r77 : 0 ≤ (Fm 77).toInt ∧ (Fm 77).toInt ≤ 30 := S.1 77
  have e77 : F 25 2 = Fm 77 := X.2.1.1
  have s77 := sc.2.1
  have e1 := i_p1 (x := Fm 77) (by omega)
  refine ⟨sc.1, ?_⟩
  rw [p]
  rcases c with ⟨cF, cA⟩ | ⟨st, c1, c2, c3, c4, c5, c6⟩
  · rcases d with ⟨dF, dA⟩ | ⟨d1, -⟩
    · rw [cF, cA, dF, dA]
      exact X
    · rw [cF, d1, e77] at s77
      exact absurd (congrArg Int32.toInt s77) (by omega)
  · rcases d with ⟨dF, dA⟩ | ⟨d1, d2, d3, d4, d5, d6, d7⟩
    · rw [c1, dF, e77] at s77
      exact absurd (congrArg Int32.toInt s77) (by omega)
    · refine X.told G (fun r k h _ => c2 r k h) c3 d2 d3 sc.2 (fun k k0 k1 => ?_)
      rw [c1, e77, e1] at k1
      rw [e77] at c4 c5 c6
      by_cases hk : k = (Fm 77).toInt
      · rw [hk, c4, c5, d4, d5, d6]
        have s6 := (X.1.s6 st.1).2
        have n16 := X.1.ct.2.2.2.1.2
        have mm := i_mulR (c := 6) (k := 6) (x := x1) (by decide) (by omega) (by omega)
        rw [i_add (by rw [mm]; omega) (by rw [mm]; omega), mm]
        exact ⟨by omega, rfl⟩
      · rw [(c6 k k0 hk).1, (c6 k k0 hk).2, (d7 k k0 hk).1, (d7 k k0 hk).2.1, (d7 k k0 hk).2.2]
        exact X.2.2.2.2 k k0 (by rw [e77]; omega)
end H9fb
