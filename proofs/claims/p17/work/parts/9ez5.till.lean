/-! a night, on both sides: its minutes -/
section H9ez5
variable {h q : Nat} {k l k' l' N x E : Int} {ex : Prop} {P : Nat → Nat → Nat} {F F' : Nat → Nat → Int32} {A A' A1 : Nat → Nat → Nat → Int32} {J : Nat → Nat → Nat → Int64} {Fm Fm' : Nat → Int32} {Am Am' Am1 : Nat → Nat → Int32} {Jm : Nat → Nat → Int64} {x1 x4 x5 y1 y2 : Int32} {β γ δ : Type}
/-- the ways of a house with such doors shut, as a run of the class finds them -/
def wrun (n n' : Nat) (P : Nat → Nat → Nat) (F : Nat → Nat → Int32) (A : Nat → Nat → Nat → Int32) (J : Nat → Nat → Nat → Int64) (h : Nat) (sh : Int32) : Option (cR Unit) := (e_Ways_takeDoors n P F A J h sh).bind fun (_, P3, F4, A5, J6) => e_Ways_joinWays n' P3 F4 A5 J6 (F4 h 13)
/-- what such a run finds -/
def WDx (h : Nat) (F : Nat → Nat → Int32) (A : Nat → Nat → Nat → Int32) (sh : Int32) (D : Int → Int → Int) : Prop := ∀ (n n' : Nat) (P : Nat → Nat → Nat) (F' : Nat → Nat → Int32) (A' : Nat → Nat → Nat → Int32) (J : Nat → Nat → Nat → Int64), (∀ k, F' h k = F h k) → (∀ o, o ≠ 17 → A' h o = A h o) → po (wrun n n' P F' A' J h sh) (fun r => ∀ a b : Int, 0 ≤ a → a < (F h 13).toInt → 0 ≤ b → b < (F h 13).toInt → cx r.2.2.2.1 a b = D a b)
/-- what is kept of the ways is what such a run found -/
def WCx (h : Nat) (F : Nat → Nat → Int32) (A : Nat → Nat → Nat → Int32) : Prop := F 36 101 = -1 ∨ ∃ (n n' : Nat) (P : Nat → Nat → Nat) (F' : Nat → Nat → Int32) (A' : Nat → Nat → Nat → Int32) (J : Nat → Nat → Nat → Int64) (r : cR Unit), (∀ k, F' h k = F h k) ∧ (∀ o, o ≠ 17 → A' h o = A h o) ∧ wrun n n' P F' A' J h (F 36 101) = some r ∧ A 36 2 = r.2.2.2.1 36 2
theorem WDx.cg {D : Int → Int → Int} {sh : Int32} (W : WDx h F A sh D) (hF : ∀ k, F' h k = F h k) (hA : ∀ o, o ≠ 17 → A' h o = A h o) : WDx h F' A' sh D := by
  intro n n' P F1 A1 J f a
  have w := W n n' P F1 A1 J (fun k => (f k).trans (hF k)) (fun o ho => (a o ho).trans (hA o ho))
  rw [hF]
  exact w
theorem WCx.cg (W : WCx h F A) (hF : ∀ k, F' h k = F h k) (hA : ∀ o, o ≠ 17 → A' h o = A h o) (f : F' 36 101 = F 36 101) (a : A' 36 2 = A 36 2) : WCx h F' A' := by
  rcases W with w | ⟨n, n', P, F1, A1, J, r, w1, w2, w3, w4⟩
  · exact .inl (f.trans w)
  · exact .inr ⟨n, n', P, F1, A1, J, r, fun k => (w1 k).trans (hF k).symm, fun o ho => (w2 o ho).trans (hA o ho).symm, by rw [f]; exact w3, a.trans w4⟩
/-- the fewest minutes between two rooms -/
theorem v_between {n : Nat} {sh x3 x4 : Int32} {D : Int → Int → Int} (W : WCx h F A) (WD : WDx h F A sh D) (hs : sh ≠ -1) (h3 : 0 ≤ x3.toInt ∧ x3.toInt < (F h 13).toInt) (h4 : 0 ≤ x4.toInt ∧ x4.toInt < (F h 13).toInt) (h8 : (F h 13).toInt ≤ 8) (h36 : h ≠ 36) : po (e_Ways_between n P F A J h sh x3 x4) (fun r => r.1.toInt = D x3.toInt x4.toInt ∧ (r.2.1 = P ∧ (∀ r' k, ¬ (r' = 36 ∧ k = 101) → r.2.2.1 r' k = F r' k) ∧ ∀ r' o, ¬ (r' = 36 ∧ o = 2) → r.2.2.2.1 r' o = A r' o) ∧ WCx h r.2.2.1 r.2.2.2.1) := by
  unfold e_Ways_between
  refine po_cond (fun c => ?_) (fun c => ?_)
  · rw [i_eq] at c
    have c := i_ext c
    unfold e_Ways_between_27
    refine po_bl (fun v hv => po_some ⟨?_, ⟨rfl, fun _ _ _ => rfl, fun _ _ _ => rfl⟩, W⟩)
    have g := cx_ld hv h3.1 (by omega) h4.1 (by omega)
    rw [g]
    rcases W with w | ⟨n, n', P, F1, A1, J, r, w1, w2, w3, w4⟩
    · exact absurd (c.trans w) hs
    · rw [← c] at w3
      have := WD n n' P F1 A1 J w1 w2 r w3 x3.toInt x4.toInt h3.1 h3.2 h4.1 h4.2
      rw [← this]
      unfold cx
      rw [ci_fr w4]
  · refine po_bl (fun a ha => ?_)
    have wa := wf_e_Ways_takeDoors WFx.rfl' a ha
    obtain ⟨u, P3, F4, A5, J6⟩ := a
    obtain ⟨rfl, rfl, a5⟩ := wa
    dsimp only at a5 ⊢
    refine po_bl (fun b hb => ?_)
    have wb := wf_e_Ways_joinWays (P0 := P3) (F0 := F4) (A0 := A) ⟨rfl, rfl, a5⟩ b hb
    obtain ⟨u', P8, F9, A10, J11⟩ := b
    obtain ⟨rfl, rfl, a10⟩ := wb
    dsimp only at a10 ⊢
    refine po_bl (fun F12 h12 => po_bl (fun v hv => po_some ?_))
    have u := gg_cpf h12
    have run : wrun n n P8 F9 A J h sh = some (u', P8, F9, A10, J11) := by
      unfold wrun
      rw [ha]
      exact hb
    have g := cx_ld hv h3.1 (by omega) h4.1 (by omega)
    refine ⟨?_, ⟨rfl, u.2, a10⟩, .inr ⟨n, n, P8, F9, A, J, (u', P8, F9, A10, J11), fun k => (u.2 h k (fun e => h36 e.1)).symm, fun o ho => (a10 h o (fun e => h36 e.1)).symm, ?_, rfl⟩⟩
    · rw [g]
      exact WD n n P8 F9 A J (fun _ => rfl) (fun _ _ => rfl) _ run x3.toInt x4.toInt h3.1 h3.2 h4.1 h4.2
    · show wrun n n P8 F9 A J h (F12 36 101) = _
      rw [u.1]
      exact run
theorem p2_bcl {c : Bool} {o1 o2 : Option β} {g : β → Option γ} {z : Option δ} {Q : γ → δ → Prop} (h1 : c = true → P2 (o1.bind g) z Q) (h2 : c = false → P2 (o2.bind g) z Q) : P2 ((cond c o1 o2).bind g) z Q := by
  cases c with
  | true => exact h1 rfl
  | false => exact h2 rfl
theorem p2_conv {x y : Option γ} {z : Option δ} {Q : γ → δ → Prop} (e : y = x) (h : P2 x z Q) : P2 y z Q := by
  rw [e]
  exact h
/-- men below x are at (k', l'), the others at (k, l) -/
def NPx (N : Int) (h : Nat) (nm : Int) (A : Nat → Nat → Nat → Int32) (Am : Nat → Nat → Int32) (k l k' l' x : Int) : Prop := ∀ m, 0 ≤ m → m < nm → (m < x → MNx N h A Am k' l' m) ∧ (x ≤ m → MNx N h A Am k l m)
/-- the doors and the nights gone are alike on both sides -/
def SHx (ex : Prop) (q : Nat) (F : Nat → Nat → Int32) (Am : Nat → Nat → Int32) : Prop := ex → (F q 7).toInt = ai Am 48 78 ∧ (F q 8).toInt = ai Am 48 79
theorem SHx.cg (S : SHx ex q F Am) (h7 : F' q 7 = F q 7) (h8 : F' q 8 = F q 8) (m78 : ai Am' 48 78 = ai Am 48 78) (m79 : ai Am' 48 79 = ai Am 48 79) : SHx ex q F' Am' := by
  unfold SHx
  rw [h7, h8, m78, m79]
  exact S
/-- the night on both sides -/
def NBx (ex : Prop) (h q : Nat) (N : Int) (F : Nat → Nat → Int32) (A : Nat → Nat → Nat → Int32) (Fm : Nat → Int32) (Am : Nat → Nat → Int32) (k l k' l' x : Int) : Prop := NHx h F A Fm Am ∧ SBx ex h q F A Am 48 0 ∧ CVx h q (F h 17).toInt A ∧ (WCx h F A ∧ SHx ex q F Am) ∧ NPx N h (F h 17).toInt A Am k l k' l' x
theorem NHx.fb (H : NHx h F A Fm Am) (hq : c_kind q = 2) (f : FBx h q x A A') (g : FBm x Fm Fm' Am Am') : NHx h F A' Fm' Am' :=
  H.fr (fun _ => rfl) (fun o ho => f.1 h o (fun e => k6ne H.kd e.1) (fun e => k62 H.kd hq e.1) (fun e => ho e.2)) (g.1 18 (by decide)) (fun j j8 j44 => g.2.1 j (fun hj => by
    have : ∀ j, j ∈ ([45, 46, 48, 50, 52, 53, 56] : List Nat) → 44 < j := by decide
    have := this j hj
    omega))
theorem MNx.fb {m : Int} (M : MNx N h A Am k l m) (hk : c_kind h = 6) (hq : c_kind q = 2) (f : FBx h q x A A') (g : FBm x Fm Fm' Am Am') (m0 : 0 ≤ m) (m6 : m < 6) (hm : m ≠ x) : MNx N h A' Am' k l m := by
  refine M.cg (f.1 h 5 (fun e => k6ne hk e.1) (fun e => k62 hk hq e.1) (fun e => absurd e.2 (by decide))) (f.2 3 (by simp) m m0 hm) (f.2 4 (by simp) m m0 hm) ?_ ?_ (f.2 7 (by simp) m m0 hm) (fun j j0 j1 => ?_) (g.2.2.2 (42 + m) (by omega) (by omega))
  · rw [ci_fr (f.1 36 5 (fun e => absurd e.2 (by decide)) (fun e => k2ne hq e.1.symm) (fun e => absurd e.2 (by decide)))]
  · rw [ci_fr (f.1 36 6 (fun e => absurd e.2 (by decide)) (fun e => k2ne hq e.1.symm) (fun e => absurd e.2 (by decide)))]
  · by_cases e : j = 50 ∨ j = 52 ∨ j = 53 ∨ j = 56
    · exact g.2.2.1 j e m m0 hm
    · have : j = 51 ∨ j = 54 ∨ j = 55 := by omega
      rcases this with rfl | rfl | rfl
      · rw [ai_fr (g.2.1 51 (by decide))]
      · rw [ai_fr (g.2.1 54 (by decide))]
      · rw [ai_fr (g.2.1 55 (by decide))]
theorem MNx.next {m : Int} (M : MNx N h A Am k (k + 1) m) (hd : ci A 36 3 m ≠ k) : MNx N h A Am (k + 1) (k + 1) m := by
  obtain ⟨a, b, M⟩ := M
  refine ⟨a, b, ?_⟩
  rcases M with M | ⟨m1, m2, m3, m4, M⟩
  · exact .inl M
  · refine .inr ⟨m1, m2, m3, m4, ?_⟩
    rcases M with ⟨c1, c2, c3, c4⟩ | M | M
    · refine .inl ⟨c1, c2, c3, .inr ?_⟩
      omega
    · exact .inr (.inl M)
    · exact .inr (.inr M)
theorem MNx.nof {m : Int} (M : MNx N h A Am k k m) (hd : ci A 36 3 m ≠ k ∨ ci A 36 4 m < 0) : MNx N h A Am k (k + 1) m := by
  obtain ⟨a, b, M⟩ := M
  refine ⟨a, b, ?_⟩
  rcases M with M | ⟨m1, m2, m3, m4, M⟩
  · exact .inl M
  · refine .inr ⟨m1, m2, m3, m4, ?_⟩
    rcases M with M | ⟨c1, c2, c3, c4, c5, c6, c7, c8⟩ | M
    · exact .inl M
    · exact .inr (.inl ⟨c1, c2, c3, c4, c5, c6, by omega, c8⟩)
    · exact .inr (.inr M)
/-- who begins at minute k -/
theorem MNx.due {m : Int} (M : MNx N h A Am k (k + 1) m) (kN : k < N) : ci A 36 3 m = k ↔ (ai Am 50 m = 1 ∧ ai Am 51 m ≤ k) := by
  obtain ⟨a, b, M⟩ := M
  rcases M with ⟨m1, m2, m3, m4, m5, m6⟩ | ⟨m1, m2, m3, m4, M⟩
  · omega
  · rcases M with ⟨c1, c2, c3, c4⟩ | ⟨c1, c2, c3, c4, c5, c6, c7, c8⟩ | ⟨c1, c2, c3⟩
    · omega
    · omega
    · omega
/-- whose step is over at minute k -/
theorem MNx.over {m : Int} (M : MNx N h A Am k k m) : (ci A 36 3 m = k ∧ 0 ≤ ci A 36 4 m) ↔ (ai Am 50 m = 2 ∧ ai Am 52 m = k) := by
  obtain ⟨a, b, M⟩ := M
  rcases M with ⟨m1, m2, m3, m4, m5, m6⟩ | ⟨m1, m2, m3, m4, M⟩
  · omega
  · rcases M with ⟨c1, c2, c3, c4⟩ | ⟨c1, c2, c3, c4, c5, c6, c7, c8⟩ | ⟨c1, c2, c3⟩
    · omega
    · omega
    · omega
/-- all begin, man by man -/
theorem p2_52 {K31 : (Nat → Nat → Nat) → (Nat → Nat → Int32) → (Nat → Nat → Nat → Int32) → (Nat → Nat → Nat → Int64) → Int32 → Int32 → Int32 → Option (cR Unit)} {K27 : (Nat → Int32) → (Nat → Nat → Int32) → (Nat → Nat → Int64) → Int32 → Int32 → Option (mR Unit)} {Q : cR Unit → mR Unit → Prop} (hq : c_kind q = 2) (e8 : P 36 8 = h) (e9 : P 36 9 = q) (k0 : 0 ≤ k) (kE : k < E) (EN : E ≤ N) (hN : N ≤ 600) (eN : N = (F h 18).toInt) (ex1 : x1.toInt = E) (ex4 : x4.toInt = k) (ey2 : y2.toInt = k)
    (kk : ∀ {n m : Nat} {A : Nat → Nat → Nat → Int32} {J : Nat → Nat → Nat → Int64} {Fm : Nat → Int32} {Am : Nat → Nat → Int32} {Jm : Nat → Nat → Int64}, NBx ex h q N F A Fm Am (k + 1) (k + 1) (k + 1) (k + 1) 0 → P2 (e_Sleep_goTill_96 K31 n P F A J x1 x4 x5) (d_goesTill_128 K27 m Fm Am Jm y1 y2) Q) : ∀ {n m : Nat} {A : Nat → Nat → Nat → Int32} {J : Nat → Nat → Nat → Int64} {Fm : Nat → Int32} {Am : Nat → Nat → Int32} {Jm : Nat → Nat → Int64} {x6 y3 : Int32}, NBx ex h q N F A Fm Am k (k + 1) (k + 1) (k + 1) x6.toInt → x6.toInt = y3.toInt → 0 ≤ x6.toInt → P2 (e_Sleep_goTill_52 K31 n P F A J x1 x4 x5 x6) (d_goesTill_75 K27 m Fm Am Jm y1 y2 y3) Q := by
  intro n
  induction n with
  | zero => intro m A J Fm Am Jm x6 y3 _ _ _ a b ha; cases ha
  | succ n ih =>
    intro m A J Fm Am Jm x6 y3 B exy x0
    obtain ⟨H, S, C, W, NP⟩ := B
    have ct := H.ct
    have hm := H.men
    have hn := H.nn
    cases m with
    | zero => intro a b _ hb; cases hb
    | succ m =>
      unfold e_Sleep_goTill_52 d_goesTill_75
      refine p2_bl (fun _ hk => ?_)
      obtain rfl := (gg_chk hk).2.symm
      try rw [e8]
      refine p2_r v_menNow ?_
      intro v22 e22
      refine p2_cl (fun c => ?_) (fun c => ?_)
      · rw [i_ge] at c
        refine p2_cr (fun _ => kk ⟨H, S, C, W, fun m m0 m1 => ⟨fun h => by omega, fun _ => (NP m m0 m1).1 (by omega)⟩⟩) (fun c2 => ?_)
        rw [i_nge] at c2
        omega
      · rw [i_nge] at c
        refine p2_cr (fun c2 => ?_) (fun _ => ?_)
        · rw [i_ge] at c2
          omega
        refine p2_cl (fun c2 => ?_) (fun _ => ?_)
        · rw [i_ge] at c2
          omega
        refine p2_br (fun v24 h24 => ?_)
        have g24 := (gm h24).2.2
        refine p2_cr (fun c2 => ?_) (fun _ => ?_)
        · rw [i_ge] at c2
          omega
        refine p2_bl (fun v29 h29 => p2_br (fun v26 h26 => ?_))
        have g29 := (gl h29).2.2
        have g26 := (gm h26).2.2
        rw [← exy] at g26
        have M := (NP x6.toInt x0 c).2 (Int.le_refl _)
        have du := M.due (by omega)
        have e61 := i_p1 (x := x6) (by omega)
        have e31 := i_p1 (x := y3) (by omega)
        -- nobody begins
        have skip : ci A 36 3 x6.toInt ≠ k → P2 (e_Sleep_goTill_90 K31 (e_Sleep_goTill_52 K31 n) n P F A J x1 x4 x5 x6) (d_goesTill_122 K27 (d_goesTill_75 K27 m) m Fm Am Jm y1 y2 y3) Q := fun hne => by
          unfold e_Sleep_goTill_90 d_goesTill_122
          refine ih ⟨H, S, C, W, fun m m0 m1 => ⟨fun h => ?_, fun h => (NP m m0 m1).2 (by omega)⟩⟩ (by omega) (by omega)
          by_cases e : m = x6.toInt
          · rw [e]
            exact M.next hne
          · exact (NP m m0 m1).1 (by omega)
        by_cases hd : ci A 36 3 x6.toInt = k
        · obtain ⟨h50, h51⟩ := du.mp hd
          refine p2_cl (fun c3 => ?_) (fun _ => ?_)
          · rw [i_ne] at c3
            omega
          refine p2_cr (fun c3 => ?_) (fun _ => ?_)
          · rw [i_ne, i_1] at c3
            omega
          refine p2_br (fun v28 h28 => ?_)
          have g28 := (gm h28).2.2
          rw [← exy] at g28
          refine p2_cr (fun c3 => ?_) (fun _ => ?_)
          · rw [i_gt] at c3
            omega
          refine p2_call (p2_begin (n := n) (m := m) (J := J) (Jm := Jm) H hq e8 e9 S C (fun m m0 m1 => ?_) M x0 c h50 h51 k0 (by omega) hN rfl exy.symm ex4 ey2) ?_
          · by_cases e : m < x6.toInt
            · exact ⟨_, (NP m m0 m1).1 e⟩
            · exact ⟨_, (NP m m0 m1).2 (by omega)⟩
          rintro ⟨_, P32, F33, A34, J35⟩ ⟨_, F31, A32, J33⟩ ⟨⟨eP, eF⟩, f, g, S', C', M'⟩
          dsimp only at eP eF f g S' C' M' ⊢
          rw [eP, eF]
          have H' := H.fb hq f g
          refine ih ⟨H', S', C', ⟨W.1.cg (fun _ => rfl) (fun o ho => f.1 h o (fun e => k6ne H.kd e.1) (fun e => k62 H.kd hq e.1) (fun e => ho e.2)) rfl (f.1 36 2 (fun e => absurd e.2 (by decide)) (fun e => k2ne hq e.1.symm) (fun e => absurd e.2 (by decide))), W.2.cg rfl rfl (g.2.2.2 78 (by decide) (.inr (by decide))) (g.2.2.2 79 (by decide) (.inr (by decide)))⟩, fun m m0 m1 => ⟨fun h => ?_, fun h => ?_⟩⟩ (by omega) (by omega)
          · by_cases e : m = x6.toInt
            · rw [e]
              exact M'
            · exact ((NP m m0 m1).1 (by omega)).fb H.kd hq f g m0 (by omega) e
          · exact ((NP m m0 m1).2 (by omega)).fb H.kd hq f g m0 (by omega) (by omega)
        · refine p2_cl (fun _ => ?_) (fun c3 => ?_)
          · refine p2_cr (fun _ => skip hd) (fun c4 => ?_)
            rw [i_nne, i_1] at c4
            refine p2_br (fun v28 h28 => ?_)
            have g28 := (gm h28).2.2
            rw [← exy] at g28
            refine p2_cr (fun _ => skip hd) (fun c5 => ?_)
            rw [i_ngt] at c5
            exact absurd (du.mpr ⟨by omega, by omega⟩) hd
          · rw [i_nne] at c3
            omega
end H9ez5
