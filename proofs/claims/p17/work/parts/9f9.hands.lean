/-! the hands' calls, on both sides -/
section H9f9
variable {n : Nat} {h : Nat} {P P' : Nat → Nat → Nat} {F F' : Nat → Nat → Int32} {A A' : Nat → Nat → Nat → Int32} {J : Nat → Nat → Nat → Int64} {Fm Fm' : Nat → Int32} {Am Am' : Nat → Nat → Int32} {Jm : Nat → Nat → Int64} {x1 x2 x3 : Int32} {f f' : Nat → Int32} {a a' : Nat → Nat → Int32} {g g' : Int → Int} {i v t u : Int}
/-- one cell of the evening of now is written -/
def CH (P : Nat → Nat → Nat) (F : Nat → Nat → Int32) (A : Nat → Nat → Nat → Int32) (o : Nat) (i v : Int) (r : cR Int32) : Prop := r.2.1 = P ∧ ((r.1 = 0 ∧ r.2.2.1 = F ∧ r.2.2.2.1 = A) ∨ (r.1 = 1 ∧ (0 ≤ i ∧ i < 6) ∧ FUm F r.2.2.1 32 6 (-1) ∧ CUm A r.2.2.2.1 2 o i v))
def DH (Fm : Nat → Int32) (Am : Nat → Nat → Int32) (i v : Int) (r : mR Int32) : Prop := r.2.1 = Fm ∧ ((r.1 = 0 ∧ r.2.2.1 = Am) ∨ (r.1 = 1 ∧ (∀ q, q ≠ 47 → r.2.2.1 q = Am q) ∧ ai r.2.2.1 47 i = v ∧ ∀ q, 0 ≤ q → q ≠ i → ai r.2.2.1 47 q = ai Am 47 q))
theorem u_cLay : po (e_SleepWork_lay P F A J x1 x2) (CH P F A 4 x1.toInt x2.toInt) := by
  unfold e_SleepWork_lay
  refine po_bl (fun v1 _ => ?_)
  refine po_cond (fun _ => po_some ⟨rfl, .inl ⟨rfl, rfl, rfl⟩⟩) (fun _ => ?_)
  refine po_bl (fun v3 _ => ?_)
  refine po_cond (fun _ => ?_) (fun _ => po_some ⟨rfl, .inl ⟨rfl, rfl, rfl⟩⟩)
  refine po_bl (fun A5 h5 => ?_)
  have U := gg_cst h5
  refine po_call w_stale ?_
  rintro ⟨u, P7, F8, A9, J10⟩ ⟨w1, w2, w3⟩
  dsimp only at w1 w2 w3 ⊢
  rw [w1, w3]
  exact po_some ⟨rfl, .inr ⟨rfl, ⟨U.1, U.2.1⟩, w2, U.2.2⟩⟩
theorem u_cGive : po (e_SleepWork_give P F A J x1 x2) (CH P F A 4 x1.toInt (100 + x2).toInt) := by
  unfold e_SleepWork_give
  refine po_bl (fun v1 _ => ?_)
  refine po_cond (fun _ => po_some ⟨rfl, .inl ⟨rfl, rfl, rfl⟩⟩) (fun _ => ?_)
  refine po_bl (fun v3 _ => ?_)
  refine po_cond (fun _ => ?_) (fun _ => po_some ⟨rfl, .inl ⟨rfl, rfl, rfl⟩⟩)
  refine po_bl (fun A5 h5 => ?_)
  have U := gg_cst h5
  refine po_call w_stale ?_
  rintro ⟨u, P7, F8, A9, J10⟩ ⟨w1, w2, w3⟩
  dsimp only at w1 w2 w3 ⊢
  rw [w1, w3]
  exact po_some ⟨rfl, .inr ⟨rfl, ⟨U.1, U.2.1⟩, w2, U.2.2⟩⟩
theorem i_72 {k x : Int32} (hk : 0 ≤ k.toInt ∧ k.toInt ≤ 100) (hx : 0 ≤ x.toInt ∧ x.toInt ≤ 12) : (k + x).toInt = k.toInt + x.toInt := i_add (by omega) (by omega)
theorem u_dLay (S : SAm Fm Am) : po (d_lay Fm Am Jm x1 x2) (DH Fm Am (72 + x1.toInt) x2.toInt) := by
  have l72 : (72 : Int32).toInt = 72 := by decide
  have c := S.cnt (j := 17) (by omega)
  unfold d_lay
  refine po_call (v_dTool S) ?_
  intro v b
  rcases b with ⟨rfl, p⟩ | ⟨rfl, p⟩
  · refine po_cond (fun c => absurd c (by decide)) (fun _ => ?_)
    refine po_bl (fun v3 _ => ?_)
    refine po_cond (fun _ => ?_) (fun _ => po_some ⟨rfl, .inl ⟨rfl, rfl⟩⟩)
    refine po_bl (fun A5 h5 => po_some ⟨rfl, .inr ⟨rfl, ?_⟩⟩)
    have U := (gg_st h5).2.2
    have e := i_72 (k := 72) (x := x1) (by decide) (by omega)
    rw [l72] at e
    rw [e] at U
    exact ⟨U.1, U.2.1, U.2.2⟩
  · exact po_cond (fun _ => po_some ⟨rfl, .inl ⟨rfl, rfl⟩⟩) (fun c => absurd c (by decide))
theorem u_dGive (S : SAm Fm Am) : po (d_give Fm Am Jm x1 x2) (DH Fm Am (72 + x1.toInt) (100 + x2).toInt) := by
  have l72 : (72 : Int32).toInt = 72 := by decide
  have c := S.cnt (j := 17) (by omega)
  unfold d_give
  refine po_call (v_dTool S) ?_
  intro v b
  rcases b with ⟨rfl, p⟩ | ⟨rfl, p⟩
  · refine po_cond (fun c => absurd c (by decide)) (fun _ => ?_)
    refine po_bl (fun v3 _ => ?_)
    refine po_cond (fun _ => ?_) (fun _ => po_some ⟨rfl, .inl ⟨rfl, rfl⟩⟩)
    refine po_bl (fun A5 h5 => po_some ⟨rfl, .inr ⟨rfl, ?_⟩⟩)
    have U := (gg_st h5).2.2
    have e := i_72 (k := 72) (x := x1) (by decide) (by omega)
    rw [l72] at e
    rw [e] at U
    exact ⟨U.1, U.2.1, U.2.2⟩
  · exact po_cond (fun _ => po_some ⟨rfl, .inl ⟨rfl, rfl⟩⟩) (fun c => absurd c (by decide))
theorem SS.tool (s : SS h F A f a g) (h7 : f' 7 = f 7) (h8 : f' 8 = f 8) (ha : ∀ o, o ≠ 4 → a' o = a o) (h4 : ∀ k : Int, 0 ≤ k → k ≠ i → (a' 4 k.toNat).toInt = (a 4 k.toNat).toInt) (h4i : (a' 4 i.toNat).toInt = v) (hg : ∀ q, 0 ≤ q → q ≠ 72 + i → g' q = g q) (hgi : g' (72 + i) = v) (i0 : 0 ≤ i) (i6 : i < 6) (nm : (F h 17).toInt ≤ 6) : SS h F A f' a' g' := by
  obtain ⟨s1, s2, s3, s4, s5, s6, s7⟩ := s
  refine ⟨fun k k0 k1 => ?_, fun k k0 k1 => ?_, fun k k0 k1 => ?_, fun m m0 m1 => ?_, ?_, ?_, by rw [h7]; exact s7.1, s7.2.fr (ha 1 (by decide)) (ha 2 (by decide))⟩
  · rw [ha 1 (by decide), hg _ (by omega) (by omega)]
    exact s1 k k0 k1
  · rw [ha 2 (by decide), hg _ (by omega) (by omega)]
    exact s2 k k0 k1
  · by_cases e : k = i
    · rw [e, h4i, hgi]
    · rw [h4 k k0 e, hg _ (by omega) (by omega)]
      exact s3 k k0 k1
  · rw [ha 3 (by decide), ha 5 (by decide), ha 6 (by decide), ha 7 (by decide), hg _ (by omega) (by omega), hg _ (by omega) (by omega), hg _ (by omega) (by omega), hg _ (by omega) (by omega), hg _ (by omega) (by omega)]
    exact s4 m m0 m1
  · rw [h7, hg _ (by omega) (by omega)]
    exact s5
  · rw [h8, hg _ (by omega) (by omega)]
    exact s6
theorem SS.left (s : SS h F A f a g) (h7 : f' 7 = f 7) (h8 : f' 8 = f 8) (ha : ∀ o, o ≠ 3 → a' o = a o) (h3 : ∀ k : Int, 0 ≤ k → k ≠ i → (a' 3 k.toNat).toInt = (a 3 k.toNat).toInt) (h3i : (a' 3 i.toNat).toInt = v) (hg : ∀ q, 0 ≤ q → q ≠ 42 + i → q ≠ 48 + i → g' q = g q) (hgt : g' (42 + i) = t) (hgu : g' (48 + i) = u) (L : LQx h F A v t u) (i0 : 0 ≤ i) (i6 : i < 6) (nm : (F h 17).toInt ≤ 6) : SS h F A f' a' g' := by
  obtain ⟨s1, s2, s3, s4, s5, s6, s7⟩ := s
  refine ⟨fun k k0 k1 => ?_, fun k k0 k1 => ?_, fun k k0 k1 => ?_, fun m m0 m1 => ?_, ?_, ?_, by rw [h7]; exact s7.1, s7.2.fr (ha 1 (by decide)) (ha 2 (by decide))⟩
  · rw [ha 1 (by decide), hg _ (by omega) (by omega) (by omega)]
    exact s1 k k0 k1
  · rw [ha 2 (by decide), hg _ (by omega) (by omega) (by omega)]
    exact s2 k k0 k1
  · rw [ha 4 (by decide), hg _ (by omega) (by omega) (by omega)]
    exact s3 k k0 k1
  · have e := s4 m m0 m1
    rw [ha 5 (by decide), ha 6 (by decide), ha 7 (by decide), hg (54 + m) (by omega) (by omega) (by omega), hg (60 + m) (by omega) (by omega) (by omega), hg (66 + m) (by omega) (by omega) (by omega)]
    refine ⟨?_, e.2⟩
    by_cases hm : m = i
    · rw [hm, h3i, hgt, hgu]
      exact L
    · rw [h3 m m0 hm, hg (42 + m) (by omega) (by omega) (by omega), hg (48 + m) (by omega) (by omega) (by omega)]
      exact e.1
  · rw [h7, hg _ (by omega) (by omega) (by omega)]
    exact s5
  · rw [h8, hg _ (by omega) (by omega) (by omega)]
    exact s6
/-- the frames of a hand's cell -/
theorem CH.fr {o : Nat} {r : cR Int32} (U : FUm F r.2.2.1 32 6 (-1)) (V : CUm A r.2.2.2.1 2 o i v) : (∀ q k, q ≠ 2 → ¬ (q = 32 ∧ k = 6) → r.2.2.1 q k = F q k) ∧ (∀ q p, q ≠ 2 → r.2.2.2.1 q p = A q p) ∧ (r.2.2.1 2 7 = F 2 7 ∧ r.2.2.1 2 8 = F 2 8) ∧ (∀ p, p ≠ o → r.2.2.2.1 2 p = A 2 p) := ⟨fun q k _ h => U.2 q k h, fun q p h => V.2.2 q p (fun e => h e.1), ⟨U.2 2 7 (by decide), U.2 2 8 (by decide)⟩, fun p h => V.2.2 2 p (fun e => h e.2)⟩
theorem p2_toolX {o : Option (cR Int32)} {w : Option (mR Int32)} (X : XR P F A Fm Am) (G : Gc P F A) (ho : po o (CH P F A 4 i v)) (hw : po w (DH Fm Am (72 + i) v)) (e : P2 o w (fun a b => a.1 = b.1)) : P2 o w (fun a b => a.1 = b.1 ∧ XR a.2.1 a.2.2.1 a.2.2.2.1 b.2.1 b.2.2.1) := by
  intro a b ha hb
  have e1 : a.1 = b.1 := e a b ha hb
  obtain ⟨p1, c⟩ := ho a ha
  obtain ⟨d1, d⟩ := hw b hb
  refine ⟨e1, ?_⟩
  have n17 := X.1.ct.2.2.2.2.2
  rcases c with ⟨c0, cF, cA⟩ | ⟨c0, ci', cF, cA⟩
  · rcases d with ⟨d0, dA⟩ | ⟨d0, -⟩
    · rw [p1, cF, cA, d1, dA]
      exact X
    · rw [c0, d0] at e1
      exact absurd e1 (by decide)
  · rcases d with ⟨d0, dA⟩ | ⟨d0, m1, m2, m3⟩
    · rw [c0, d0] at e1
      exact absurd e1 (by decide)
    · have fr := CH.fr cF cA
      rw [p1]
      refine X.now G fr.1 fr.2.1 d1 (fun q hq _ => m1 q hq) ?_
      exact X.2.2.1.1.tool fr.2.2.1.1 fr.2.2.1.2 fr.2.2.2 (fun k k0 hk => cA.2.1 k k0 hk) cA.1 m3 m2 ci'.1 ci'.2 n17
theorem p2_layX (X : XR P F A Fm Am) (G : Gc P F A) (S : SAm Fm Am) : P2 (e_SleepWork_lay P F A J x1 x2) (d_lay Fm Am Jm x1 x2) (fun a b => a.1 = b.1 ∧ XR a.2.1 a.2.2.1 a.2.2.2.1 b.2.1 b.2.2.1) := p2_toolX X G u_cLay (u_dLay S) (p2_lay G S X.1.1)
theorem p2_giveX (X : XR P F A Fm Am) (G : Gc P F A) (S : SAm Fm Am) : P2 (e_SleepWork_give P F A J x1 x2) (d_give Fm Am Jm x1 x2) (fun a b => a.1 = b.1 ∧ XR a.2.1 a.2.2.1 a.2.2.2.1 b.2.1 b.2.2.1) := p2_toolX X G u_cGive (u_dGive S) (p2_give G S X.1.1)
/-- bar -/
theorem u_cBar : po (e_SleepWork_bar P F A J x1 x2) (fun r => r.2.1 = P ∧ ((r.1 = 0 ∧ r.2.2.1 = F ∧ r.2.2.2.1 = A) ∨ (r.1 = 1 ∧ (∀ q k, ¬ (q = 2 ∧ k = 7) → ¬ (q = 32 ∧ k = 6) → r.2.2.1 q k = F q k) ∧ r.2.2.1 2 7 = (if x2 = 0 then F 2 7 &&& (((1 : Int32) <<< (x1 &&& 31)) ^^^ (-1)) else F 2 7 ||| ((1 : Int32) <<< (x1 &&& 31))) ∧ r.2.2.2.1 = A))) := by
  have f52 : ∀ s1 : Int32, po (e_SleepWork_bar_52 P F A J 2 s1) (fun r => r.1 = 1 ∧ r.2.1 = P ∧ (∀ q k, ¬ (q = 2 ∧ k = 7) → ¬ (q = 32 ∧ k = 6) → r.2.2.1 q k = F q k) ∧ r.2.2.1 2 7 = s1 ∧ r.2.2.2.1 = A) := by
    intro s1
    unfold e_SleepWork_bar_52
    refine po_bl (fun F5 h5 => ?_)
    have U := gg_cpf h5
    refine po_call w_stale ?_
    rintro ⟨u, P7, F8, A9, J10⟩ ⟨w1, w2, w3⟩
    dsimp only at w1 w2 w3 ⊢
    exact po_some ⟨rfl, w1, fun q k a b => (w2.2 q k b).trans (U.2 q k a), (w2.2 2 7 (by decide)).trans U.1, w3⟩
  unfold e_SleepWork_bar
  refine po_cond (fun _ => po_some ⟨rfl, .inl ⟨rfl, rfl, rfl⟩⟩) (fun _ => ?_)
  refine po_bl (fun q2 _ => ?_)
  refine po_cond (fun _ => ?_) (fun _ => po_some ⟨rfl, .inl ⟨rfl, rfl, rfl⟩⟩)
  refine po_cond (fun c => po_mono (f52 _) (fun r h => ⟨h.2.1, .inr ⟨h.1, h.2.2.1, ?_, h.2.2.2.2⟩⟩)) (fun c => po_mono (f52 _) (fun r h => ⟨h.2.1, .inr ⟨h.1, h.2.2.1, ?_, h.2.2.2.2⟩⟩))
  · rw [i_eq] at c
    rw [if_pos (i_ext c)]
    exact h.2.2.2.1
  · rw [i_neq] at c
    rw [if_neg (fun e => c (by rw [e]))]
    exact h.2.2.2.1
theorem u_dBar : po (d_bar Fm Am Jm x1 x2) (fun r => r.2.1 = Fm ∧ ((r.1 = 0 ∧ r.2.2.1 = Am) ∨ (r.1 = 1 ∧ (∀ q, q ≠ 47 → r.2.2.1 q = Am q) ∧ (∀ q, 0 ≤ q → q ≠ 78 → ai r.2.2.1 47 q = ai Am 47 q) ∧ ai r.2.2.1 47 78 = (if x2 = 0 then Am 47 78 &&& (((1 : Int32) <<< (x1 &&& 31)) ^^^ (-1)) else Am 47 78 ||| ((1 : Int32) <<< (x1 &&& 31))).toInt))) := by
  have l78 : (78 : Int32).toInt = 78 := by decide
  have f58 : ∀ {s1 s2 : Int32}, s1.toInt = 78 → po (d_bar_58 Fm Am Jm s1 s2) (fun r => r.1 = 1 ∧ r.2.1 = Fm ∧ (∀ q, q ≠ 47 → r.2.2.1 q = Am q) ∧ (∀ q, 0 ≤ q → q ≠ 78 → ai r.2.2.1 47 q = ai Am 47 q) ∧ ai r.2.2.1 47 78 = s2.toInt) := by
    intro s1 s2 e
    unfold d_bar_58
    refine po_bl (fun A7 h7 => po_some ?_)
    have U := (gg_st h7).2.2
    rw [e] at U
    exact ⟨rfl, rfl, U.1, U.2.2, U.2.1⟩
  unfold d_bar
  refine po_bl (fun v1 _ => po_bl (fun v2 _ => ?_))
  refine po_cond (fun _ => ?_) (fun _ => po_some ⟨rfl, .inl ⟨rfl, rfl⟩⟩)
  refine po_cond (fun c => po_bl (fun v5 h5 => po_mono (f58 l78) (fun r h => ⟨h.2.1, .inr ⟨h.1, h.2.2.1, h.2.2.2.1, ?_⟩⟩))) (fun c => po_bl (fun v5 h5 => po_mono (f58 l78) (fun r h => ⟨h.2.1, .inr ⟨h.1, h.2.2.1, h.2.2.2.1, ?_⟩⟩)))
  · have e5 : v5 = Am 47 78 := by
      rw [(gg_ld h5).2.2, l78]
      rfl
    rw [i_eq] at c
    rw [if_pos (i_ext c), ← e5]
    exact h.2.2.2.2
  · have e5 : v5 = Am 47 78 := by
      rw [(gg_ld h5).2.2, l78]
      rfl
    rw [i_neq] at c
    rw [if_neg (fun e => c (by rw [e])), ← e5]
    exact h.2.2.2.2
theorem p2_barX (X : XR P F A Fm Am) (G : Gc P F A) (S : SAm Fm Am) : P2 (e_SleepWork_bar P F A J x1 x2) (d_bar Fm Am Jm x1 x2) (fun a b => a.1 = b.1 ∧ XR a.2.1 a.2.2.1 a.2.2.2.1 b.2.1 b.2.2.1) := by
  intro a b ha hb
  have e1 : a.1 = b.1 := p2_bar G S X.1.1 a b ha hb
  obtain ⟨p1, c⟩ := u_cBar a ha
  obtain ⟨d1, d⟩ := u_dBar b hb
  refine ⟨e1, ?_⟩
  have n17 := X.1.ct.2.2.2.2.2
  have hx : a.1 = 1 → 0 ≤ x1.toInt ∧ x1.toInt < 12 := fun e => by
    have n14 := X.1.ct.2.1.2
    rcases v_cBar a ha with ⟨-, p⟩ | ⟨z, -⟩
    · omega
    · rw [z] at e
      exact absurd e (by decide)
  rcases c with ⟨c0, cF, cA⟩ | ⟨c0, cF, c7, cA⟩
  · rcases d with ⟨d0, dA⟩ | ⟨d0, -⟩
    · rw [p1, cF, cA, d1, dA]
      exact X
    · rw [c0, d0] at e1
      exact absurd e1 (by decide)
  · rcases d with ⟨d0, dA⟩ | ⟨d0, m1, m2, m3⟩
    · rw [c0, d0] at e1
      exact absurd e1 (by decide)
    · rw [p1]
      refine X.now G (fun q k h1 h2 => cF q k (fun e => h1 e.1) h2) (fun q o h => by rw [cA]) d1 (fun q hq _ => m1 q hq) ?_
      obtain ⟨s1, s2, s3, s4, s5, s6, s7⟩ := X.2.2.1.1
      have e78 : F 2 7 = Am 47 78 := i_ext s5
      refine ⟨fun k k0 k1 => ?_, fun k k0 k1 => ?_, fun k k0 k1 => ?_, fun m k0 k1 => ?_, ?_, ?_, ?_, s7.2.fr (by rw [cA]) (by rw [cA])⟩
      · rw [cA]
        show _ = ai b.2.2.1 47 (6 + k)
        rw [m2 _ (by omega) (by omega)]
        exact s1 k k0 k1
      · rw [cA]
        show _ = ai b.2.2.1 47 k ∧ _
        rw [m2 _ (by omega) (by omega)]
        exact s2 k k0 k1
      · rw [cA]
        show _ = ai b.2.2.1 47 (72 + k)
        rw [m2 _ (by omega) (by omega)]
        exact s3 k k0 k1
      · rw [cA]
        show LQx (P 0 8) F A _ (ai b.2.2.1 47 (42 + m)) (ai b.2.2.1 47 (48 + m)) ∧ _ = ai b.2.2.1 47 (54 + m) ∧ _ = ai b.2.2.1 47 (60 + m) ∧ _ = ai b.2.2.1 47 (66 + m)
        rw [m2 _ (by omega) (by omega), m2 _ (by omega) (by omega), m2 _ (by omega) (by omega), m2 _ (by omega) (by omega), m2 _ (by omega) (by omega)]
        exact s4 m k0 k1
      · show (a.2.2.1 2 7).toInt = ai b.2.2.1 47 78
        rw [c7, m3, e78]
      · show (a.2.2.1 2 8).toInt = ai b.2.2.1 47 79
        rw [cF 2 8 (by decide) (by decide), m2 79 (by decide) (by decide)]
        exact s6
      · rw [c7]
        by_cases e2 : x2 = 0
        · rw [if_pos e2]
          exact b7_and s7.1
        · rw [if_neg e2]
          refine b7_or s7.1 ?_
          have z : 0 ≤ x1.toInt ∧ x1.toInt < 12 := hx c0
          have ex : x1 = Int32.ofNat x1.toInt.toNat := i_nat z.1
          rw [ex]
          exact b7_shl ⟨x1.toInt.toNat, by omega⟩
end H9f9
