/-! what both sides share between calls -/
section H9f8
variable {n : Nat} {h : Nat} {P P' : Nat → Nat → Nat} {F F' : Nat → Nat → Int32} {A A' : Nat → Nat → Nat → Int32} {J : Nat → Nat → Nat → Int64} {Fm Fm' : Nat → Int32} {Am Am' : Nat → Nat → Int32} {Jm : Nat → Nat → Int64} {f f' : Nat → Int32} {a a' : Nat → Nat → Int32} {g g' : Int → Int}
/-- an evening on both sides, in the house h -/
def SS (h : Nat) (F : Nat → Nat → Int32) (A : Nat → Nat → Nat → Int32) (f : Nat → Int32) (a : Nat → Nat → Int32) (g : Int → Int) : Prop := (∀ k : Int, 0 ≤ k → k < 36 → (a 1 k.toNat).toInt = g (6 + k)) ∧ (∀ k : Int, 0 ≤ k → k < 6 → (a 2 k.toNat).toInt = g k ∧ 0 ≤ (a 2 k.toNat).toInt) ∧ (∀ k : Int, 0 ≤ k → k < 6 → (a 4 k.toNat).toInt = g (72 + k)) ∧ (∀ m : Int, 0 ≤ m → m < (F h 17).toInt → LQx h F A (a 3 m.toNat).toInt (g (42 + m)) (g (48 + m)) ∧ (a 5 m.toNat).toInt = g (54 + m) ∧ (a 6 m.toNat).toInt = g (60 + m) ∧ (a 7 m.toNat).toInt = g (66 + m)) ∧ (f 7).toInt = g 78 ∧ (f 8).toInt = g 79 ∧ B7 (f 7) ∧ BDa a
theorem SS.ok (h17 : (F h 17).toInt ≤ 6) : SOK (SS h F A) := by
  intro f f' a a' g g' e hg s
  obtain ⟨s1, s2, s3, s4, s5, s6, s7⟩ := s
  refine ⟨fun k k0 k1 => ?_, fun k k0 k1 => ?_, fun k k0 k1 => ?_, fun m m0 m1 => ?_, ?_, ?_, ?_, s7.2.cg (fun i i0 i1 => by rw [e.2.2.1 i.toNat (by omega)]) (fun i i0 i1 => by rw [e.2.2.2 2 i.toNat (by decide) (by decide) (by omega)])⟩
  · rw [e.2.2.1 k.toNat (by omega), hg (6 + k) (by omega) (by omega)]
    exact s1 k k0 k1
  · rw [e.2.2.2 2 k.toNat (by decide) (by decide) (by omega), hg k (by omega) (by omega)]
    exact s2 k k0 k1
  · rw [e.2.2.2 4 k.toNat (by decide) (by decide) (by omega), hg (72 + k) (by omega) (by omega)]
    exact s3 k k0 k1
  · rw [e.2.2.2 3 m.toNat (by decide) (by decide) (by omega), e.2.2.2 5 m.toNat (by decide) (by decide) (by omega), e.2.2.2 6 m.toNat (by decide) (by decide) (by omega), e.2.2.2 7 m.toNat (by decide) (by decide) (by omega), hg (42 + m) (by omega) (by omega), hg (48 + m) (by omega) (by omega), hg (54 + m) (by omega) (by omega), hg (60 + m) (by omega) (by omega), hg (66 + m) (by omega) (by omega)]
    exact s4 m m0 m1
  · rw [e.1, hg 78 (by decide) (by decide)]
    exact s5
  · rw [e.2.1, hg 79 (by decide) (by decide)]
    exact s6
  · rw [e.1]
    exact s7.1
theorem SS.hs (S : SS h F A f a g) (h17 : F' h 17 = F h 17) (h16 : F' h 16 = F h 16) (h5 : A' h 5 = A h 5) : SS h F' A' f a g := by
  unfold SS LQx
  rw [h17, h16, ci_fr h5]
  exact S
theorem SS.to {r j : Nat} {b : Int} (s : SS h F A (F' r) (A' r) (fun i => ai Am j (b + i))) (h17 : F' h 17 = F h 17) (h16 : F' h 16 = F h 16) (h5 : A' h 5 = A h 5) : SBx True h r F' A' Am j b ∧ (F' r 7).toInt = ai Am j (b + 78) ∧ (F' r 8).toInt = ai Am j (b + 79) ∧ B7 (F' r 7) := by
  have t := s.hs h17 h16 h5
  exact ⟨⟨t.1, t.2.1, t.2.2.1, fun m m0 m1 => ⟨(t.2.2.2.1 m m0 m1).1, (t.2.2.2.1 m m0 m1).2.1, (t.2.2.2.1 m m0 m1).2.2.1, fun _ => (t.2.2.2.1 m m0 m1).2.2.2⟩⟩, t.2.2.2.2.1, t.2.2.2.2.2.1, t.2.2.2.2.2.2.1⟩
theorem SS.of {r j : Nat} {b : Int} (s : SBx True h r F' A' Am j b) (s7 : (F' r 7).toInt = ai Am j (b + 78)) (s8 : (F' r 8).toInt = ai Am j (b + 79)) (s9 : B7 (F' r 7)) (s10 : BDa (A' r)) (h17 : F' h 17 = F h 17) (h16 : F' h 16 = F h 16) (h5 : A' h 5 = A h 5) : SS h F A (F' r) (A' r) (fun i => ai Am j (b + i)) := by
  have t : SS h F' A' (F' r) (A' r) (fun i => ai Am j (b + i)) := ⟨s.1, s.2.1, s.2.2.1, fun m m0 m1 => ⟨(s.2.2.2 m m0 m1).1, (s.2.2.2 m m0 m1).2.1, (s.2.2.2 m m0 m1).2.2.1, (s.2.2.2 m m0 m1).2.2.2 trivial⟩, s7, s8, s9, s10⟩
  exact t.hs h17.symm h16.symm h5.symm
theorem g_zero {j : Nat} : (fun i => ai Am j i) = (fun i => ai Am j (0 + i)) := funext (fun i => by rw [Int.zero_add])
/-- what was told -/
def TLx (F : Nat → Nat → Int32) (A : Nat → Nat → Nat → Int32) (Am : Nat → Nat → Int32) : Prop := ∀ k : Int, 0 ≤ k → k < (F 25 2).toInt → ci A 25 1 k = 6 * ai Am 58 k + ai Am 59 k ∧ ci A 25 2 k = ai Am 60 k
/-- what both sides share between calls -/
def XR (P : Nat → Nat → Nat) (F : Nat → Nat → Int32) (A : Nat → Nat → Nat → Int32) (Fm : Nat → Int32) (Am : Nat → Nat → Int32) : Prop := NHx (P 0 8) F A Fm Am ∧ SCx F Fm Am ∧ YS (SS (P 0 8) F A) F A Fm Am ∧ WCx (P 0 8) F A ∧ TLx F A Am
theorem kd_st : ∀ r : Nat, r < 32 → (r = 2 ∨ (5 ≤ r ∧ r ≤ 24) ∨ 29 ≤ r) → c_kind r = 2 := by decide
theorem YS.map {S S' : (Nat → Int32) → (Nat → Nat → Int32) → (Int → Int) → Prop} (Y : YS S F A Fm Am) (k : ∀ f a g, S f a g → S' f a g) : YS S' F A Fm Am := ⟨k _ _ _ Y.1, fun u u0 u1 => k _ _ _ (Y.2.1 u u0 u1), fun s hs hb => k _ _ _ (Y.2.2 s hs hb)⟩
/-- a try leaves it -/
theorem XR.tried (X : XR P F A Fm Am) (G : Gc P F A) (q : QFc P P' F F' A A') (k : KT Fm Am Fm' Am') : XR P' F' A' Fm' Am' := by
  obtain ⟨N, C, Y, W, T⟩ := X
  have e8 : P' 0 8 = P 0 8 := q.1.1 0 8 (by decide)
  have hF := (q.1.2.2.1 _ G.live).1
  have hA := (q.1.2.2.1 _ G.live).2
  have hS : SOK (SS (P 0 8) F A) := SS.ok N.ct.2.2.2.2.2
  have st := q.2.1.1
  have sr : ∀ r : Nat, r < 32 → (r = 2 ∨ (5 ≤ r ∧ r ≤ 24) ∨ 29 ≤ r) → SE (F r) (F' r) (A r) (A' r) := fun r h1 h2 => .of (st r (kd_st r h1 h2) (by omega) (by omega)).2 (st r (kd_st r h1 h2) (by omega) (by omega)).1
  have Y' : YS (SS (P 0 8) F A) F' A' Fm' Am' := by
    refine ⟨Y.1.cg hS (sr 2 (by decide) (by decide)) (fun i _ _ => by unfold ai; rw [k.2 47 (by decide)]), ?_, Y.2.2.cg hS (fun r r0 r1 => sr r (by omega) (by omega)) (k.2 61 (by decide)) (k.2 62 (by decide))⟩
    rw [k.1 74 (by decide) (by decide)]
    exact Y.2.1.cg hS (by rw [q.1.2.2.2.2.1 1]) (fun r r0 r1 => sr r (by omega) (by omega)) (k.2 57 (by decide))
  refine ⟨?_, ?_, ?_, ?_, ?_⟩
  · rw [e8]
    exact N.fr hF hA (k.1 18 (by decide) (by decide)) (fun q a b => k.2 q (.inl (by omega)))
  · exact ⟨by rw [q.2.1.2.2 2, k.1 77 (by decide) (by decide)]; exact C.1, by rw [q.1.2.2.2.2.1 2, k.1 74 (by decide) (by decide)]; exact C.2.1, fun s hs => by rw [q.1.2.2.2.2.2.1, k.2 61 (by decide)]; exact C.2.2 s hs⟩
  · rw [e8]
    exact Y'.map (fun f a g s => s.hs (hF 17) (hF 16) (hA 5 (by decide)))
  · rw [e8]
    exact q.2.2 N.kd W
  · intro i i0 i1
    rw [q.2.1.2.2 2] at i1
    rw [ci_fr (q.2.1.2.1 1), ci_fr (q.2.1.2.1 2), ai_fr (k.2 58 (by decide)), ai_fr (k.2 59 (by decide)), ai_fr (k.2 60 (by decide))]
    exact T i i0 i1
theorem p2_try {o : Option (cR Int32)} {u : Option (mR Int32)} (X : XR P F A Fm Am) (G : Gc P F A) (ho : ok o (fun r => QFc P r.2.1 F r.2.2.1 A r.2.2.2.1)) (hu : po u (fun r => KT Fm Am r.2.1 r.2.2.1)) : P2 o u (fun a b => XR a.2.1 a.2.2.1 a.2.2.2.1 b.2.1 b.2.2.1) := p2_of ho.po hu (fun _ _ q k => X.tried G q k)
/-- a hand's work: the evening of now alone changes -/
theorem XR.now (X : XR P F A Fm Am) (G : Gc P F A) (hF : ∀ r k, r ≠ 2 → ¬ (r = 32 ∧ k = 6) → F' r k = F r k) (hA : ∀ r o, r ≠ 2 → A' r o = A r o) (e : Fm' = Fm) (hm : ∀ q, q ≠ 47 → q < 45 ∨ 57 ≤ q → Am' q = Am q) (S : SS (P 0 8) F A (F' 2) (A' 2) (fun i => ai Am' 47 i)) : XR P F' A' Fm' Am' := by
  obtain ⟨N, C, Y, W, T⟩ := X
  subst e
  have n2 : P 0 8 ≠ 2 := G.n2
  have n32 : P 0 8 ≠ 32 := fun e => absurd G.k08 (by rw [e]; decide)
  have hF8 : ∀ k, F' (P 0 8) k = F (P 0 8) k := fun k => hF _ k n2 (fun e => n32 e.1)
  have hA8 : ∀ o, A' (P 0 8) o = A (P 0 8) o := fun o => hA _ o n2
  have hS : SOK (SS (P 0 8) F A) := SS.ok N.ct.2.2.2.2.2
  have sr : ∀ r : Nat, r ≠ 2 → r ≠ 32 → SE (F r) (F' r) (A r) (A' r) := fun r h1 h2 => .of (fun k => hF r k h1 (fun e => h2 e.1)) (fun o => hA r o h1)
  have Y' : YS (SS (P 0 8) F A) F' A' Fm' Am' := ⟨S, Y.2.1.cg hS (by rw [hF 4 1 (by decide) (by decide)]) (fun r r0 r1 => sr r (by omega) (by omega)) (hm 57 (by decide) (by decide)), Y.2.2.cg hS (fun r r0 r1 => sr r (by omega) (by omega)) (hm 61 (by decide) (by decide)) (hm 62 (by decide) (by decide))⟩
  refine ⟨N.fr hF8 (fun o _ => hA8 o) rfl (fun q a b => hm q (by omega) (.inl (by omega))), ?_, Y'.map (fun f a g s => s.hs (hF8 17) (hF8 16) (hA8 5)), W.cg hF8 (fun o _ => hA8 o) (hF 36 101 (by decide) (by decide)) (hA 36 2 (by decide)), ?_⟩
  · exact ⟨by rw [hF 25 2 (by decide) (by decide)]; exact C.1, by rw [hF 4 2 (by decide) (by decide)]; exact C.2.1, fun s hs => by rw [hF 0 10 (by decide) (by decide), hm 61 (by decide) (by decide)]; exact C.2.2 s hs⟩
  · intro i i0 i1
    rw [hF 25 2 (by decide) (by decide)] at i1
    rw [ci_fr (hA 25 1 (by decide)), ci_fr (hA 25 2 (by decide)), ai_fr (hm 58 (by decide) (by decide)), ai_fr (hm 59 (by decide) (by decide)), ai_fr (hm 60 (by decide) (by decide))]
    exact T i i0 i1
theorem w_stale : po (e_Evening_setStale P F A J) (fun z => z.2.1 = P ∧ FUm F z.2.2.1 32 6 (-1) ∧ z.2.2.2.1 = A) := by
  unfold e_Evening_setStale
  exact po_bl (fun F1 h1 => po_some ⟨rfl, gg_cpf h1, rfl⟩)
/-- undo, hold, restore -/
theorem SCx.r74 (S : SAm Fm Am) : 0 ≤ (Fm 74).toInt ∧ (Fm 74).toInt ≤ 20 := S.1 74
end H9f8
