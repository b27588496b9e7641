/-! evenings now, in the past and in the slots, on both sides: a relation that only reads them -/
section H9f3
variable {S : (Nat → Int32) → (Nat → Nat → Int32) → (Int → Int) → Prop}
variable {n : Nat} {P P' : Nat → Nat → Nat} {F F' : Nat → Nat → Int32} {A A' : Nat → Nat → Nat → Int32} {J : Nat → Nat → Nat → Int64} {Fm Fm' : Nat → Int32} {Am Am' : Nat → Nat → Int32} {Jm : Nat → Nat → Int64} {x1 x2 : Int32}
/-- it only reads an evening -/
def SOK (S : (Nat → Int32) → (Nat → Nat → Int32) → (Int → Int) → Prop) : Prop := ∀ f f' a a' g g', SE f f' a a' → (∀ i : Int, 0 ≤ i → i < 100 → g' i = g i) → S f a g → S f' a' g'
def YN (S : (Nat → Int32) → (Nat → Nat → Int32) → (Int → Int) → Prop) (F : Nat → Nat → Int32) (A : Nat → Nat → Nat → Int32) (Am : Nat → Nat → Int32) : Prop := S (F 2) (A 2) (fun i => ai Am 47 i)
def YP (S : (Nat → Int32) → (Nat → Nat → Int32) → (Int → Int) → Prop) (F : Nat → Nat → Int32) (A : Nat → Nat → Nat → Int32) (c : Int) (Am : Nat → Nat → Int32) : Prop := ∀ u : Int, 0 ≤ u → u < c → S (F (sl F u)) (A (sl F u)) (fun i => ai Am 57 (100 * u + i))
def YH (S : (Nat → Int32) → (Nat → Nat → Int32) → (Int → Int) → Prop) (F : Nat → Nat → Int32) (A : Nat → Nat → Nat → Int32) (Am : Nat → Nat → Int32) : Prop := ∀ s : Nat, s < 3 → Am 61 s ≠ 0 → S (F (29 + s)) (A (29 + s)) (fun i => ai Am 62 (100 * (s : Int) + i))
def YS (S : (Nat → Int32) → (Nat → Nat → Int32) → (Int → Int) → Prop) (F : Nat → Nat → Int32) (A : Nat → Nat → Nat → Int32) (Fm : Nat → Int32) (Am : Nat → Nat → Int32) : Prop := YN S F A Am ∧ YP S F A (Fm 74).toInt Am ∧ YH S F A Am
/-- what is kept, read alike: the past -/
theorem YP.cg {c : Int} (hS : SOK S) (X : YP S F A c Am) (hf : (F' 4 1).toInt = (F 4 1).toInt) (h : ∀ r, 5 ≤ r → r ≤ 24 → SE (F r) (F' r) (A r) (A' r)) (hm : Am' 57 = Am 57) : YP S F' A' c Am' := by
  intro u u0 u1
  have e : sl F' u = sl F u := by unfold sl; rw [hf]
  rw [e]
  have g := sl_rng (F := F) u
  exact hS _ _ _ _ _ _ (h _ g.1 g.2) (fun i _ _ => by unfold ai; rw [hm]) (X u u0 u1)
theorem YH.cg (hS : SOK S) (X : YH S F A Am) (h : ∀ r, 29 ≤ r → r ≤ 31 → SE (F r) (F' r) (A r) (A' r)) (h1 : Am' 61 = Am 61) (h2 : Am' 62 = Am 62) : YH S F' A' Am' := by
  intro s hs hb
  rw [h1] at hb
  exact hS _ _ _ _ _ _ (h _ (by omega) (by omega)) (fun i _ _ => by unfold ai; rw [h2]) (X s hs hb)
theorem YN.cg (hS : SOK S) (X : YN S F A Am) (h : SE (F 2) (F' 2) (A 2) (A' 2)) (hm : ∀ i : Int, 0 ≤ i → i < 100 → ai Am' 47 i = ai Am 47 i) : YN S F' A' Am' := hS _ _ _ _ _ _ h hm X
/-- undo -/
theorem p2_undoX (hS : SOK S) (R : Rc F A) (c0 : 0 ≤ (Fm 74).toInt ∧ (Fm 74).toInt ≤ 20) (e4 : F 4 2 = Fm 74) (X : YS S F A Fm Am) : P2 (e_SleepWork_undo P F A J) (d_undo n Fm Am Jm) (fun a b => YS S a.2.2.1 a.2.2.2.1 b.2.1 b.2.2.1) :=
  p2_of (v_cUndo3 R) (r_undo c0) (fun a b h h' => by
    obtain ⟨-, h2, h3, -, h5, h6⟩ := h
    obtain ⟨-, g2⟩ := h'
    rcases h6 with ⟨-, z, ef, ea⟩ | ⟨-, z, -, z4, se⟩
    · rcases g2 with ⟨-, -, df, da⟩ | ⟨-, w, -, -⟩
      · rw [ef, ea, df, da]
        exact X
      · rw [e4] at z
        exact absurd z w
    · rcases g2 with ⟨-, w, -, -⟩ | ⟨-, w, w4, cp⟩
      · rw [e4] at z
        exact absurd w z
      · rw [e4] at se
        have sa : ∀ r, 5 ≤ r → SE (F r) (a.2.2.1 r) (A r) (a.2.2.2.1 r) ∨ r = 32 := fun r hr => by
          by_cases e : r = 32
          · exact .inr e
          · exact .inl (.of (fun k => h2 r k (by omega) (by omega) e) (fun o => h5 r o (by omega)))
        refine ⟨?_, ?_, ?_⟩
        · refine hS _ _ _ _ _ _ se (fun i i0 i1 => ?_) (X.2.1 ((Fm 74).toInt - 1) (by omega) (by omega))
          have := cp.2.1 i i0 i1
          rw [Int.zero_add] at this
          exact this
        · rw [w4]
          have Y : YP S F A ((Fm 74).toInt - 1) Am := fun u u0 u1 => X.2.1 u u0 (by omega)
          exact Y.cg hS (by rw [h3]) (fun r r0 r1 => (sa r r0).resolve_right (by omega)) (cp.1 57 (by decide))
        · exact X.2.2.cg hS (fun r r0 r1 => (sa r (by omega)).resolve_right (by omega)) (cp.1 61 (by decide)) (cp.1 62 (by decide)))
/-- hold -/
theorem p2_holdX (hS : SOK S) (X : YS S F A Fm Am) : P2 (e_SleepWork_hold P F A J x1) (d_hold n Fm Am Jm x1) (fun a b => YS S a.2.2.1 a.2.2.2.1 b.2.1 b.2.2.1) :=
  p2_of v_cHold3 r_hold (fun a b h h' => by
    obtain ⟨-, h1⟩ := h
    obtain ⟨g0, g1⟩ := h'
    rcases h1 with ⟨z, ef, ea⟩ | ⟨z, hf, ha, se⟩
    · rcases g1 with ⟨-, da⟩ | ⟨w, -⟩
      · rw [ef, ea, g0, da]
        exact X
      · exact absurd w z
    · rcases g1 with ⟨w, -⟩ | ⟨-, A3, k1, k2, cp⟩
      · exact absurd z w
      · rw [g0]
        have sa : ∀ r, r ≠ 0 → r ≠ 29 + x1.toInt.toNat → SE (F r) (a.2.2.1 r) (A r) (a.2.2.2.1 r) := fun r r0 hr => .of (fun k => hf r k hr (fun e => r0 e.1)) (fun o => ha r o hr)
        refine ⟨X.1.cg hS (sa 2 (by decide) (by omega)) (fun i _ _ => ?_), X.2.1.cg hS (by rw [hf 4 1 (by omega) (by decide)]) (fun r r0 r1 => sa r (by omega) (by omega)) ((cp.1 57 (by decide)).trans (k1 57 (by decide))), fun s hs hb => ?_⟩
        · unfold ai
          rw [cp.1 47 (by decide), k1 47 (by decide)]
        · by_cases e : s = x1.toInt.toNat
          · subst e
            refine hS _ _ _ _ _ _ se (fun i i0 i1 => ?_) X.1
            have q := cp.2.1 i i0 i1
            rw [Int.zero_add] at q
            show ai b.2.2.1 62 (100 * ((x1.toInt.toNat : Nat) : Int) + i) = ai Am 47 i
            rw [show ((x1.toInt.toNat : Nat) : Int) = x1.toInt by omega, q]
            unfold ai
            rw [k1 47 (by decide)]
          · rw [cp.1 61 (by decide), k2 s hs e] at hb
            refine hS _ _ _ _ _ _ (sa (29 + s) (by omega) (by omega)) (fun i i0 i1 => ?_) (X.2.2 s hs hb)
            show ai b.2.2.1 62 (100 * (s : Int) + i) = ai Am 62 (100 * (s : Int) + i)
            rw [cp.2.2 (100 * (s : Int) + i) (by omega) (by omega)]
            unfold ai
            rw [k1 62 (by decide)])
/-- restore: what both answer is the same -/
theorem p2_restoreX (hS : SOK S) (hb : ∀ s : Nat, s < 3 → (HB (F 0 10) s ↔ Am 61 s ≠ 0)) (X : YS S F A Fm Am) : P2 (e_SleepWork_restore P F A J x1) (d_restore n Fm Am Jm x1) (fun a b => a.1 = b.1 → YS S a.2.2.1 a.2.2.2.1 b.2.1 b.2.2.1) :=
  p2_of v_cRestore3 r_restore (fun a b h h' e => by
    obtain ⟨-, h1⟩ := h
    rcases h1 with ⟨z, ef, ea⟩ | ⟨z, p, hh, hf, ha, -, -, se⟩
    · rcases h' with ⟨-, df, da⟩ | ⟨w, -⟩
      · rw [ef, ea, df, da]
        exact X
      · rw [z, w] at e
        exact absurd e (by decide)
    · rcases h' with ⟨w, -⟩ | ⟨-, -, w4, -, cp⟩
      · rw [z, w] at e
        exact absurd e (by decide)
      · have ha61 := (hb _ (by omega)).mp hh
        refine ⟨?_, ?_, ?_⟩
        · refine hS _ _ _ _ _ _ se (fun i i0 i1 => ?_) (X.2.2 x1.toInt.toNat (by omega) ha61)
          have q := cp.2.1 i i0 i1
          rw [Int.zero_add] at q
          show ai b.2.2.1 47 i = ai Am 62 (100 * ((x1.toInt.toNat : Nat) : Int) + i)
          rw [show ((x1.toInt.toNat : Nat) : Int) = x1.toInt by omega]
          exact q
        · rw [w4, i_0]
          exact fun u u0 u1 => absurd u1 (by omega)
        · exact X.2.2.cg hS (fun r r0 r1 => .of (fun k => hf r k (by omega) (by omega) (by omega)) (fun o => ha r o (by omega))) (cp.1 61 (by decide)) (cp.1 62 (by decide)))
/-- a night begins: now is kept on both sides -/
theorem YS.push {d : Int} {z : Unit × (Nat → Nat → Nat) × (Nat → Nat → Int32) × (Nat → Nat → Nat → Int32) × (Nat → Nat → Nat → Int64)} (hS : SOK S) (X : YS S F A Fm Am) (e4 : F 4 2 = Fm 74) (hd : d = 0 ∨ d = 1) (pu : PUv d P F A z) (hs : HSm d (Fm 74).toInt Am Am') : YN S z.2.2.1 z.2.2.2.1 Am' ∧ YP S z.2.2.1 z.2.2.2.1 ((Fm 74).toInt + 1 - d) Am' ∧ YH S z.2.2.1 z.2.2.2.1 Am' := by
  obtain ⟨-, u2, u3, -, u5, u6⟩ := pu
  rw [e4] at u5 u6
  refine ⟨?_, fun u u0 u1 => ?_, ?_⟩
  · exact X.1.cg hS (.of (fun k => u2 2 k (by decide) (by decide)) (fun o => u3 2 o (by decide))) (fun i _ _ => by unfold ai; rw [hs.1 47 (by decide)])
  · by_cases e : u = (Fm 74).toInt - d
    · subst e
      exact hS _ _ _ _ _ _ u6 (fun i i0 i1 => hs.2.2 i i0 i1) X.1
    · exact hS _ _ _ _ _ _ (u5 u u0 (by omega)) (fun i i0 i1 => hs.2.1 u i u0 (by omega) i0 i1) (X.2.1 (u + d) (by omega) (by omega))
  · exact X.2.2.cg hS (fun r r0 r1 => .of (fun k => u2 r k (by omega) (by omega)) (fun o => u3 r o (by omega))) (hs.1 61 (by decide)) (hs.1 62 (by decide))
end H9f3
