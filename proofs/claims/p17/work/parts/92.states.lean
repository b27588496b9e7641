/-! the class: states, the past -/
section T92
variable {P P' : Nat → Nat → Nat} {F F' : Nat → Nat → Int32} {A A' : Nat → Nat → Nat → Int32} {J : Nat → Nat → Nat → Int64} {β : Type} {Q : β → Prop} {r0 r1 : Nat}
theorem ok_ccp {r o q k n : Nat} {g : (Nat → Nat → Nat → Int32) → Option β} (kk : ∀ A', (∀ j, 0 ≤ j → j < (n : Int) → ci A' q k j = ci A r o j) → (∀ j, (n : Int) ≤ j → ci A' q k j = ci A q k j) → (∀ r' o', ¬ (r' = q ∧ o' = k) → A' r' o' = A r' o') → ok (g A') Q) : ok ((c_cp A r o q k n).bind g) Q := by
  refine kk _ (fun j hj hn => ?_) (fun j hn => ?_) (fun r' o' hn => ?_)
  · unfold ci
    rw [c_up_same, c_up_same]
    unfold va_cpy
    rw [if_pos (by omega)]
    rw [show 0 + (j.toNat - 0) = j.toNat by omega]
  · unfold ci
    rw [c_up_same, c_up_same]
    unfold va_cpy
    rw [if_neg (by omega)]
  · by_cases e : r' = q
    · subst e
      rw [c_up_same, c_up_ne (fun e => hn ⟨rfl, e⟩)]
    · rw [c_up_ne e]
theorem rc_reg (hk : c_kind r0 = 2) (R : Rc F A) (hA : ∀ r o, r ≠ r0 → A' r o = A r o) (hF : ∀ r k, r ≠ r0 → F' r k = F r k) : Rc F' A' := by
  refine ⟨fun r k => ?_, fun r o i hi => ?_⟩
  · by_cases e : r = r0
    · subst e
      rw [hk]
      exact trivial
    · unfold cf
      rw [hF r k e]
      exact R.1 r k
  · by_cases e : r = r0
    · subst e
      rw [hk]
      exact trivial
    · rw [ci_fr (hA r o e)]
      exact R.2 r o i hi
/-- a state is written anew, its left as said -/
def CPc (P : Nat → Nat → Nat) (F : Nat → Nat → Int32) (A : Nat → Nat → Nat → Int32) (r0 : Nat) (f : Int → Int) (r : Unit × (Nat → Nat → Nat) × (Nat → Nat → Int32) × (Nat → Nat → Nat → Int32) × (Nat → Nat → Nat → Int64)) : Prop := r.2.1 = P ∧ (∀ r' k, r' ≠ r0 → r.2.2.1 r' k = F r' k) ∧ (∀ r' o, r' ≠ r0 → r.2.2.2.1 r' o = A r' o) ∧ Rc r.2.2.1 r.2.2.2.1 ∧ (∀ j, 0 ≤ j → j < 6 → ci r.2.2.2.1 r0 3 j = f j)
theorem s_copy (hk : c_kind r0 = 2) (hne : r1 ≠ r0) (R : Rc F A) : ok (e_State_copy P F A J r0 r1) (CPc P F A r0 (ci A r1 3)) := by
  unfold e_State_copy
  refine ok_ccp ?_
  intro A1 a1 b1 c1
  refine ok_ccp ?_
  intro A2 a2 b2 c2
  refine ok_ccp ?_
  intro A3 a3 b3 c3
  refine ok_ccp ?_
  intro A4 a4 b4 c4
  refine ok_ccp ?_
  intro A5 a5 b5 c5
  refine ok_ccp ?_
  intro A6 a6 b6 c6
  refine ok_ccp ?_
  intro A7 a7 b7 c7
  refine ok_cpf ?_
  intro F8 U8
  refine ok_cpf ?_
  intro F9 U9
  have oA : ∀ r o, r ≠ r0 → A7 r o = A r o := fun r o h => (c7 r o (fun e => h e.1)).trans ((c6 r o (fun e => h e.1)).trans ((c5 r o (fun e => h e.1)).trans ((c4 r o (fun e => h e.1)).trans ((c3 r o (fun e => h e.1)).trans ((c2 r o (fun e => h e.1)).trans (c1 r o (fun e => h e.1)))))))
  have oF : ∀ r k, r ≠ r0 → F9 r k = F r k := fun r k h => (U9.2 r k (fun e => h e.1)).trans (U8.2 r k (fun e => h e.1))
  refine ok_some ⟨rfl, oF, oA, rc_reg hk R oA oF, fun j j0 j1 => ?_⟩
  show ci A7 r0 3 j = _
  rw [ci_fr (c7 r0 3 (by simp)), ci_fr (c6 r0 3 (by simp)), ci_fr (c5 r0 3 (by simp)), ci_fr (c4 r0 3 (by simp)), a3 j j0 (by omega), ci_fr (c2 r1 3 (fun e => hne e.1)), ci_fr (c1 r1 3 (fun e => hne e.1))]
theorem s_clear (hk : c_kind r0 = 2) (R : Rc F A) : ok (e_State_clear P F A J r0) (CPc P F A r0 (fun _ => -1)) := by
  unfold e_State_clear
  refine ok_cfi ?_
  intro A1 a1 b1 c1
  refine ok_cfi ?_
  intro A2 a2 b2 c2
  refine ok_cfi ?_
  intro A3 a3 b3 c3
  refine ok_cfi ?_
  intro A4 a4 b4 c4
  refine ok_cfi ?_
  intro A5 a5 b5 c5
  refine ok_cfi ?_
  intro A6 a6 b6 c6
  refine ok_cfi ?_
  intro A7 a7 b7 c7
  refine ok_cpf ?_
  intro F8 U8
  refine ok_cpf ?_
  intro F9 U9
  have oA : ∀ r o, r ≠ r0 → A7 r o = A r o := fun r o h => (c7 r o (fun e => h e.1)).trans ((c6 r o (fun e => h e.1)).trans ((c5 r o (fun e => h e.1)).trans ((c4 r o (fun e => h e.1)).trans ((c3 r o (fun e => h e.1)).trans ((c2 r o (fun e => h e.1)).trans (c1 r o (fun e => h e.1)))))))
  have oF : ∀ r k, r ≠ r0 → F9 r k = F r k := fun r k h => (U9.2 r k (fun e => h e.1)).trans (U8.2 r k (fun e => h e.1))
  refine ok_some ⟨rfl, oF, oA, rc_reg hk R oA oF, fun j j0 j1 => ?_⟩
  show ci A7 r0 3 j = _
  rw [ci_fr (c7 r0 3 (by simp)), ci_fr (c6 r0 3 (by simp)), ci_fr (c5 r0 3 (by simp)), ci_fr (c4 r0 3 (by simp)), a3 j j0 (by omega)]
  exact (by decide : (-1 : Int32).toInt = -1)
/-- the trial is a copy of now -/
theorem q_trial (G : Gc P F A) : ok (e_State_copy P F A J 33 2) (fun r => r.2.1 = P ∧ QKc P r.2.1 F r.2.2.1 A r.2.2.2.1 ∧ LVc r.2.2.2.1 (P 0 8) 33 ∧ (∀ k, r.2.2.1 32 k = F 32 k)) := by
  refine ok_mono (s_copy (by decide) (by decide) G.1) ?_
  rintro ⟨u, P2, F2, A2, J2⟩ ⟨g1, g2, g3, g4, g5⟩
  dsimp only at g1 g2 g3 g4 g5 ⊢
  subst g1
  have nl : P2 0 8 ≠ 33 := fun e => absurd G.k08 (by rw [e]; decide)
  refine ⟨rfl, ⟨fun _ _ _ => rfl, g4, ⟨fun q hq => ⟨fun k => g2 q k (by omega), fun o _ => g3 q o (by omega)⟩, fun r _ _ h => g3 r 3 h, fun k => g2 4 k (by decide), g2 0 10 (by decide), fun k => g2 1 k (by decide)⟩⟩, fun m m0 m1 => ?_, fun k => g2 32 k (by decide)⟩
  rw [g5 m m0 m1]
  exact (G.2.2.2.2.1 m m0 m1).cg (g3 _ 5 nl)
theorem q_goTill {n : Nat} {x1 : Int32} (G : Gc P F A) (L : LVc A (P 0 8) 33) (h1 : x1.toInt ≤ 600) (hn : 1400 ≤ n) : ok (e_Sleep_goTill n P F A J x1 (P 32 4) 33) (fun r => QKc P r.2.1 F r.2.2.1 A r.2.2.2.1 ∧ (∀ k, r.2.2.1 32 k = F 32 k)) := by
  rw [G.2.2.1]
  refine ok_mono (s_goTill G.k08 (by decide) G.1 G.2.2.2.1 L h1 hn) ?_
  rintro ⟨u, P2, F2, A2, J2⟩ ⟨o1, g1, g2, g3, g4, g5⟩
  dsimp only at o1 g1 g2 g3 g4 g5 ⊢
  have n33 : ∀ r, r = 27 ∨ r = 28 → r ≠ 36 ∧ r ≠ 33 := fun r h => by omega
  refine ⟨⟨o1, g2, ⟨fun q hq => ⟨fun k => g4 q k (fun e => (n33 q hq).1 e.1), fun o ho => g3 q o (n33 q hq).1 (n33 q hq).2 (fun _ => ho)⟩, fun r a b c => g3 r 3 (k2ne a) c (fun e => absurd e.symm (k62 G.k08 a)), fun k => g4 4 k (by simp), g4 0 10 (by simp), fun k => g4 1 k (by simp)⟩⟩, fun k => g4 32 k (by simp)⟩
theorem q_gainOfTrial {n : Nat} (G : Gc P F A) (L : LVc A (P 0 8) 33) (hn : 1400 ≤ n) : ok (e_Evening_gainOfTrial n P F A J) (fun r => QKc P r.2.1 F r.2.2.1 A r.2.2.2.1) := by
  have hm := G.2.2.2.1.2.2.2.2.2
  unfold e_Evening_gainOfTrial
  refine ok_chk G.k324 ?_
  refine ok_chk G.k324 ?_
  refine ok_call (q_goTill G L (by rw [G.2.2.1]; exact hm.2) hn) ?_
  rintro ⟨u, P2, F2, A2, J2⟩ ⟨q, -⟩
  dsimp only at q ⊢
  have G2 := q.g G
  refine ok_chk G2.k324 ?_
  refine ok_call (s_worthOfAll G2.k324 G2.1 (by omega)) ?_
  intro v _
  exact ok_some q
theorem q_stale (G : Gc P F A) : ok (e_Evening_setStale P F A J) (fun r => r.2.1 = P ∧ r.2.2.2.1 = A ∧ QKc P r.2.1 F r.2.2.1 A r.2.2.2.1) := by
  unfold e_Evening_setStale
  refine ok_cpf ?_
  intro F2 U2
  exact ok_some ⟨rfl, rfl, (QKc.rfl' G.1).pf U2 trivial (by decide)⟩
theorem q_offer {x1 x2 x3 : Int32} (G : Gc P F A) : ok (e_Evening_offer P F A J x1 x2 x3) (fun r => QKc P r.2.1 F r.2.2.1 A r.2.2.2.1) := by
  unfold e_Evening_offer
  refine ok_cond (fun _ => ok_some (QKc.rfl' G.1)) (fun _ => ?_)
  refine ok_cpf ?_
  intro F2 U2
  refine ok_cpf ?_
  intro F3 U3
  refine ok_cpf ?_
  intro F4 U4
  exact ok_some ((((QKc.rfl' G.1).pf U2 trivial (by decide)).pf U3 trivial (by decide)).pf U4 trivial (by decide))
theorem q_isAnswered {n : Nat} {x1 x2 x3 : Int32} (G : Gc P F A) (hn : 60 ≤ n) : ok (e_Evening_isAnswered n P F A J x1 x2 x3) (fun r => QKc P r.2.1 F r.2.2.1 A r.2.2.2.1) := by
  have f26 : ok (e_Evening_isAnswered_26 n P F A J x1 x2 x3) (fun r => QKc P r.2.1 F r.2.2.1 A r.2.2.2.1) := by
    unfold e_Evening_isAnswered_26
    refine ok_cpf ?_
    intro F2 U2
    refine ok_cpf ?_
    intro F3 U3
    refine ok_cpf ?_
    intro F4 U4
    have q4 : QKc P P F F4 A A := (((QKc.rfl' G.1).pf U2 trivial (by decide)).pf U3 trivial (by decide)).pf U4 trivial (by decide)
    refine ok_chk G.k324 ?_
    refine ok_call (s_worthOfAll G.k324 q4.2.1 hn) ?_
    intro v _
    refine ok_cpf ?_
    intro F5 U5
    refine ok_cpf ?_
    intro F6 U6
    exact ok_some ((q4.pf U5 trivial (by decide)).pf U6 trivial (by decide))
  unfold e_Evening_isAnswered
  exact ok_cond (fun _ => f26) (fun _ => ok_cond (fun _ => f26) (fun _ => ok_cond (fun _ => f26) (fun _ => ok_some (QKc.rfl' G.1))))
/-- what a man leaves in the trial -/
theorem LVc.put {h q : Nat} {i v : Int} (L : LVc A h q) (U : CUm A A' q 3 i v) (hh : h ≠ q) (hv : LVx A h v) : LVc A' h q := fun m m0 m1 => by
  have e5 : A' h 5 = A h 5 := U.2.2 h 5 (fun e => hh e.1)
  by_cases e : m = i
  · subst e; rw [U.1]; exact hv.cg e5
  · rw [U.2.1 m m0 e]; exact (L m m0 m1).cg e5
theorem Gc.n33 (G : Gc P F A) : P 0 8 ≠ 33 := fun e => absurd G.k08 (by rw [e]; decide)
theorem tf33 : tf 33 3 := ⟨fun h => absurd h (by decide), fun _ => .inr (.inr rfl)⟩
theorem tf33' : tf 33 4 := ⟨fun h => absurd h (by decide), fun _ => .inl (by decide)⟩
end T92
