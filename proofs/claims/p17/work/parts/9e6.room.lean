/-! sentences, side by side: what both sides hold of the house that is read -/
def rq (q : Nat) : Nat := if q = 0 then 11 else if q = 1 then 17 else if q = 2 then 19 else 29
def RHo (o : Int) (d : Nat) (F : Nat → Nat → Int32) (A : Nat → Nat → Nat → Int32) (J : Nat → Nat → Nat → Int64) (Fm : Nat → Int32) (Am : Nat → Nat → Int32) (Jm : Nat → Nat → Int64) : Prop := (0 ≤ (Fm 19).toInt) ∧ ((Fm 19).toInt ≤ 1) ∧ (∀ q, q < 4 → F d (cq q) = Am (rq q) (Fm 19).toInt.toNat) ∧ (F d 14 = Am 12 (Fm 19).toInt.toNat) ∧ (F 37 9 = Am 33 (Fm 19).toInt.toNat) ∧ (∀ k : Int, 0 ≤ k → k < (F d 16).toInt → ci A d 5 k = ai Am 22 (6 * (Fm 19).toInt + k)) ∧ (NR d F J Fm Am Jm) ∧ ((Fm 12).toInt = o)
theorem RHo.s0 {o : Int} {d : Nat} {F : Nat → Nat → Int32} {A : Nat → Nat → Nat → Int32} {J : Nat → Nat → Nat → Int64} {Fm : Nat → Int32} {Am : Nat → Nat → Int32} {Jm : Nat → Nat → Int64} (h_ : RHo o d F A J Fm Am Jm) : 0 ≤ (Fm 19).toInt := h_.1
theorem RHo.s1 {o : Int} {d : Nat} {F : Nat → Nat → Int32} {A : Nat → Nat → Nat → Int32} {J : Nat → Nat → Nat → Int64} {Fm : Nat → Int32} {Am : Nat → Nat → Int32} {Jm : Nat → Nat → Int64} (h_ : RHo o d F A J Fm Am Jm) : (Fm 19).toInt ≤ 1 := h_.2.1
theorem RHo.cn {o : Int} {d : Nat} {F : Nat → Nat → Int32} {A : Nat → Nat → Nat → Int32} {J : Nat → Nat → Nat → Int64} {Fm : Nat → Int32} {Am : Nat → Nat → Int32} {Jm : Nat → Nat → Int64} (h_ : RHo o d F A J Fm Am Jm) : ∀ q, q < 4 → F d (cq q) = Am (rq q) (Fm 19).toInt.toNat := h_.2.2.1
theorem RHo.dr {o : Int} {d : Nat} {F : Nat → Nat → Int32} {A : Nat → Nat → Nat → Int32} {J : Nat → Nat → Nat → Int64} {Fm : Nat → Int32} {Am : Nat → Nat → Int32} {Jm : Nat → Nat → Int64} (h_ : RHo o d F A J Fm Am Jm) : F d 14 = Am 12 (Fm 19).toInt.toNat := h_.2.2.2.1
theorem RHo.lw {o : Int} {d : Nat} {F : Nat → Nat → Int32} {A : Nat → Nat → Nat → Int32} {J : Nat → Nat → Nat → Int64} {Fm : Nat → Int32} {Am : Nat → Nat → Int32} {Jm : Nat → Nat → Int64} (h_ : RHo o d F A J Fm Am Jm) : F 37 9 = Am 33 (Fm 19).toInt.toNat := h_.2.2.2.2.1
theorem RHo.sc {o : Int} {d : Nat} {F : Nat → Nat → Int32} {A : Nat → Nat → Nat → Int32} {J : Nat → Nat → Nat → Int64} {Fm : Nat → Int32} {Am : Nat → Nat → Int32} {Jm : Nat → Nat → Int64} (h_ : RHo o d F A J Fm Am Jm) : ∀ k : Int, 0 ≤ k → k < (F d 16).toInt → ci A d 5 k = ai Am 22 (6 * (Fm 19).toInt + k) := h_.2.2.2.2.2.1
theorem RHo.nr {o : Int} {d : Nat} {F : Nat → Nat → Int32} {A : Nat → Nat → Nat → Int32} {J : Nat → Nat → Nat → Int64} {Fm : Nat → Int32} {Am : Nat → Nat → Int32} {Jm : Nat → Nat → Int64} (h_ : RHo o d F A J Fm Am Jm) : NR d F J Fm Am Jm := h_.2.2.2.2.2.2.1
theorem RHo.op {o : Int} {d : Nat} {F : Nat → Nat → Int32} {A : Nat → Nat → Nat → Int32} {J : Nat → Nat → Nat → Int64} {Fm : Nat → Int32} {Am : Nat → Nat → Int32} {Jm : Nat → Nat → Int64} (h_ : RHo o d F A J Fm Am Jm) : (Fm 12).toInt = o := h_.2.2.2.2.2.2.2
abbrev RH (d : Nat) (F : Nat → Nat → Int32) (A : Nat → Nat → Nat → Int32) (J : Nat → Nat → Nat → Int64) (Fm : Nat → Int32) (Am : Nat → Nat → Int32) (Jm : Nat → Nat → Int64) : Prop := RHo 0 d F A J Fm Am Jm
section A6
variable {T : TS} {d n m q : Nat} {P : Nat → Nat → Nat} {F F' : Nat → Nat → Int32} {A A' : Nat → Nat → Nat → Int32} {J J' : Nat → Nat → Nat → Int64} {Fm Fm' : Nat → Int32} {Am Am' : Nat → Nat → Int32} {Jm Jm' : Nat → Nat → Int64} {k k' x2 : Int32} {γ δ : Type} {Q : γ → δ → Prop}
theorem cq_lt (hq : q < 4) : 13 ≤ cq q ∧ cq q ≤ 17 ∧ cq q ≠ 14 := by unfold cq; split <;> omega
theorem rq_in (q : Nat) : rq q = 11 ∨ rq q = 17 ∨ rq q = 19 ∨ rq q = 29 := by
  unfold rq
  split
  · omega
  · split
    · omega
    · split <;> omega
theorem RHo.fr {o : Int} (H : RHo o d F A J Fm Am Jm) (hF : ∀ k, 13 ≤ k → k ≤ 17 → F' d k = F d k) (h9 : F' 37 9 = F 37 9) (h5 : A' d 5 = A d 5) (hJ : ∀ q, q < 4 → J' 37 (7 + q) = J 37 (7 + q)) (e19 : Fm' 19 = Fm 19) (e20 : Fm' 20 = Fm 20) (e12 : Fm' 12 = Fm 12) (hA : ∀ q, q = 9 ∨ q = 10 ∨ q = 11 ∨ q = 12 ∨ q = 17 ∨ q = 19 ∨ q = 22 ∨ q = 29 ∨ q = 33 → Am' q = Am q) (h8 : Jm' 8 = Jm 8) : RHo o d F' A' J' Fm' Am' Jm' := by
  refine ⟨by rw [e19]; exact H.s0, by rw [e19]; exact H.s1, ?_, ?_, ?_, ?_, ?_, by rw [e12]; exact H.op⟩
  · intro q hq
    rw [hF _ (cq_lt hq).1 (cq_lt hq).2.1, e19, hA (rq q) (by have := rq_in q; omega)]
    exact H.cn q hq
  · rw [hF 14 (by decide) (by decide), e19, hA 12 (by omega)]; exact H.dr
  · rw [h9, e19, hA 33 (by omega)]; exact H.lw
  · rw [hF 16 (by decide) (by decide), e19, ci_fr h5, ai_fr (hA 22 (by omega))]; exact H.sc
  · exact H.nr.fr (fun q hq => hF _ (cq_lt hq).1 (cq_lt hq).2.1) hJ e20 (hA 9 (by omega)) (hA 10 (by omega)) h8
/-- small steps leave it as it is -/
theorem RHo.v {o : Int} (H : RHo o d F A J Fm Am Jm) (hd : d ≠ 37) (fc : FrC F F') (fm : FrM Fm Fm') : RHo o d F' A J Fm' Am Jm :=
  H.fr (fun k _ _ => fc d k (fun e => hd e.1)) (fc 37 9 (by decide)) rfl (fun _ _ => rfl) (fm 19 (by decide) (by decide) (by decide) (by decide) (by decide)) (fm 20 (by decide) (by decide) (by decide) (by decide) (by decide)) (fm 12 (by decide) (by decide) (by decide) (by decide) (by decide)) (fun _ _ => rfl) rfl
theorem RHo.a {o : Int} (H : RHo o d F A J Fm Am Jm) (hA : ∀ q, q = 9 ∨ q = 10 ∨ q = 11 ∨ q = 12 ∨ q = 17 ∨ q = 19 ∨ q = 22 ∨ q = 29 ∨ q = 33 → Am' q = Am q) : RHo o d F A J Fm Am' Jm :=
  H.fr (fun _ _ _ => rfl) rfl rfl (fun _ _ => rfl) rfl rfl rfl hA rfl
theorem RX.fr (X : RX T A J Am Jm) (h2 : A' 37 2 = A 37 2) (h3 : A' 37 3 = A 37 3) (h4 : A' 37 4 = A 37 4) (h5 : J' 37 5 = J 37 5) (h6 : J' 37 6 = J 37 6) (m3 : Am' 3 = Am 3) (m4 : Am' 4 = Am 4) (m5 : Am' 5 = Am 5) (k6 : Jm' 6 = Jm 6) (k7 : Jm' 7 = Jm 7) : RX T A' J' Am' Jm' :=
  ⟨h2.trans X.a2, h3.trans X.a3, h4.trans X.a4, h5.trans X.j5, h6.trans X.j6, m3.trans X.m3, m4.trans X.m4, m5.trans X.m5, k6.trans X.k6, k7.trans X.k7⟩
theorem RX.a (X : RX T A J Am Jm) (hA : ∀ q, q = 3 ∨ q = 4 ∨ q = 5 → Am' q = Am q) : RX T A J Am' Jm := X.fr rfl rfl rfl rfl rfl (hA 3 (by omega)) (hA 4 (by omega)) (hA 5 (by omega)) rfl rfl
theorem RX.ca (X : RX T A J Am Jm) (hA : ∀ o, A' 37 o = A 37 o) : RX T A' J Am Jm := X.fr (hA 2) (hA 3) (hA 4) rfl rfl rfl rfl rfl rfl rfl
theorem RX.j (X : RX T A J Am Jm) {c : Int} {x : Int64} (U : JUm q J J' c x) : RX T A J' Am Jm := X.fr rfl rfl rfl (U.2.2 37 5 (by omega)) (U.2.2 37 6 (by omega)) rfl rfl rfl rfl rfl
theorem NR.j (N : NR d F J Fm Am Jm) {x : Int64} (U : JUm q J J' (F d (cq q)).toInt x) : NR d F J' Fm Am Jm := by
  refine ⟨N.n0, N.bd, fun k hk => ?_, N.nb, N.nc⟩
  obtain ⟨q', hq, h9, h0, h1, tn⟩ := N.na k hk
  refine ⟨q', hq, h9, h0, h1, ?_⟩
  by_cases e : q' = q
  · subst e
    rw [U.2.1 _ h0 (by omega)]
    exact tn
  · rw [U.2.2 37 (7 + q') (by omega)]
    exact tn
theorem RHo.j {o : Int} (H : RHo o d F A J Fm Am Jm) {x : Int64} (U : JUm q J J' (F d (cq q)).toInt x) : RHo o d F A J' Fm Am Jm :=
  ⟨H.s0, H.s1, H.cn, H.dr, H.lw, H.sc, H.nr.j U, H.op⟩
/-- a new name is known to both -/
theorem NR.add (N : NR d F J Fm Am Jm) (hq : q < 4) {x y : Int64} (hx : J 37 (7 + q) (F d (cq q)).toInt.toNat = x) (tn : TNi x.toInt y.toInt) (hl : (F d (cq q)).toInt < (ql q : Int)) (f1 : (F' d (cq q)).toInt = (F d (cq q)).toInt + 1) (f2 : ∀ q', q' < 4 → q' ≠ q → F' d (cq q') = F d (cq q')) (m20 : (Fm' 20).toInt = (Fm 20).toInt + 1) (m9 : ai Am' 9 (Fm 20).toInt = q) (m9o : ∀ j, 0 ≤ j → j ≠ (Fm 20).toInt → ai Am' 9 j = ai Am 9 j) (m10 : ai Am' 10 (Fm 20).toInt = (F d (cq q)).toInt) (m10o : ∀ j, 0 ≤ j → j ≠ (Fm 20).toInt → ai Am' 10 j = ai Am 10 j) (m8 : Jm' 8 (Fm 20).toInt.toNat = y) (m8o : ∀ j : Int, 0 ≤ j → j ≠ (Fm 20).toInt → Jm' 8 j.toNat = Jm 8 j.toNat) : NR d F' J Fm' Am' Jm' := by
  have n0 := N.n0
  have c0 := N.bd q hq
  have o9 : ∀ k : Nat, (k : Int) < (Fm 20).toInt → (Am' 9 k).toInt = (Am 9 k).toInt := fun k hk => m9o (k : Int) (by omega) (by omega)
  have o10 : ∀ k : Nat, (k : Int) < (Fm 20).toInt → (Am' 10 k).toInt = (Am 10 k).toInt := fun k hk => m10o (k : Int) (by omega) (by omega)
  have o8 : ∀ k : Nat, (k : Int) < (Fm 20).toInt → Jm' 8 k = Jm 8 k := fun k hk => m8o (k : Int) (by omega) (by omega)
  have w9 : ∀ k : Nat, (k : Int) = (Fm 20).toInt → (Am' 9 k).toInt = q := fun k hk => by
    have e : k = (Fm 20).toInt.toNat := by omega
    rw [e]; exact m9
  have w10 : ∀ k : Nat, (k : Int) = (Fm 20).toInt → (Am' 10 k).toInt = (F d (cq q)).toInt := fun k hk => by
    have e : k = (Fm 20).toInt.toNat := by omega
    rw [e]; exact m10
  have ff : ∀ q', q' < 4 → (F d (cq q')).toInt ≤ (F' d (cq q')).toInt := fun q' hq' => by
    by_cases e : q' = q
    · subst e; omega
    · rw [f2 q' hq' e]; omega
  refine ⟨by omega, fun q' hq' => ?_, fun k hk => ?_, fun q' hq' i i0 i1 => ?_, fun k k' hkk hk he => ?_⟩
  · by_cases e : q' = q
    · subst e; omega
    · rw [f2 q' hq' e]; exact N.bd q' hq'
  · by_cases e : (k : Int) < (Fm 20).toInt
    · obtain ⟨q', hq', h9, h0, h1, t⟩ := N.na k e
      have := ff q' hq'
      exact ⟨q', hq', by rw [o9 k e]; exact h9, by rw [o10 k e]; exact h0, by rw [o10 k e]; omega, by rw [o10 k e, o8 k e]; exact t⟩
    · have e' : (k : Int) = (Fm 20).toInt := by omega
      refine ⟨q, hq, w9 k e', by rw [w10 k e']; omega, by rw [w10 k e']; omega, ?_⟩
      have e2 : k = (Fm 20).toInt.toNat := by omega
      rw [w10 k e', hx, e2, m8]
      exact tn
  · by_cases e : q' = q ∧ i = (F d (cq q)).toInt
    · obtain ⟨rfl, rfl⟩ := e
      exact ⟨(Fm 20).toInt.toNat, by omega, m9, m10⟩
    · have i2 : i < (F d (cq q')).toInt := by
        by_cases e1 : q' = q
        · subst e1
          have : i ≠ (F d (cq q')).toInt := fun h => e ⟨rfl, h⟩
          omega
        · rw [f2 q' hq' e1] at i1; exact i1
      obtain ⟨k, k1, k2, k3⟩ := N.nb q' hq' i i0 i2
      exact ⟨k, by omega, by rw [o9 k k1]; exact k2, by rw [o10 k k1]; exact k3⟩
  · by_cases e : (k' : Int) < (Fm 20).toInt
    · rw [o10 k (by omega), o10 k' e]
      rw [o9 k (by omega), o9 k' e] at he
      exact N.nc k k' hkk e he
    · have e' : (k' : Int) = (Fm 20).toInt := by omega
      rw [w9 k' e', o9 k (by omega)] at he
      rw [w10 k' e', o10 k (by omega)]
      obtain ⟨q', hq', h9, h0, h1, t⟩ := N.na k (by omega)
      have : q' = q := by omega
      subst this
      exact h1
/-- the reference notes a name -/
theorem g_notes {x1 x2 x3 : Int32} {r} (h : d_notes Fm Am Jm x1 x2 x3 = some r) : ∃ Fm' Am' Jm', r = ((), Fm', Am', Jm') ∧ 0 ≤ x1.toInt ∧ 0 ≤ (Fm 20).toInt ∧ (Fm 20).toInt < 32 ∧ Fm' 20 = Fm 20 + 1 ∧ (∀ q, q ≠ 20 → Fm' q = Fm q) ∧ (∀ q, q ≠ 9 → q ≠ 10 → Am' q = Am q) ∧ ai Am' 9 (Fm 20).toInt = x2.toInt ∧ (∀ j, 0 ≤ j → j ≠ (Fm 20).toInt → ai Am' 9 j = ai Am 9 j) ∧ ai Am' 10 (Fm 20).toInt = x3.toInt ∧ (∀ j, 0 ≤ j → j ≠ (Fm 20).toInt → ai Am' 10 j = ai Am 10 j) ∧ Jm' 8 (Fm 20).toInt.toNat = Jm 6 x1.toInt.toNat ∧ (∀ j : Int, 0 ≤ j → j ≠ (Fm 20).toInt → Jm' 8 j.toNat = Jm 8 j.toNat) ∧ (∀ q, q ≠ 8 → Jm' q = Jm q) := by
  unfold d_notes at h
  obtain ⟨v, e1, h⟩ := Option.bind_eq_some_iff.mp h
  obtain ⟨J2, e2, h⟩ := Option.bind_eq_some_iff.mp h
  obtain ⟨A3, e3, h⟩ := Option.bind_eq_some_iff.mp h
  obtain ⟨A4, e4, h⟩ := Option.bind_eq_some_iff.mp h
  obtain ⟨F5, e5, h⟩ := Option.bind_eq_some_iff.mp h
  cases h
  have a1 := gg_ldJ e1
  have a2 := gg_stJ e2
  have a3 := gg_st e3
  have a4 := gg_st e4
  have a5 := gg_pf e5
  refine ⟨F5, A4, J2, rfl, a1.1, a2.1, a2.2.1, a5.1, a5.2, fun q h9 h10 => by rw [a4.2.2.1 q h10, a3.2.2.1 q h9], ?_, fun j hj hn => ?_, a4.2.2.2.1, fun j hj hn => ?_, by rw [a2.2.2.2.1, a1.2.2], a2.2.2.2.2, a2.2.2.1⟩
  · rw [ai_fr (a4.2.2.1 9 (by decide))]; exact a3.2.2.2.1
  · rw [ai_fr (a4.2.2.1 9 (by decide))]; exact a3.2.2.2.2 j hj hn
  · rw [a4.2.2.2.2 j hj hn, ai_fr (a3.2.2.1 10 (by decide))]
/-- takeFirst beside roomFor -/
theorem p2_first {f} {g} {x most : Int32} (K : TKs T) (R : RT T F Fm) (X : RX T A J Am Jm) (hk : KR k.toInt k'.toInt) (hl : k'.toInt ≠ 0 ∧ k'.toInt ≠ 3) (hm : (Am 3 (Fm 11).toInt.toNat).toInt = k'.toInt) (hx : x.toInt ≤ most.toInt) (ks : ∀ F' Fm', RU T F F' Fm Fm' → x.toInt < most.toInt → P2 (f ((), P, F', A, J)) (g ((), Fm', Am, Jm)) Q) (kf : ∀ F' Fm', FrC F F' → FrM Fm Fm' → FE F' Fm' → P2 (f ((), P, F', A, J)) (g ((), Fm', Am, Jm)) Q) : P2 (α := γ) (β := δ) ((e_Reader_takeFirst P F A J k x most).bind f) ((d_roomFor Fm Am Jm x most).bind g) Q := by
  have t0 := R.t0
  have t1 := R.t1
  have tk := R.tk
  unfold e_Reader_takeFirst d_roomFor
  by_cases c : x.toInt < most.toInt
  · rw [i_lt.mpr c, cond_true, i_ne.mpr (by omega), cond_true]
    unfold e_Reader_takeFirst_22 d_roomFor_10
    rw [i_nne.mpr (by rw [R.g0]; rfl), cond_false, Option.bind_assoc, Option.bind_assoc]
    exact p2_goes K R X hk hl hm (fun F' Fm' U => ks F' Fm' U c) kf
  · rw [i_nlt.mpr (by omega), cond_false, i_nne.mpr (by omega), cond_false]
    obtain ⟨F', e, h1, h2⟩ := e_fail_0 (P := P) (F := F) (A := A) (J := J) (k := 2) (v := A 37 3 (F 37 7).toInt.toNat) R.f0
    obtain ⟨Fm', e', h1', h2', _⟩ := d_fail_0 (F := Fm) (A := Am) (J := Jm) (k := 2) R.g0 t0 t1
    rw [m_ld_in (by rw [tk]; exact t0) (by rw [tk]; omega), Option.bind_some, e, Option.bind_some, e', Option.bind_some]
    dsimp only
    rw [e_take_ff (by rw [h1]; decide), Option.bind_some, i_ne.mpr (by rw [h1']; decide), cond_true, Option.bind_some]
    dsimp only
    rw [Option.bind_some]
    exact kf F' Fm' h2 h2' ⟨by rw [h1, h1'], by rw [h1']; decide⟩
/-- what a sentence leaves, on both sides -/
def RS (T : TS) (d : Nat) (P : Nat → Nat → Nat) (a : Unit × (Nat → Nat → Nat) × (Nat → Nat → Int32) × (Nat → Nat → Nat → Int32) × (Nat → Nat → Nat → Int64)) (b : Unit × (Nat → Int32) × (Nat → Nat → Int32) × (Nat → Nat → Int64)) : Prop := FE a.2.2.1 b.2.1 ∨ (RT T a.2.2.1 b.2.1 ∧ RX T a.2.2.2.1 a.2.2.2.2 b.2.2.1 b.2.2.2 ∧ RH d a.2.2.1 a.2.2.2.1 a.2.2.2.2 b.2.1 b.2.2.1 b.2.2.2 ∧ RW d a.2.2.1 a.2.2.2.1 b.2.1 b.2.2.1)
theorem FE.c {F : Nat → Nat → Int32} {Fm : Nat → Int32} (E : FE F Fm) : (F 37 10).toInt ≠ 0 := by
  rw [E.1]
  have := E.2
  omega
theorem FE.gg {F : Nat → Nat → Int32} {Fm : Nat → Int32} (E : FE F Fm) : 0 < (Fm 13).toInt := E.2
theorem FE.nz {F : Nat → Nat → Int32} {Fm : Nat → Int32} (E : FE F Fm) : g_cnd .ne (Fm 13) 0 = true := i_ne.mpr (by rw [i_0]; have := E.2; omega)
theorem FE.le {F : Nat → Nat → Int32} {Fm : Nat → Int32} (E : FE F Fm) : g_cnd .le (Fm 13) 0 = false := i_nle.mpr (by rw [i_0]; exact E.2)
theorem FE.gt {F : Nat → Nat → Int32} {Fm : Nat → Int32} (E : FE F Fm) : g_cnd .gt (Fm 13) 0 = true := i_gt.mpr (by rw [i_0]; exact E.2)
theorem chk_in (h5 : P 37 5 = d) (hk : c_kind d = 6) : c_chk 6 (P 37 5) = some d := by
  unfold c_chk
  rw [h5, if_pos hk]
theorem cz_00 : g_cnd .eq (0 : Int32) 0 = true := rfl
theorem cz_10 : g_cnd .eq (1 : Int32) 0 = false := by decide
/-- both go on to their ends with the fault that they have -/
theorem p2_ff {x : Option (Unit × (Nat → Nat → Nat) × (Nat → Nat → Int32) × (Nat → Nat → Nat → Int32) × (Nat → Nat → Nat → Int64))} {z : Option (Unit × (Nat → Int32) × (Nat → Nat → Int32) × (Nat → Nat → Int64))} (E : FE F Fm) (h1 : po x (fun a => a.2.2.1 37 10 = F 37 10)) (h2 : po z (fun b => b.2.1 13 = Fm 13)) : P2 x z (RS T d P) :=
  p2_of h1 h2 (fun a b ha hb => .inl ⟨by rw [ha, hb]; exact E.1, by rw [hb]; exact E.2⟩)
theorem p2_eta {x : Option γ} {z : Option (Unit × (Nat → Int32) × (Nat → Nat → Int32) × (Nat → Nat → Int64))} {Q : γ → Unit × (Nat → Int32) × (Nat → Nat → Int32) × (Nat → Nat → Int64) → Prop} (h : P2 x z Q) : P2 x (z.bind fun (_, F10, A11, J12) => some ((), F10, A11, J12)) Q := by
  intro a b ha hb
  obtain ⟨⟨u, F1, A1, J1⟩, e, hb⟩ := Option.bind_eq_some_iff.mp hb
  cases hb
  exact h a _ ha e
theorem rq_inj : ∀ q, q < 4 → ∀ q', q' < 4 → q' ≠ q → rq q' ≠ rq q ∧ cq q' ≠ cq q := by decide
theorem rq_ne : ∀ q, q < 4 → rq q ≠ 9 ∧ rq q ≠ 10 ∧ rq q ≠ 12 ∧ rq q ≠ 22 ∧ rq q ≠ 33 ∧ rq q ≠ 3 ∧ rq q ≠ 4 ∧ rq q ≠ 5 := by decide
/-- something with a name has been told: one more of it -/
theorem q_tail {tok s : Int32} (hq : q < 4) (hs : s.toInt = q) (hd : d ≠ 37) (R : RT T F Fm) (X : RX T A J Am Jm) (H : RH d F A J Fm Am Jm) {x : Int64} (hx : J 37 (7 + q) (F d (cq q)).toInt.toNat = x) (tn : TNi x.toInt (T.jr tok.toInt.toNat).toInt) (hl : (F d (cq q)).toInt < (ql q : Int)) (hsc : q = 2 → ci A d 5 (F d 16).toInt = ai Am 22 (6 * (Fm 19).toInt + (F d 16).toInt)) (W : RWc (F d 14).toInt (nx q 1 (F d 15).toInt) (nx q 2 (F d 16).toInt) (nx q 3 (F d 17).toInt) d F A Fm Am) : P2 ((c_pf F d (cq q) (F d (cq q) + 1)).bind fun F4 => some ((), P, F4, A, J)) ((m_ld (Am (rq q)) 2 (Fm 19)).bind fun v10 => (d_notes Fm Am Jm tok s v10).bind fun (_, F12, A13, J14) => (m_ld (A13 (rq q)) 2 (F12 19)).bind fun v15 => (m_st A13 (rq q) 2 (F12 19) (v15 + 1)).bind fun A16 => some ((), F12, A16, J14)) (RS T d P) := by
  have l1 := i_1
  have bd := H.nr.bd q hq
  have lq : (ql q : Int) ≤ 8 := by unfold ql; split <;> decide
  have ne := rq_ne q hq
  refine p2_bl (fun F4 e4 => ?_)
  have U4 := gg_cpf e4
  refine p2_br (fun v10 e10 => ?_)
  have a10 := gg_ld e10
  refine p2_br (fun r hr => ?_)
  obtain ⟨Fm5, Am5, Jm5, rfl, z1, z2, z3, n20, no, na, n9, n9o, n10, n10o, n8, n8o, nj⟩ := g_notes hr
  dsimp only
  refine p2_br (fun v15 e15 => ?_)
  have a15 := gg_ld e15
  refine p2_br (fun Am6 e16 => ?_)
  have a16 := gg_st e16
  have e19 : Fm5 19 = Fm 19 := no 19 (by decide)
  have hcn := H.cn q hq
  have f1 : (F4 d (cq q)).toInt = (F d (cq q)).toInt + 1 := by rw [U4.1, i_add (by omega) (by omega), i_1]
  have v15e : v15 = F d (cq q) := by rw [a15.2.2, e19, na _ ne.1 ne.2.1, hcn]
  have v10e : v10 = F d (cq q) := by rw [a10.2.2, hcn]
  have m20 : (Fm5 20).toInt = (Fm 20).toInt + 1 := by rw [n20, i_add (by omega) (by omega), i_1]
  have k6 := X.k6
  have nxe : ∀ q', q' < 4 → (F4 d (cq q')).toInt = nx q q' (F d (cq q')).toInt := fun q' hq' => by
    unfold nx
    by_cases e : q = q'
    · subst e
      rw [if_pos rfl]
      exact f1
    · rw [if_neg e, U4.2 d (cq q') (fun h => (rq_inj q hq q' hq' (fun h => e h.symm)).2 h.2)]
  have rqv : rq q = 11 ∨ rq q = 17 ∨ rq q = 19 ∨ rq q = 29 := rq_in q
  have cqv := cq_lt hq
  refine p2_some (.inr ⟨?_, ?_, ?_, ?_⟩)
  · exact R.cg (fun k _ => U4.2 37 k (fun e => hd e.1.symm)) (fun q hq => no q (by omega))
  · have X6 : RX T A J Am6 Jm5 := X.fr rfl rfl rfl rfl rfl (by rw [a16.2.2.1 3 (by omega), na 3 (by decide) (by decide)]) (by rw [a16.2.2.1 4 (by omega), na 4 (by decide) (by decide)]) (by rw [a16.2.2.1 5 (by omega), na 5 (by decide) (by decide)]) (nj 6 (by decide)) (nj 7 (by decide))
    exact X6
  · refine ⟨by show 0 ≤ (Fm5 19).toInt; rw [e19]; exact H.s0, by show (Fm5 19).toInt ≤ 1; rw [e19]; exact H.s1, fun q' hq' => ?_, ?_, ?_, fun k k0 k1 => ?_, ?_, by show (Fm5 12).toInt = 0; rw [no 12 (by decide)]; exact H.op⟩
    · show F4 d (cq q') = Am6 (rq q') (Fm5 19).toInt.toNat
      by_cases e : q' = q
      · subst e
        refine i_ext ?_
        have w : ai Am6 (rq q') (Fm5 19).toInt = (v15 + 1).toInt := a16.2.2.2.1
        have w' : (Am6 (rq q') (Fm5 19).toInt.toNat).toInt = (v15 + 1).toInt := w
        rw [w', v15e, U4.1]
      · have i := rq_inj q hq q' hq' e
        rw [U4.2 d (cq q') (fun h => i.2 h.2), a16.2.2.1 _ i.1, e19, na _ (rq_ne q' hq').1 (rq_ne q' hq').2.1]
        exact H.cn q' hq'
    · show F4 d 14 = Am6 12 (Fm5 19).toInt.toNat
      rw [U4.2 d 14 (fun h => (cq_lt hq).2.2 h.2.symm), a16.2.2.1 12 (by omega), na 12 (by decide) (by decide), e19]
      exact H.dr
    · show F4 37 9 = Am6 33 (Fm5 19).toInt.toNat
      rw [U4.2 37 9 (fun h => hd h.1.symm), a16.2.2.1 33 (by omega), na 33 (by decide) (by decide), e19]
      exact H.lw
    · show ci A d 5 k = ai Am6 22 (6 * (Fm5 19).toInt + k)
      rw [e19, ai_fr (a16.2.2.1 22 (by omega)), ai_fr (na 22 (by decide) (by decide))]
      have k1 : k < (F4 d 16).toInt := k1
      by_cases e : q = 2
      · subst e
        have f1 : (F4 d 16).toInt = (F d 16).toInt + 1 := f1
        by_cases e2 : k = (F d 16).toInt
        · rw [e2]; exact hsc rfl
        · exact H.sc k k0 (by omega)
      · have i := rq_inj q hq 2 (by decide) (fun h => e h.symm)
        rw [U4.2 d 16 (fun h => i.2 h.2)] at k1
        exact H.sc k k0 k1
    · show NR d F4 J Fm5 Am6 Jm5
      refine (H.nr.add hq hx tn hl f1 (fun q' hq' e => U4.2 d (cq q') (fun h => (rq_inj q hq q' hq' e).2 h.2)) m20 ?_ ?_ ?_ ?_ ?_ n8o)
      · rw [ai_fr (a16.2.2.1 9 (by omega)), n9, hs]
      · intro j hj hn; rw [ai_fr (a16.2.2.1 9 (by omega))]; exact n9o j hj hn
      · rw [ai_fr (a16.2.2.1 10 (by omega)), n10, v10e]
      · intro j hj hn; rw [ai_fr (a16.2.2.1 10 (by omega))]; exact n10o j hj hn
      · rw [n8, k6]
  · show RWc (F4 d 14).toInt (F4 d 15).toInt (F4 d 16).toInt (F4 d 17).toInt d F4 A Fm5 Am6
    rw [show (F4 d 15).toInt = _ from nxe 1 (by decide), show (F4 d 16).toInt = _ from nxe 2 (by decide), show (F4 d 17).toInt = _ from nxe 3 (by decide), U4.2 d 14 (fun h => cqv.2.2 h.2.symm)]
    exact W.fr H.s0 (U4.2 3 7 (by omega)) (U4.2 3 8 (by omega)) (U4.2 d 18 (by omega)) (fun _ => rfl) (fun _ _ _ => rfl) e19 (fun q h1 h2 h3 h4 h5 h6 h7 => by rw [a16.2.2.1 q (by omega), na q (by omega) (by omega)])
theorem RHo.ix6 {o : Int} {v : Int32} (H : RHo o d F A J Fm Am Jm) (h0 : 0 ≤ v.toInt) (h1 : v.toInt ≤ 12) : (6 * Fm 19 + v).toInt = 6 * (Fm 19).toInt + v.toInt := by
  have s0 := H.s0
  have s1 := H.s1
  have em := i_mulL (c := 6) (k := 6) (x := Fm 19) (by decide) (by omega) (by omega)
  rw [i_add (by omega) (by omega), em]
theorem RHo.ix12 {o : Int} {v : Int32} (H : RHo o d F A J Fm Am Jm) (h0 : 0 ≤ v.toInt) (h1 : v.toInt ≤ 12) : (12 * Fm 19 + v).toInt = 12 * (Fm 19).toInt + v.toInt := by
  have s0 := H.s0
  have s1 := H.s1
  have em := i_mulL (c := 12) (k := 12) (x := Fm 19) (by decide) (by omega) (by omega)
  rw [i_add (by omega) (by omega), em]
/-- a room is told -/
theorem q_room (K : TKs T) (R : RT T F Fm) (X : RX T A J Am Jm) (H : RH d F A J Fm Am Jm) (W : RW d F A Fm Am) (h5 : P 37 5 = d) (hk : c_kind d = 6) (hm : (Am 3 (Fm 11).toInt.toNat).toInt = (20 : Int32).toInt) : P2 (e_Reader_readRoom n P F A J) ((d_roomFor Fm Am Jm (Am 11 (Fm 19).toInt.toNat) 8).bind fun (_, F5, A6, J7) => cond (g_cnd .ne (F5 13) 0) (some ((), F5, A6, J7)) ((d_tellRoom m F5 A6 J7).bind fun (_, F10, A11, J12) => some ((), F10, A11, J12))) (RS T d P) := by
  have hd := kd37 hk
  have hc := chk_in h5 hk
  have l8 : (8 : Int32).toInt = 8 := by decide
  have bd : 0 ≤ (F d 13).toInt ∧ (F d 13).toInt ≤ 8 := H.nr.bd 0 (by decide)
  have rm : F d 13 = Am 11 (Fm 19).toInt.toNat := H.cn 0 (by decide)
  unfold e_Reader_readRoom
  rw [hc, Option.bind_some, ← rm]
  refine p2_first (k' := 20) K R X (by decide) (by decide) hm (by omega) (fun F1 Fm1 U1 hx => ?_) (fun F1 Fm1 fc fm E => ?_)
  · have R1 := U1.rt
    have H1 := H.v hd U1.c U1.m
    have e13 : F1 d 13 = F d 13 := U1.c d 13 (fun e => hd e.1)
    dsimp only
    rw [hc, Option.bind_some, i_nne.mpr (by rw [R1.g0]; rfl), cond_false, new_0]
    refine p2_eta ?_
    unfold d_tellRoom
    refine p2_new (q := 0) (by decide) h5 (show (F1 d 13).toInt < 8 by rw [e13]; omega) K R1 X H1.nr (fun F2 J2 Fm2 V2 tn ju => ?_) (fun F2 Fm2 fc fm E => ?_)
    · have X2 := X.j ju
      have H2 := (H1.j ju).v hd V2.fc V2.fm
      have c2 : F2 d 13 = F1 d 13 := V2.fc d 13 (fun e => hd e.1)
      dsimp only
      refine p2_take K V2.rt X2 (by decide) (by decide) (fun F3 Fm3 U3 _ => ?_) (fun F3 Fm3 fc fm E _ => ?_)
      · have H3 := H2.v hd U3.c U3.m
        have c3 : F3 d 13 = F1 d 13 := (U3.c d 13 (fun e => hd e.1)).trans c2
        dsimp only
        rw [cz_10, cond_false, hc, Option.bind_some, i_le.mpr (by rw [U3.rt.g0, i_0]; decide), cond_true]
        exact q_tail (q := 0) (by decide) (by decide) hd U3.rt X2 H3 (show J2 37 7 (F3 d 13).toInt.toNat = _ by rw [c3]; exact ju.1) tn (show (F3 d 13).toInt < 8 by rw [c3, e13]; omega) (fun h => absurd h (by decide)) (((W.v H.s0 hd U1.c U1.m).v H1.s0 hd V2.fc V2.fm).v H2.s0 hd U3.c U3.m)
      · refine p2_ff E ?_ ?_
        · (simp only [hc, new_0, new_1, new_2, new_3, known_0, known_1, known_2, known_3, gnew_ff E.c, gknown_ff E.c, e_num_ff E.c, e_take_ff E.c, e_next_ff E.c, Option.bind_some, cz_00, cond_true]; exact po_some rfl)
        · ((try dsimp only); repeat' (first | exact po_some rfl | rw [FE.nz E, cond_true] | rw [FE.le E, cond_false] | rw [FE.gt E, cond_true] | rw [d_must_ff (FE.gg E), Option.bind_some] | rw [d_known_ff (FE.gg E), Option.bind_some] | rw [d_num_ff (FE.gg E), Option.bind_some] | rw [d_is_ff (FE.gg E), Option.bind_some] | (refine po_call (d_named_ff (FE.gg E)) ?_; rintro _ rfl; try dsimp only) | refine po_cond (fun _ => ?_) (fun _ => ?_) | refine po_bl (fun _ _ => ?_)))
    · refine p2_ff E ?_ ?_
      · (simp only [hc, new_0, new_1, new_2, new_3, known_0, known_1, known_2, known_3, gnew_ff E.c, gknown_ff E.c, e_num_ff E.c, e_take_ff E.c, e_next_ff E.c, Option.bind_some, cz_00, cond_true]; exact po_some rfl)
      · ((try dsimp only); repeat' (first | exact po_some rfl | rw [FE.nz E, cond_true] | rw [FE.le E, cond_false] | rw [FE.gt E, cond_true] | rw [d_must_ff (FE.gg E), Option.bind_some] | rw [d_known_ff (FE.gg E), Option.bind_some] | rw [d_num_ff (FE.gg E), Option.bind_some] | rw [d_is_ff (FE.gg E), Option.bind_some] | (refine po_call (d_named_ff (FE.gg E)) ?_; rintro _ rfl; try dsimp only) | refine po_cond (fun _ => ?_) (fun _ => ?_) | refine po_bl (fun _ _ => ?_)))
  · refine p2_ff E ?_ ?_
    · (simp only [hc, new_0, new_1, new_2, new_3, known_0, known_1, known_2, known_3, gnew_ff E.c, gknown_ff E.c, e_num_ff E.c, e_take_ff E.c, e_next_ff E.c, Option.bind_some, cz_00, cond_true]; exact po_some rfl)
    · (dsimp only; rw [FE.nz E, cond_true]; exact po_some rfl)
end A6
