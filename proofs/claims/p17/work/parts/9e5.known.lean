/-! names, side by side -/
section A5
variable {T : TS} {d n m q : Nat} {P : Nat → Nat → Nat} {F F' : Nat → Nat → Int32} {A : Nat → Nat → Nat → Int32} {J : Nat → Nat → Nat → Int64} {Fm Fm' : Nat → Int32} {Am : Nat → Nat → Int32} {Jm : Nat → Nat → Int64} {k k' x2 : Int32} {γ δ : Type} {Q : γ → δ → Prop}
/-- the class's takeKnownName over any of its rows -/
def gknown (q n : Nat) (P : Nat → Nat → Nat) (F : Nat → Nat → Int32) (A : Nat → Nat → Nat → Int32) (J : Nat → Nat → Nat → Int64) (x2 : Int32) : Option (Int32 × (Nat → Nat → Nat) × (Nat → Nat → Int32) × (Nat → Nat → Nat → Int32) × (Nat → Nat → Nat → Int64)) :=
  (e_Reader_take P F A J 100).bind fun (v1, P2, F3, A4, J5) =>
  cond (g_cnd .ne v1 0)
  ((m_ldJ (J5 37 5) 401 (F3 37 8)).bind fun v7 =>
  (findq q n J5 v7 x2).bind fun v8 =>
  cond (g_cnd .ge v8 0)
  (some (v8, P2, F3, A4, J5))
  ((e_Reader_failLate P2 F3 A4 J5 4).bind fun (_, P11, F12, A13, J14) =>
  some (v8, P11, F12, A13, J14)))
  (some ((-1), P2, F3, A4, J5))
theorem known_0 : e_Reader_takeKnownName n P F A J x2 = gknown 0 n P F A J x2 := by
  unfold e_Reader_takeKnownName gknown
  simp only [find0_q]
theorem known_2 : e_Reader_takeKnownName_v1 n P F A J x2 = gknown 2 n P F A J x2 := by
  unfold e_Reader_takeKnownName_v1 gknown
  simp only [find2_q]
theorem known_1 : e_Reader_takeKnownName_v2 n P F A J x2 = gknown 1 n P F A J x2 := by
  unfold e_Reader_takeKnownName_v2 gknown
  simp only [find1_q]
theorem known_3 : e_Reader_takeKnownName_v3 n P F A J x2 = gknown 3 n P F A J x2 := by
  unfold e_Reader_takeKnownName_v3 gknown
  simp only [find3_q]
theorem gknown_ff (h : (F 37 10).toInt ≠ 0) : gknown q n P F A J x2 = some (-1, P, F, A, J) := by
  unfold gknown
  rw [e_take_ff h, Option.bind_some]
  dsimp only
  rw [i_nne.mpr rfl, cond_false]
theorem d_known_ff (h : 0 < (Fm 13).toInt) : d_known n Fm Am Jm k = some (-1, Fm, Am, Jm) := by
  unfold d_known
  rw [d_must_ff h, Option.bind_some]
  dsimp only
  rw [i_nle.mpr (by rw [i_0]; exact h), cond_false]
theorem d_named_ff (h : 0 < (Fm 13).toInt) : po (d_named n Fm Am Jm) (fun r => r = (Fm 11, Fm, Am, Jm)) := by
  unfold d_named
  rw [d_must_ff h, Option.bind_some]
  dsimp only
  cases n with
  | zero => intro r hr; cases hr
  | succ n =>
    unfold d_named_12
    refine po_cond (fun _ => po_some rfl) (fun _ => ?_)
    rw [i_ne.mpr (by rw [i_0]; omega), cond_true]
    exact po_some rfl
/-- what the class finds, the reference finds, and where it does -/
theorem NR.same (N : NR d F J Fm Am Jm) (hq : q < 4) {x : Int64} {y : Int64} (hxy : TNi x.toInt y.toInt) {v : Int32} (hf : FDq q J x (F d (cq q)).toInt v) : (0 ≤ v.toInt ∧ ∃ j : Nat, (j : Int) < (Fm 20).toInt ∧ Jm 8 j = y ∧ (Am 9 j).toInt = q ∧ Am 10 j = v ∧ (∀ i : Nat, (i : Int) < (Fm 20).toInt → Jm 8 i = y → (Am 9 i).toInt = q → j ≤ i)) ∨ (v = -1 ∧ ∀ j : Nat, (j : Int) < (Fm 20).toInt → ¬ (Jm 8 j = y ∧ (Am 9 j).toInt = q)) := by
  have key : ∀ i : Nat, (i : Int) < (Fm 20).toInt → (Am 9 i).toInt = q → 0 ≤ (Am 10 i).toInt ∧ (Am 10 i).toInt < (F d (cq q)).toInt ∧ (J 37 (7 + q) (Am 10 i).toInt.toNat = x ↔ Jm 8 i = y) := by
    intro i hi hs
    obtain ⟨q', hq', s, a0, a1, tn⟩ := N.na i hi
    have : q' = q := by omega
    subst this
    refine ⟨a0, a1, ?_⟩
    rw [← Int64.toInt_inj, ← Int64.toInt_inj]
    exact tn.iff hxy
  rcases hf with ⟨v0, v1, vx, vn⟩ | ⟨rfl, vn⟩
  · obtain ⟨j, j1, js, ja⟩ := N.nb q hq v.toInt v0 v1
    refine .inl ⟨v0, j, j1, ?_, js, i_ext ja, ?_⟩
    · exact (key j j1 js).2.2.mp (by rw [ja]; exact vx)
    · intro i hi hy hs
      refine Nat.le_of_not_lt fun hlt => ?_
      obtain ⟨a0, a1, e⟩ := key i hi hs
      have h1 := N.nc i j hlt j1 (by rw [hs, js])
      exact vn (Am 10 i).toInt a0 (by omega) (e.mpr hy)
  · refine .inr ⟨rfl, fun j hj h => ?_⟩
    obtain ⟨a0, a1, e⟩ := key j hj h.2
    exact vn _ a0 a1 (e.mpr h.1)
/-- takeKnownName beside known -/
theorem p2_known {f} {g} {s : Int32} (hq : q < 4) (hs : s.toInt = q) (K : TKs T) (R : RT T F Fm) (X : RX T A J Am Jm) (N : NR d F J Fm Am Jm) (ks : ∀ v F' Fm', RV T F F' Fm Fm' → findq q n J (T.jc (Fm 11).toInt.toNat) (F d (cq q)) = some v → (0 ≤ v.toInt ∧ v.toInt < (F d (cq q)).toInt ∧ RU T F F' Fm Fm' ∨ v = -1 ∧ (Fm' 15).toInt ≠ 0) → P2 (f (v, P, F', A, J)) (g (v, Fm', Am, Jm)) Q) (kf : ∀ F' Fm', FrC F F' → FrM Fm Fm' → FE F' Fm' → ((T.kr (Fm 11).toInt.toNat).toInt = 1 → (Fm' 13).toInt = 2) → P2 (f (-1, P, F', A, J)) (g (-1, Fm', Am, Jm)) Q) : P2 (α := γ) (β := δ) ((gknown q n P F A J (F d (cq q))).bind f) ((d_known m Fm Am Jm s).bind g) Q := by
  have t0 := R.t0
  have t1 := R.t1
  unfold gknown d_known
  rw [Option.bind_assoc, Option.bind_assoc]
  refine p2_take K R X (by decide) (by decide) (fun F' Fm' U hk => ?_) (fun F' Fm' fc fm E hz => ?_)
  · dsimp only
    rw [i_ne.mpr (by decide), cond_true, i_le.mpr (by rw [U.rt.g0, i_0]; decide), cond_true, U.c8, m_ldJ_in t0 (by omega), Option.bind_some, X.j5]
    have tn := K.nm _ (by omega) (fun j hj => R.lv j (by omega)) hk
    have N' : NR d F' J Fm' Am Jm := N.fr (fun q _ => U.fc d (cq q) (fun e => by
      have := e.2; unfold cq at this; split at this <;> omega)) (fun _ _ => rfl) (U.fm 20 (by decide)) rfl rfl rfl
    have ec : F' d (cq q) = F d (cq q) := U.fc d (cq q) (fun e => by have := e.2; unfold cq at this; split at this <;> omega)
    rw [Option.bind_assoc]
    refine p2_bl (fun v hf => ?_)
    have hv := findq_s (N.bd q hq).2 v hf
    rw [← ec] at hv
    refine p2_r (d_known_s U.rt.g0 t0 (by omega) (by decide) (fun j hj => by rw [i_0] at hj; omega)) (fun r hr => ?_)
    rw [X.k6, hs] at hr
    rcases N'.same hq tn hv with ⟨v0, j, j1, j2, j3, j4, j5⟩ | ⟨rfl, no⟩
    · rcases hr with ⟨j', a1, a2, a3, a4, rfl⟩ | ⟨no, -⟩
      · have e : j' = j := by
          have := j5 j' a1 a2 a3
          have := a4 j
          rcases Nat.lt_or_ge j j' with h | h
          · exact absurd ⟨j2, j3⟩ (this h)
          · omega
        subst e
        rw [i_ge.mpr (by rw [i_0]; exact v0), cond_true, Option.bind_some, j4]
        exact ks v F' Fm' U.v hf (.inl ⟨v0, by
          rcases hv with ⟨_, h, _⟩ | ⟨h, _⟩
          · rw [← ec]; exact h
          · rw [h] at v0; exact absurd v0 (by decide), U⟩)
      · exact absurd ⟨j2, j3⟩ (no j j1)
    · rcases hr with ⟨j', a1, a2, a3, a4, rfl⟩ | ⟨_, Fw, hw, rfl⟩
      · exact absurd ⟨a2, a3⟩ (no j' a1)
      · rw [i_nge.mpr (by decide), cond_false]
        obtain ⟨F2, Fm2, b1, b2, V⟩ := U.late (P := P) (k := 4) K R X
        rw [hw] at b2
        cases b2
        rw [b1, Option.bind_some]
        dsimp only
        rw [Option.bind_some]
        refine ks _ F2 Fw V hf (.inr ⟨rfl, ?_⟩)
        intro z
        by_cases w : (Fm' 15).toInt = 0
        · obtain ⟨Fw', e', g15, -⟩ := d_wrong_0 (F := Fm') (A := Am) (J := Jm) (k := 4) (x := Fm 11) U.rt.g0 t0 (by omega) w
          rw [hw] at e'
          cases e'
          rw [g15] at z
          exact absurd z (by decide)
        · rw [d_wrong_n U.rt.g0 t0 (by omega) w (.inl (by rw [U.fm 16 (by decide), X.m4]; exact R.wp (by rw [← U.fm 15 (by decide)]; exact w)))] at hw
          cases hw
          exact w z
  · dsimp only
    rw [i_nne.mpr rfl, cond_false, i_nle.mpr (by rw [i_0]; exact E.2), cond_false, Option.bind_some, Option.bind_some]
    exact kf F' Fm' fc fm E hz
/-- the class's takeNewName over any of its rows -/
def gnew0 (q : Nat) (P : Nat → Nat → Nat) (F : Nat → Nat → Int32) (A : Nat → Nat → Nat → Int32) (J : Nat → Nat → Nat → Int64) (x2 : Int32) (x3 : Int64) : Option (Unit × (Nat → Nat → Nat) × (Nat → Nat → Int32) × (Nat → Nat → Nat → Int32) × (Nat → Nat → Nat → Int64)) :=
  (c_stJ J 37 (7 + q) (ql q) x2 x3).bind fun J27 =>
  some ((), P, F, A, J27)
def gnew1 (q : Nat) (P : Nat → Nat → Nat) (F : Nat → Nat → Int32) (A : Nat → Nat → Nat → Int32) (J : Nat → Nat → Nat → Int64) (x2 : Int32) (x3 : Int64) : Option (Unit × (Nat → Nat → Nat) × (Nat → Nat → Int32) × (Nat → Nat → Nat → Int32) × (Nat → Nat → Nat → Int64)) :=
  (e_Reader_failLate P F A J 3).bind fun (_, P22, F23, A24, J25) =>
  (c_stJ J25 37 (7 + q) (ql q) x2 x3).bind fun J26 =>
  some ((), P22, F23, A24, J26)
def gnew (q n : Nat) (P : Nat → Nat → Nat) (F : Nat → Nat → Int32) (A : Nat → Nat → Nat → Int32) (J : Nat → Nat → Nat → Int64) (x2 : Int32) : Option (Unit × (Nat → Nat → Nat) × (Nat → Nat → Int32) × (Nat → Nat → Nat → Int32) × (Nat → Nat → Nat → Int64)) :=
  (e_Reader_take P F A J 100).bind fun (v1, P2, F3, A4, J5) =>
  cond (g_cnd .eq v1 0)
  (some ((), P2, F3, A4, J5))
  (cond (g_cnd .lt x2 (Int32.ofNat (ql q)))
  ((m_ldJ (J5 37 5) 401 (F3 37 8)).bind fun v8 =>
  (c_chk 6 (P2 37 5)).bind fun q9 =>
  (findq 0 n J5 v8 (F3 q9 13)).bind fun v10 =>
  cond (g_cnd .ge v10 0)
  (gnew1 q P2 F3 A4 J5 x2 v8)
  ((c_chk 6 (P2 37 5)).bind fun q12 =>
  (findq 1 n J5 v8 (F3 q12 15)).bind fun v13 =>
  cond (g_cnd .ge v13 0)
  (gnew1 q P2 F3 A4 J5 x2 v8)
  ((c_chk 6 (P2 37 5)).bind fun q15 =>
  (findq 2 n J5 v8 (F3 q15 16)).bind fun v16 =>
  cond (g_cnd .ge v16 0)
  (gnew1 q P2 F3 A4 J5 x2 v8)
  ((c_chk 6 (P2 37 5)).bind fun q18 =>
  (findq 3 n J5 v8 (F3 q18 17)).bind fun v19 =>
  cond (g_cnd .lt v19 0)
  (gnew0 q P2 F3 A4 J5 x2 v8)
  (gnew1 q P2 F3 A4 J5 x2 v8)))))
  (some ((), P2, F3, A4, J5)))
theorem new_0 : e_Reader_takeNewName n P F A J x2 = gnew 0 n P F A J x2 := by
  unfold e_Reader_takeNewName gnew e_Reader_takeNewName_101 e_Reader_takeNewName_106
  simp only [find0_q, find1_q, find2_q, find3_q]
  rfl
theorem new_1 : e_Reader_takeNewName_v1 n P F A J x2 = gnew 1 n P F A J x2 := by
  unfold e_Reader_takeNewName_v1 gnew e_Reader_takeNewName_v1_101 e_Reader_takeNewName_v1_106
  simp only [find0_q, find1_q, find2_q, find3_q]
  rfl
theorem new_2 : e_Reader_takeNewName_v2 n P F A J x2 = gnew 2 n P F A J x2 := by
  unfold e_Reader_takeNewName_v2 gnew e_Reader_takeNewName_v2_101 e_Reader_takeNewName_v2_106
  simp only [find0_q, find1_q, find2_q, find3_q]
  rfl
theorem new_3 : e_Reader_takeNewName_v3 n P F A J x2 = gnew 3 n P F A J x2 := by
  unfold e_Reader_takeNewName_v3 gnew e_Reader_takeNewName_v3_101 e_Reader_takeNewName_v3_106
  simp only [find0_q, find1_q, find2_q, find3_q]
  rfl
theorem gnew_ff (h : (F 37 10).toInt ≠ 0) : gnew q n P F A J x2 = some ((), P, F, A, J) := by
  unfold gnew
  rw [e_take_ff h, Option.bind_some]
  dsimp only
  rw [i_eq.mpr rfl, cond_true]
/-- a name has been put into a row of the class -/
def JUm (q : Nat) (J J' : Nat → Nat → Nat → Int64) (c : Int) (x : Int64) : Prop := J' 37 (7 + q) c.toNat = x ∧ (∀ j : Int, 0 ≤ j → j ≠ c → J' 37 (7 + q) j.toNat = J 37 (7 + q) j.toNat) ∧ (∀ r o, ¬ (r = 37 ∧ o = 7 + q) → J' r o = J r o)
theorem g_new0 {x3 : Int64} {r} (h : gnew0 q P F A J x2 x3 = some r) : ∃ J', r = ((), P, F, A, J') ∧ JUm q J J' x2.toInt x3 := by
  unfold gnew0 at h
  obtain ⟨J', e, h⟩ := Option.bind_eq_some_iff.mp h
  cases h
  have s := gg_cstJ e
  exact ⟨J', rfl, s.2.2.1, s.2.2.2.1, s.2.2.2.2⟩
/-- takeNewName beside named -/
theorem p2_new {f} {g} (hq : q < 4) (h5 : P 37 5 = d) (hx : (F d (cq q)).toInt < (ql q : Int)) (K : TKs T) (R : RT T F Fm) (X : RX T A J Am Jm) (N : NR d F J Fm Am Jm) (ks : ∀ F' J' Fm', RV T F F' Fm Fm' → TNi (T.jc (Fm 11).toInt.toNat).toInt (T.jr (Fm 11).toInt.toNat).toInt → JUm q J J' (F d (cq q)).toInt (T.jc (Fm 11).toInt.toNat) → P2 (f ((), P, F', A, J')) (g (Fm 11, Fm', Am, Jm)) Q) (kf : ∀ F' Fm', FrC F F' → FrM Fm Fm' → FE F' Fm' → P2 (f ((), P, F', A, J)) (g (Fm 11, Fm', Am, Jm)) Q) : P2 (α := γ) (β := δ) ((gnew q n P F A J (F d (cq q))).bind f) ((d_named m Fm Am Jm).bind g) Q := by
  have t0 := R.t0
  have t1 := R.t1
  have lq : ql q ≤ 8 := by unfold ql; split <;> decide
  have eo : (Int32.ofNat (ql q)).toInt = ql q := by unfold ql; split <;> decide
  unfold gnew d_named
  rw [Option.bind_assoc, Option.bind_assoc]
  refine p2_take K R X (by decide) (by decide) (fun F' Fm' U hk => ?_) (fun F' Fm' fc fm E _ => ?_)
  · dsimp only
    rw [i_neq.mpr (by decide), cond_false, i_lt.mpr (by rw [eo]; exact hx), cond_true, U.c8, m_ldJ_in t0 (by omega), Option.bind_some, X.j5]
    have tn := K.nm _ (by omega) (fun j hj => R.lv j (by omega)) hk
    have ce : ∀ q, F' d (cq q) = F d (cq q) := fun q => U.fc d (cq q) (fun e => by have := e.2; unfold cq at this; split at this <;> omega)
    have N' : NR d F' J Fm' Am Jm := N.fr (fun q _ => ce q) (fun _ _ => rfl) (U.fm 20 (by decide)) rfl rfl rfl
    refine p2_r (d_named_s (F := Fm') (F' := Fm') U.rt.g0 t0 (by omega) (by decide) (fun _ _ _ => rfl) (.inl ⟨fun j hj => by rw [i_0] at hj; omega, rfl⟩) (fun w => by rw [U.fm 16 (by decide), X.m4]; exact R.wp (by rw [← U.fm 15 (by decide)]; exact w))) (fun r hr => ?_)
    rw [X.k6] at hr
    obtain ⟨Fw, rfl, hr⟩ := hr
    generalize hx3 : T.jc (Fm 11).toInt.toNat = x at *
    generalize hy3 : T.jr (Fm 11).toInt.toNat = y at *
    have yes : (∃ j : Nat, (j : Int) < (Fm' 20).toInt ∧ Jm 8 j = y) → P2 ((gnew1 q P F' A J (F d (cq q)) x).bind f) (g (Fm 11, Fw, Am, Jm)) Q := by
      intro he
      rcases hr with ⟨no, -⟩ | ⟨-, hw⟩
      · obtain ⟨j, j1, j2⟩ := he
        exact absurd j2 (no j j1)
      · obtain ⟨F2, Fm2, b1, b2, V⟩ := U.late (P := P) (k := 3) K R X
        rw [hw] at b2
        cases b2
        unfold gnew1
        rw [b1, Option.bind_some]
        refine p2_bl (fun r hr => ?_)
        obtain ⟨J', rfl, ju⟩ := g_new0 (q := q) hr
        exact ks F2 J' Fw V tn ju
    have no : (¬ ∃ j : Nat, (j : Int) < (Fm' 20).toInt ∧ Jm 8 j = y) → P2 ((gnew0 q P F' A J (F d (cq q)) x).bind f) (g (Fm 11, Fw, Am, Jm)) Q := by
      intro he
      rcases hr with ⟨no, rfl⟩ | ⟨he', -⟩
      · refine p2_bl (fun r hr => ?_)
        obtain ⟨J', rfl, ju⟩ := g_new0 (q := q) hr
        exact ks F' J' Fw U.v tn ju
      · exact absurd he' he
    have fd : ∀ {q' : Nat} {v : Int32}, q' < 4 → FDq q' J x (F' d (cq q')).toInt v → (0 ≤ v.toInt → ∃ j : Nat, (j : Int) < (Fm' 20).toInt ∧ Jm 8 j = y) ∧ (v.toInt < 0 → ∀ j : Nat, (j : Int) < (Fm' 20).toInt → ¬ (Jm 8 j = y ∧ (Am 9 j).toInt = q')) := by
      intro q' v hq' hv
      rcases N'.same hq' tn hv with ⟨v0, j, j1, j2, -⟩ | ⟨rfl, no⟩
      · exact ⟨fun _ => ⟨j, j1, j2⟩, fun h => by omega⟩
      · exact ⟨fun h => absurd h (by decide), fun _ => no⟩
    rw [Option.bind_assoc]
    refine p2_bl (fun q9 h9 => ?_)
    have e9 : q9 = d := (gg_chk h9).2.trans h5
    rw [e9, Option.bind_assoc]
    refine p2_l (R := FDq 0 J x (F' d (cq 0)).toInt) (findq_s (by rw [show F' d 13 = F' d (cq 0) from rfl, ce 0]; exact (N.bd 0 (by decide)).2)) (fun v0 hv0 => ?_)
    have f0 := fd (by decide) hv0
    refine p2_bind_cl (fun c => yes (f0.1 (by rw [i_ge, i_0] at c; exact c))) (fun c0 => ?_)
    rw [i_nge, i_0] at c0
    rw [Option.bind_assoc]
    refine p2_bl (fun q9 h9 => ?_)
    have e9 : q9 = d := (gg_chk h9).2.trans h5
    rw [e9, Option.bind_assoc]
    refine p2_l (R := FDq 1 J x (F' d (cq 1)).toInt) (findq_s (by rw [show F' d 15 = F' d (cq 1) from rfl, ce 1]; exact (N.bd 1 (by decide)).2)) (fun v1 hv1 => ?_)
    have f1 := fd (by decide) hv1
    refine p2_bind_cl (fun c => yes (f1.1 (by rw [i_ge, i_0] at c; exact c))) (fun c1 => ?_)
    rw [i_nge, i_0] at c1
    rw [Option.bind_assoc]
    refine p2_bl (fun q9 h9 => ?_)
    have e9 : q9 = d := (gg_chk h9).2.trans h5
    rw [e9, Option.bind_assoc]
    refine p2_l (R := FDq 2 J x (F' d (cq 2)).toInt) (findq_s (by rw [show F' d 16 = F' d (cq 2) from rfl, ce 2]; exact (N.bd 2 (by decide)).2)) (fun v2 hv2 => ?_)
    have f2 := fd (by decide) hv2
    refine p2_bind_cl (fun c => yes (f2.1 (by rw [i_ge, i_0] at c; exact c))) (fun c2 => ?_)
    rw [i_nge, i_0] at c2
    rw [Option.bind_assoc]
    refine p2_bl (fun q9 h9 => ?_)
    have e9 : q9 = d := (gg_chk h9).2.trans h5
    rw [e9, Option.bind_assoc]
    refine p2_l (R := FDq 3 J x (F' d (cq 3)).toInt) (findq_s (by rw [show F' d 17 = F' d (cq 3) from rfl, ce 3]; exact (N.bd 3 (by decide)).2)) (fun v3 hv3 => ?_)
    have f3 := fd (by decide) hv3
    refine p2_bind_cl (fun c3 => no ?_) (fun c => yes (f3.1 (by rw [i_nlt, i_0] at c; exact c)))
    rw [i_lt, i_0] at c3
    rintro ⟨j, j1, j2⟩
    obtain ⟨q', hq', hs, -⟩ := N'.na j j1
    rcases (by omega : q' = 0 ∨ q' = 1 ∨ q' = 2 ∨ q' = 3) with h | h | h | h <;> subst h
    · exact f0.2 c0 j j1 ⟨j2, hs⟩
    · exact f1.2 c1 j j1 ⟨j2, hs⟩
    · exact f2.2 c2 j j1 ⟨j2, hs⟩
    · exact f3.2 c3 j j1 ⟨j2, hs⟩
  · dsimp only
    rw [i_eq.mpr rfl, cond_true, Option.bind_some]
    cases m with
    | zero =>
      intro a b ha hb
      cases hb
    | succ m =>
      unfold d_named_12
      rw [i_ne.mpr (by rw [i_0]; have := E.2; omega)]
      refine p2_bind_cr (fun _ => ?_) (fun _ => ?_)
      · rw [Option.bind_some]
        exact kf F' Fm' fc fm E
      · rw [cond_true, Option.bind_some]
        exact kf F' Fm' fc fm E
end A5
