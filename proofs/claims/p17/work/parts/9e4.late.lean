/-! names and numbers, side by side -/
section A4
variable {T : TS} {d n : Nat} {P : Nat → Nat → Nat} {F F' : Nat → Nat → Int32} {A : Nat → Nat → Nat → Int32} {J : Nat → Nat → Nat → Int64} {Fm Fm' : Nat → Int32} {Am : Nat → Nat → Int32} {Jm : Nat → Nat → Int64} {k k' : Int32} {γ δ : Type} {Q : γ → δ → Prop}
/-- one token on, perhaps with a late fault -/
def RV (T : TS) (F F' : Nat → Nat → Int32) (Fm Fm' : Nat → Int32) : Prop := (RT T F' Fm') ∧ (F' 37 8 = Fm 11) ∧ ((Fm' 11).toInt = (Fm 11).toInt + 1) ∧ (FrC F F') ∧ (FrM Fm Fm')
theorem RV.rt {T : TS} {F F' : Nat → Nat → Int32} {Fm Fm' : Nat → Int32} (h_ : RV T F F' Fm Fm') : RT T F' Fm' := h_.1
theorem RV.c8 {T : TS} {F F' : Nat → Nat → Int32} {Fm Fm' : Nat → Int32} (h_ : RV T F F' Fm Fm') : F' 37 8 = Fm 11 := h_.2.1
theorem RV.m1 {T : TS} {F F' : Nat → Nat → Int32} {Fm Fm' : Nat → Int32} (h_ : RV T F F' Fm Fm') : (Fm' 11).toInt = (Fm 11).toInt + 1 := h_.2.2.1
theorem RV.fc {T : TS} {F F' : Nat → Nat → Int32} {Fm Fm' : Nat → Int32} (h_ : RV T F F' Fm Fm') : FrC F F' := h_.2.2.2.1
theorem RV.fm {T : TS} {F F' : Nat → Nat → Int32} {Fm Fm' : Nat → Int32} (h_ : RV T F F' Fm Fm') : FrM Fm Fm' := h_.2.2.2.2
theorem RU.v (U : RU T F F' Fm Fm') : RV T F F' Fm Fm' := ⟨U.rt, U.c8, U.m1, U.c, U.m⟩
theorem e_late_n (h : (F 37 12).toInt ≠ 0) : e_Reader_failLate P F A J k = some ((), P, F, A, J) := by
  unfold e_Reader_failLate
  rw [i_ne.mpr (by rw [i_0]; exact h), cond_true]
theorem e_late_0 (h : (F 37 12).toInt = 0) (t0 : 0 ≤ (F 37 8).toInt) (t1 : (F 37 8).toInt ≤ 400) : ∃ F', e_Reader_failLate P F A J k = some ((), P, F', A, J) ∧ F' 37 12 = k ∧ (∀ r q, ¬ (r = 37 ∧ (q = 12 ∨ q = 13)) → F' r q = F r q) := by
  unfold e_Reader_failLate
  rw [i_nne.mpr (by rw [i_0]; exact h), cond_false]
  obtain ⟨F3, e3⟩ : ∃ F3, c_pf F 37 12 k = some F3 := ⟨_, rfl⟩
  have U3 := gg_cpf e3
  have e8 : F3 37 8 = F 37 8 := U3.2 37 8 (by decide)
  rw [e3, Option.bind_some, e8, m_ld_in t0 (by omega), Option.bind_some]
  obtain ⟨F4, e4⟩ : ∃ F4, c_pf F3 37 13 (A 37 3 (F 37 8).toInt.toNat) = some F4 := ⟨_, rfl⟩
  rw [e4, Option.bind_some]
  have U4 := gg_cpf e4
  exact ⟨F4, rfl, by rw [U4.2 37 12 (by decide), U3.1], fun r q hn => by rw [U4.2 r q (by omega), U3.2 r q (by omega)]⟩
theorem RT.t4 (K : TKs T) (R : RT T F Fm) (U : RT T F' Fm') (m1 : (Fm' 11).toInt = (Fm 11).toInt + 1) : (T.pr (Fm 11).toInt.toNat).toInt < (T.pr (Fm' 11).toInt.toNat).toInt := by
  have t0 := R.t0
  have t1 := U.t1
  have b := K.up (Fm 11).toInt.toNat (by omega) (fun j hj => U.lv j (by omega))
  have e : (Fm' 11).toInt.toNat = (Fm 11).toInt.toNat + 1 := by omega
  rw [e]
  exact b
theorem RU.late (K : TKs T) (R : RT T F Fm) (U : RU T F F' Fm Fm') (X : RX T A J Am Jm) : ∃ F2 Fm2, e_Reader_failLate P F' A J k = some ((), P, F2, A, J) ∧ d_wrong Fm' Am Jm k (Fm 11) = some ((), Fm2, Am, Jm) ∧ RV T F F2 Fm Fm2 := by
  have t0 := R.t0
  have t1 := R.t1
  have e15 : Fm' 15 = Fm 15 := U.fm 15 (by decide)
  have e16 : Fm' 16 = Fm 16 := U.fm 16 (by decide)
  have e13 : Fm' 13 = Fm 13 := U.fm 13 (by decide)
  have g0 := R.g0
  by_cases w : (Fm 15).toInt = 0
  · obtain ⟨F2, a1, a2, a3⟩ := e_late_0 (P := P) (F := F') (A := A) (J := J) (k := k) (by rw [U.rt.lt, e15]; exact w) (by rw [U.c8]; exact t0) (by rw [U.c8]; exact t1)
    obtain ⟨Fm2, b1, b2, b3, b4⟩ := d_wrong_0 (F := Fm') (A := Am) (J := Jm) (k := k) (x := Fm 11) (by rw [e13]; exact g0) t0 (by omega) (by rw [e15]; exact w)
    have e11 : Fm2 11 = Fm' 11 := b4 11 (by decide) (by decide)
    refine ⟨F2, Fm2, a1, b1, ⟨⟨?_, ?_, ?_, ?_, ?_, ?_, ?_, ?_⟩, ?_, ?_, ?_, ?_⟩⟩
    · rw [a3 37 10 (by decide)]; exact U.rt.f0
    · rw [b4 13 (by decide) (by decide)]; exact U.rt.g0
    · rw [a3 37 7 (by decide), e11]; exact U.rt.tk
    · rw [e11]; exact U.rt.t0
    · rw [e11]; exact U.rt.t1
    · rw [e11]; exact U.rt.lv
    · rw [a2, b2]
    · intro _
      rw [b3, e11, X.m4]
      exact R.t4 K U.rt U.m1
    · rw [a3 37 8 (by decide)]; exact U.c8
    · rw [e11]; exact U.m1
    · exact U.c.tr (fun r q h => a3 r q (by omega))
    · exact U.m.tr (fun q _ _ _ x y => b4 q x y)
  · refine ⟨F', Fm', e_late_n (by rw [U.rt.lt, e15]; exact w), d_wrong_n (by rw [e13]; exact g0) t0 (by omega) (by rw [e15]; exact w) (.inl ?_), U.v⟩
    rw [e16, X.m4]
    exact R.wp w
/-- takeNumber beside bounded -/
theorem p2_num {f} {g} {lo hi : Int32} (K : TKs T) (R : RT T F Fm) (X : RX T A J Am Jm) (ks : ∀ F' Fm', RV T F F' Fm Fm' → (lo.toInt ≤ (T.vr (Fm 11).toInt.toNat).toInt ∧ (T.vr (Fm 11).toInt.toNat).toInt ≤ hi.toInt ∨ (Fm' 15).toInt ≠ 0) → P2 (f (T.vr (Fm 11).toInt.toNat, P, F', A, J)) (g (T.vr (Fm 11).toInt.toNat, Fm', Am, Jm)) Q) (kf : ∀ v F' Fm', FrC F F' → FrM Fm Fm' → FE F' Fm' → P2 (f (lo, P, F', A, J)) (g (v, Fm', Am, Jm)) Q) : P2 (α := γ) (β := δ) ((e_Reader_takeNumber P F A J lo hi).bind f) ((d_bounded Fm Am Jm lo hi).bind g) Q := by
  have t0 := R.t0
  have t1 := R.t1
  have tk := R.tk
  have g0 := R.g0
  have iff := R.kd (k := 101) (k' := 2) K X (by decide)
  unfold e_Reader_takeNumber d_bounded
  rw [i_ngt.mpr (by rw [i_0]; omega), cond_false]
  by_cases hm : (Am 3 (Fm 11).toInt.toNat).toInt = (2 : Int32).toInt
  · have hm' : (T.kr (Fm 11).toInt.toNat).toInt = 2 := by rw [← X.m3]; exact hm
    have hv := K.nu _ (by omega) (fun j hj => R.lv j (by omega)) hm'
    rw [d_is_1 R.g0 t0 t1 hm, Option.bind_some, i_ne.mpr (by decide), cond_true, m_ld_in t0 (by omega), Option.bind_some, X.m5]
    generalize hvv : T.vr (Fm 11).toInt.toNat = v at *
    by_cases h4 : (Fm 11).toInt < 400
    · obtain ⟨F', e, h7, h8, fc⟩ := e_take_1 (P := P) (J := J) R.f0 (by rw [tk]; exact t0) (by rw [tk]; exact h4) (iff.mpr hm)
      rw [e, Option.bind_some]
      dsimp only
      rw [i_ne.mpr (by decide), cond_true, h8, tk, m_ld_in t0 (by omega), Option.bind_some, X.a4, hv]
      have hlv : T.lv (Fm 11).toInt.toNat := by unfold TS.lv; rw [hm']; decide
      have inr : lo.toInt ≤ v.toInt → v.toInt ≤ hi.toInt → P2 ((some (v, P, F', A, J)).bind f) ((d_bounded_51 Fm Am Jm v).bind g) Q := by
        intro h1 h2
        obtain ⟨Fm', e', h11, fm⟩ := d_goes_1 (A := Am) (J := Jm) t0 h4
        unfold d_bounded_51
        rw [e', Option.bind_some, Option.bind_some]
        dsimp only
        rw [Option.bind_some]
        exact ks F' Fm' (R.on K hlv h4 h7 h8 fc h11 fm).v (.inl ⟨h1, h2⟩)
      have out : P2 ((e_Reader_takeNumber_34 P F' A J v).bind f) ((d_bounded_42 Fm Am Jm v).bind g) Q := by
        unfold e_Reader_takeNumber_34 d_bounded_42
        by_cases w : (Fm 15).toInt = 0
        · obtain ⟨Fm1, b1, b2, b3, b4⟩ := d_wrong_0 (F := Fm) (A := Am) (J := Jm) (k := 5) (x := Fm 11) g0 t0 (by omega) w
          have e11 : Fm1 11 = Fm 11 := b4 11 (by decide) (by decide)
          obtain ⟨Fm2, e', h11, fm⟩ := d_goes_1 (F := Fm1) (A := Am) (J := Jm) (by rw [e11]; exact t0) (by rw [e11]; exact h4)
          obtain ⟨F2, a1, a2, a3⟩ := e_late_0 (P := P) (F := F') (A := A) (J := J) (k := 5) (by rw [fc 37 12 (by decide), R.lt]; exact w) (by rw [h8, tk]; exact t0) (by rw [h8, tk]; exact t1)
          rw [b1, Option.bind_some]
          dsimp only
          rw [e', Option.bind_some, a1, Option.bind_some]
          dsimp only
          rw [Option.bind_some, Option.bind_some]
          have l1 := i_1
          have m1 : (Fm2 11).toInt = (Fm 11).toInt + 1 := by rw [h11, e11, i_add (by omega) (by omega), i_1]
          refine ks F2 Fm2 ⟨⟨?_, ?_, ?_, ?_, ?_, ?_, ?_, ?_⟩, ?_, m1, ?_, ?_⟩ (.inr (by rw [fm 15 (by decide), b2]; decide))
          · rw [a3 37 10 (by decide), fc 37 10 (by decide)]; exact R.f0
          · rw [fm 13 (by decide), b4 13 (by decide) (by decide)]; exact g0
          · rw [a3 37 7 (by decide), h7, h11, e11, tk]
          · omega
          · omega
          · intro j hj
            by_cases hlt : (j : Int) < (Fm 11).toInt
            · exact R.lv j hlt
            · have : j = (Fm 11).toInt.toNat := by omega
              rw [this]; exact hlv
          · rw [a2, fm 15 (by decide), b2]
          · intro _
            rw [fm 16 (by decide), b3, X.m4]
            have b := K.up (Fm 11).toInt.toNat (by omega) (fun j hj => by
              by_cases hlt : (j : Int) < (Fm 11).toInt
              · exact R.lv j hlt
              · have : j = (Fm 11).toInt.toNat := by omega
                rw [this]; exact hlv)
            have e : (Fm2 11).toInt.toNat = (Fm 11).toInt.toNat + 1 := by omega
            rw [e]
            exact b
          · rw [a3 37 8 (by decide), h8, tk]
          · exact fun r q h => (a3 r q (by omega)).trans (fc r q (by omega))
          · exact fun q x _ _ y z => (fm q x).trans (b4 q y z)
        · have b1 := d_wrong_n (F := Fm) (A := Am) (J := Jm) (k := 5) (x := Fm 11) g0 t0 (by omega) w (.inl (by rw [X.m4]; exact R.wp w))
          obtain ⟨Fm2, e', h11, fm⟩ := d_goes_1 (A := Am) (J := Jm) t0 h4
          have a1 := e_late_n (P := P) (F := F') (A := A) (J := J) (k := 5) (by rw [fc 37 12 (by decide), R.lt]; exact w)
          rw [b1, Option.bind_some]
          dsimp only
          rw [e', Option.bind_some, a1, Option.bind_some]
          dsimp only
          rw [Option.bind_some, Option.bind_some]
          exact ks F' Fm2 (R.on K hlv h4 h7 h8 fc h11 fm).v (.inr (by rw [fm 15 (by decide)]; exact w))
      by_cases c1 : v.toInt < lo.toInt
      · rw [i_lt.mpr c1, cond_true, cond_true]
        exact out
      · rw [i_nlt.mpr (by omega), cond_false, cond_false]
        by_cases c2 : v.toInt ≤ hi.toInt
        · rw [i_le.mpr c2, cond_true, cond_true]
          exact inr (by omega) c2
        · rw [i_nle.mpr (by omega), cond_false, cond_false]
          exact out
    · obtain ⟨F', e, h1, h2⟩ := e_take_2 (P := P) (J := J) R.f0 (by rw [tk]; omega) (iff.mpr hm)
      rw [e, Option.bind_some]
      dsimp only
      rw [i_nne.mpr rfl, cond_false, Option.bind_some]
      have go : ∀ {Fm1 : Nat → Int32}, Fm1 11 = Fm 11 → (Fm1 13).toInt = 0 → FrM Fm Fm1 → P2 (f (lo, P, F', A, J)) (((d_goesOn Fm1 Am Jm).bind fun (_, F16, A17, J18) => some (v, F16, A17, J18)).bind g) Q := by
        intro Fm1 e11 z fr
        obtain ⟨Fm2, e', h1', h2'⟩ := d_goes_2 (F := Fm1) (A := Am) (J := Jm) z (by rw [e11]; omega)
        rw [e', Option.bind_some]
        dsimp only
        rw [Option.bind_some]
        exact kf v F' Fm2 h2 (fr.tr h2') ⟨by rw [h1, h1'], by rw [h1']; decide⟩
      have out : P2 (f (lo, P, F', A, J)) ((d_bounded_42 Fm Am Jm v).bind g) Q := by
        unfold d_bounded_42
        by_cases w : (Fm 15).toInt = 0
        · obtain ⟨Fm1, b1, b2, b3, b4⟩ := d_wrong_0 (F := Fm) (A := Am) (J := Jm) (k := 5) (x := Fm 11) g0 t0 (by omega) w
          rw [b1, Option.bind_some]
          exact go (b4 11 (by decide) (by decide)) (by rw [b4 13 (by decide) (by decide)]; exact g0) (fun q _ _ _ y z => b4 q y z)
        · rw [d_wrong_n (F := Fm) (A := Am) (J := Jm) (k := 5) (x := Fm 11) g0 t0 (by omega) w (.inl (by rw [X.m4]; exact R.wp w)), Option.bind_some]
          exact go rfl g0 FrM.rfl'
      refine p2_bind_cr ?_ ?_
      · exact fun _ => out
      · refine fun _ => p2_bind_cr ?_ ?_
        · exact fun _ => go rfl g0 FrM.rfl'
        · exact fun _ => out
  · obtain ⟨F', e, h1, h2⟩ := e_take_0 (P := P) (J := J) R.f0 (by rw [tk]; exact t0) (by rw [tk]; exact t1) (fun h => hm (iff.mp h))
    obtain ⟨Fm', e', h1', h2', _⟩ := d_fail_0 (A := Am) (J := Jm) (k := 1) R.g0 t0 t1
    rw [e, Option.bind_some, d_is_0 R.g0 t0 t1 hm, Option.bind_some, i_nne.mpr rfl, cond_false]
    unfold d_bounded_15
    rw [e', Option.bind_some, Option.bind_some]
    dsimp only
    rw [i_nne.mpr rfl, cond_false, Option.bind_some]
    exact kf lo F' Fm' h2 h2' ⟨by rw [h1, h1'], by rw [h1']; decide⟩
theorem e_num_ff {lo hi : Int32} (h : (F 37 10).toInt ≠ 0) : e_Reader_takeNumber P F A J lo hi = some (lo, P, F, A, J) := by
  unfold e_Reader_takeNumber
  rw [e_take_ff h, Option.bind_some]
  dsimp only
  rw [i_nne.mpr rfl, cond_false]
theorem d_num_ff {lo hi : Int32} (h : 0 < (Fm 13).toInt) : d_bounded Fm Am Jm lo hi = some (lo, Fm, Am, Jm) := by
  unfold d_bounded d_bounded_15
  rw [i_gt.mpr (by rw [i_0]; exact h), cond_true, d_fail_ff h, Option.bind_some]
end A4
