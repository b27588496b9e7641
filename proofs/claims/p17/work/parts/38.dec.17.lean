/-! the class's methods as functions (printed by wip/dec2.py) -/
section MC
variable {t : gT} {lg : Nat → Nat} {d : Nat} {c : Nat × Nat} {B : Nat → List gE}
/-- SleepWork.restore(I)Z  -/
def e_SleepWork_restore (P : Nat → Nat → Nat) (F : Nat → Nat → Int32) (A : Nat → Nat → Nat → Int32) (J : Nat → Nat → Nat → Int64) (x1 : Int32) : Option (Int32 × (Nat → Nat → Nat) × (Nat → Nat → Int32) × (Nat → Nat → Nat → Int32) × (Nat → Nat → Nat → Int64)) :=
  cond (g_cnd .lt x1 0)
  (some (0, P, F, A, J))
  (cond (g_cnd .ge x1 3)
  (some (0, P, F, A, J))
  (cond (g_cnd .ne ((F 0 10) &&& ((1 : Int32) <<< (x1 &&& 31))) 0)
  ((c_ar 3 29 2 x1).bind fun q4 =>
  (e_State_copy P F A J 2 q4).bind fun (_, P6, F7, A8, J9) =>
  (c_pf F7 4 2 0).bind fun F10 =>
  (e_Evening_setStale P6 F10 A8 J9).bind fun (_, P12, F13, A14, J15) =>
  some (1, P12, F13, A14, J15))
  (some (0, P, F, A, J))))
set_option maxRecDepth 10000 in
theorem t_e_SleepWork_restore (ht : ∀ ci k, t.1 ci k = k_ty ci k) {P : Nat → Nat → Nat} {F : Nat → Nat → Int32} {A : Nat → Nat → Nat → Int32} {J : Nat → Nat → Nat → Int64} {x1 : Int32}  {w : Int32 × (Nat → Nat → Nat) × (Nat → Nat → Int32) × (Nat → Nat → Nat → Int32) × (Nat → Nat → Nat → Int64)} : e_SleepWork_restore P F A J x1 = some w → k_run t lg (d + 1) 136 0 [(0, .ref (0 * 1024)), (1, .int x1)] [] (c_h c B P F A J) (some (.int w.1), c_h c B w.2.1 w.2.2.1 w.2.2.2.1 w.2.2.2.2) := by
  intro hD
  unfold e_SleepWork_restore at hD
  refine k_runB (pc' := 1) (loc' := [(0, .ref (0 * 1024)), (1, .int x1)]) (st' := [.int x1]) 1 rfl ?_
  refine k_if rfl (fun c1_0 => ?_) (fun c1_0 => ?_)
  · rw [c1_0, cond_true] at hD
    refine k_runB (pc' := 21) (loc' := [(0, .ref (0 * 1024)), (1, .int x1)]) (st' := [.int 0]) 1 rfl ?_
    cases hD
    exact k_zret rfl rfl (Or.inl rfl)
  · rw [c1_0, cond_false] at hD
    refine k_runB (pc' := 6) (loc' := [(0, .ref (0 * 1024)), (1, .int x1)]) (st' := [.int 3, .int x1]) 2 rfl ?_
    refine k_ic rfl (fun c6_1 => ?_) (fun c6_1 => ?_)
    · rw [c6_1, cond_true] at hD
      refine k_runB (pc' := 21) (loc' := [(0, .ref (0 * 1024)), (1, .int x1)]) (st' := [.int 0]) 1 rfl ?_
      cases hD
      exact k_zret rfl rfl (Or.inl rfl)
    · rw [c6_1, cond_false] at hD
      refine k_runB (pc' := 10) (loc' := [(0, .ref (0 * 1024)), (1, .int x1)]) (st' := [.ref (0 * 1024)]) 1 rfl ?_
      refine k_gf 0 0 (K := 0) rfl rfl rfl rfl rfl ?_
      refine k_runB (pc' := 17) (loc' := [(0, .ref (0 * 1024)), (1, .int x1)]) (st' := [.int ((F 0 10) &&& ((1 : Int32) <<< (x1 &&& 31)))]) 4 rfl ?_
      refine k_if rfl (fun c17_2 => ?_) (fun c17_2 => ?_)
      · rw [c17_2, cond_true] at hD
        refine k_runB (pc' := 23) (loc' := [(0, .ref (0 * 1024)), (1, .int x1)]) (st' := [.ref (0 * 1024)]) 1 rfl ?_
        refine k_gf 0 0 (K := 0) rfl rfl rfl rfl rfl ?_
        refine k_runB (pc' := 27) (loc' := [(0, .ref (0 * 1024)), (1, .int x1)]) (st' := [.ref (0 * 1024), .ref (2 * 1024)]) 1 rfl ?_
        refine k_gf 0 0 (K := 0) rfl rfl rfl rfl rfl ?_
        refine k_runB (pc' := 31) (loc' := [(0, .ref (0 * 1024)), (1, .int x1)]) (st' := [.int x1, .ref (26 * 1024 + 0), .ref (2 * 1024)]) 1 rfl ?_
        obtain ⟨q4, hq4, hD⟩ := Option.bind_eq_some_iff.mp hD
        refine k_aal 26 0 (K := 5) rfl rfl rfl rfl hq4 (fun kq4 => ?_)
        obtain ⟨⟨v5, P6, F7, A8, J9⟩, hv5, hD⟩ := Option.bind_eq_some_iff.mp hD
        dsimp only at hD
        refine k_runV rfl rfl rfl (c_get (r := 2) (o := 0) (K := 2) rfl (by decide)) rfl rfl (t_e_State_copy (d := d) ht rfl kq4 hv5) ?_
        refine k_runB (pc' := 36) (loc' := [(0, .ref (0 * 1024)), (1, .int x1)]) (st' := [.ref (0 * 1024)]) 1 rfl ?_
        refine k_gf 0 0 (K := 0) rfl rfl rfl rfl rfl ?_
        refine k_runB (pc' := 40) (loc' := [(0, .ref (0 * 1024)), (1, .int x1)]) (st' := [.int 0, .ref (4 * 1024)]) 1 rfl ?_
        obtain ⟨F10, hF10, hD⟩ := Option.bind_eq_some_iff.mp hD
        refine k_cpt 4 0 (K := 3) (key := 2) rfl rfl (ht 3 2) rfl rfl rfl hF10 ?_
        refine k_runB (pc' := 44) (loc' := [(0, .ref (0 * 1024)), (1, .int x1)]) (st' := [.ref (0 * 1024)]) 1 rfl ?_
        refine k_gf 0 0 (K := 0) rfl rfl rfl rfl rfl ?_
        obtain ⟨⟨v11, P12, F13, A14, J15⟩, hv11, hD⟩ := Option.bind_eq_some_iff.mp hD
        dsimp only at hD
        refine k_runV rfl rfl rfl (c_get (r := 32) (o := 0) (K := 7) rfl (by decide)) rfl rfl (t_e_Evening_setStale (d := d) ht hv11) ?_
        refine k_runB (pc' := 51) (loc' := [(0, .ref (0 * 1024)), (1, .int x1)]) (st' := [.int 1]) 1 rfl ?_
        cases hD
        exact k_zret rfl rfl (Or.inr rfl)
      · rw [c17_2, cond_false] at hD
        refine k_runB (pc' := 21) (loc' := [(0, .ref (0 * 1024)), (1, .int x1)]) (st' := [.int 0]) 1 rfl ?_
        cases hD
        exact k_zret rfl rfl (Or.inl rfl)
/-- java/lang/Integer.bitCount(I)I  -/
def e_Integer_bitCount (P : Nat → Nat → Nat) (F : Nat → Nat → Int32) (A : Nat → Nat → Nat → Int32) (J : Nat → Nat → Nat → Int64) (x0 : Int32) : Option (Int32) :=
  some ((((((((x0 - (((x0.toUInt32 >>> ((1 : Int32).toUInt32 &&& Int32.toUInt32 31)).toInt32) &&& 1431655765)) &&& 858993459) + ((((x0 - (((x0.toUInt32 >>> ((1 : Int32).toUInt32 &&& Int32.toUInt32 31)).toInt32) &&& 1431655765)).toUInt32 >>> ((2 : Int32).toUInt32 &&& Int32.toUInt32 31)).toInt32) &&& 858993459)) + (((((x0 - (((x0.toUInt32 >>> ((1 : Int32).toUInt32 &&& Int32.toUInt32 31)).toInt32) &&& 1431655765)) &&& 858993459) + ((((x0 - (((x0.toUInt32 >>> ((1 : Int32).toUInt32 &&& Int32.toUInt32 31)).toInt32) &&& 1431655765)).toUInt32 >>> ((2 : Int32).toUInt32 &&& Int32.toUInt32 31)).toInt32) &&& 858993459)).toUInt32 >>> ((4 : Int32).toUInt32 &&& Int32.toUInt32 31)).toInt32)) &&& 252645135) + (((((((x0 - (((x0.toUInt32 >>> ((1 : Int32).toUInt32 &&& Int32.toUInt32 31)).toInt32) &&& 1431655765)) &&& 858993459) + ((((x0 - (((x0.toUInt32 >>> ((1 : Int32).toUInt32 &&& Int32.toUInt32 31)).toInt32) &&& 1431655765)).toUInt32 >>> ((2 : Int32).toUInt32 &&& Int32.toUInt32 31)).toInt32) &&& 858993459)) + (((((x0 - (((x0.toUInt32 >>> ((1 : Int32).toUInt32 &&& Int32.toUInt32 31)).toInt32) &&& 1431655765)) &&& 858993459) + ((((x0 - (((x0.toUInt32 >>> ((1 : Int32).toUInt32 &&& Int32.toUInt32 31)).toInt32) &&& 1431655765)).toUInt32 >>> ((2 : Int32).toUInt32 &&& Int32.toUInt32 31)).toInt32) &&& 858993459)).toUInt32 >>> ((4 : Int32).toUInt32 &&& Int32.toUInt32 31)).toInt32)) &&& 252645135).toUInt32 >>> ((8 : Int32).toUInt32 &&& Int32.toUInt32 31)).toInt32)) + ((((((((x0 - (((x0.toUInt32 >>> ((1 : Int32).toUInt32 &&& Int32.toUInt32 31)).toInt32) &&& 1431655765)) &&& 858993459) + ((((x0 - (((x0.toUInt32 >>> ((1 : Int32).toUInt32 &&& Int32.toUInt32 31)).toInt32) &&& 1431655765)).toUInt32 >>> ((2 : Int32).toUInt32 &&& Int32.toUInt32 31)).toInt32) &&& 858993459)) + (((((x0 - (((x0.toUInt32 >>> ((1 : Int32).toUInt32 &&& Int32.toUInt32 31)).toInt32) &&& 1431655765)) &&& 858993459) + ((((x0 - (((x0.toUInt32 >>> ((1 : Int32).toUInt32 &&& Int32.toUInt32 31)).toInt32) &&& 1431655765)).toUInt32 >>> ((2 : Int32).toUInt32 &&& Int32.toUInt32 31)).toInt32) &&& 858993459)).toUInt32 >>> ((4 : Int32).toUInt32 &&& Int32.toUInt32 31)).toInt32)) &&& 252645135) + (((((((x0 - (((x0.toUInt32 >>> ((1 : Int32).toUInt32 &&& Int32.toUInt32 31)).toInt32) &&& 1431655765)) &&& 858993459) + ((((x0 - (((x0.toUInt32 >>> ((1 : Int32).toUInt32 &&& Int32.toUInt32 31)).toInt32) &&& 1431655765)).toUInt32 >>> ((2 : Int32).toUInt32 &&& Int32.toUInt32 31)).toInt32) &&& 858993459)) + (((((x0 - (((x0.toUInt32 >>> ((1 : Int32).toUInt32 &&& Int32.toUInt32 31)).toInt32) &&& 1431655765)) &&& 858993459) + ((((x0 - (((x0.toUInt32 >>> ((1 : Int32).toUInt32 &&& Int32.toUInt32 31)).toInt32) &&& 1431655765)).toUInt32 >>> ((2 : Int32).toUInt32 &&& Int32.toUInt32 31)).toInt32) &&& 858993459)).toUInt32 >>> ((4 : Int32).toUInt32 &&& Int32.toUInt32 31)).toInt32)) &&& 252645135).toUInt32 >>> ((8 : Int32).toUInt32 &&& Int32.toUInt32 31)).toInt32)).toUInt32 >>> ((16 : Int32).toUInt32 &&& Int32.toUInt32 31)).toInt32)) &&& 63)
set_option maxRecDepth 10000 in
theorem t_e_Integer_bitCount {P : Nat → Nat → Nat} {F : Nat → Nat → Int32} {A : Nat → Nat → Nat → Int32} {J : Nat → Nat → Nat → Int64} {x0 : Int32}  {w : Int32} : e_Integer_bitCount P F A J x0 = some w → k_run t lg (d) 243 0 [(0, .int x0)] [] (c_h c B P F A J) (some (.int w), c_h c B P F A J) := by
  intro hD
  unfold e_Integer_bitCount at hD
  refine k_runB (pc' := 52) (loc' := [(0, .int (((((((x0 - (((x0.toUInt32 >>> ((1 : Int32).toUInt32 &&& Int32.toUInt32 31)).toInt32) &&& 1431655765)) &&& 858993459) + ((((x0 - (((x0.toUInt32 >>> ((1 : Int32).toUInt32 &&& Int32.toUInt32 31)).toInt32) &&& 1431655765)).toUInt32 >>> ((2 : Int32).toUInt32 &&& Int32.toUInt32 31)).toInt32) &&& 858993459)) + (((((x0 - (((x0.toUInt32 >>> ((1 : Int32).toUInt32 &&& Int32.toUInt32 31)).toInt32) &&& 1431655765)) &&& 858993459) + ((((x0 - (((x0.toUInt32 >>> ((1 : Int32).toUInt32 &&& Int32.toUInt32 31)).toInt32) &&& 1431655765)).toUInt32 >>> ((2 : Int32).toUInt32 &&& Int32.toUInt32 31)).toInt32) &&& 858993459)).toUInt32 >>> ((4 : Int32).toUInt32 &&& Int32.toUInt32 31)).toInt32)) &&& 252645135) + (((((((x0 - (((x0.toUInt32 >>> ((1 : Int32).toUInt32 &&& Int32.toUInt32 31)).toInt32) &&& 1431655765)) &&& 858993459) + ((((x0 - (((x0.toUInt32 >>> ((1 : Int32).toUInt32 &&& Int32.toUInt32 31)).toInt32) &&& 1431655765)).toUInt32 >>> ((2 : Int32).toUInt32 &&& Int32.toUInt32 31)).toInt32) &&& 858993459)) + (((((x0 - (((x0.toUInt32 >>> ((1 : Int32).toUInt32 &&& Int32.toUInt32 31)).toInt32) &&& 1431655765)) &&& 858993459) + ((((x0 - (((x0.toUInt32 >>> ((1 : Int32).toUInt32 &&& Int32.toUInt32 31)).toInt32) &&& 1431655765)).toUInt32 >>> ((2 : Int32).toUInt32 &&& Int32.toUInt32 31)).toInt32) &&& 858993459)).toUInt32 >>> ((4 : Int32).toUInt32 &&& Int32.toUInt32 31)).toInt32)) &&& 252645135).toUInt32 >>> ((8 : Int32).toUInt32 &&& Int32.toUInt32 31)).toInt32)) + ((((((((x0 - (((x0.toUInt32 >>> ((1 : Int32).toUInt32 &&& Int32.toUInt32 31)).toInt32) &&& 1431655765)) &&& 858993459) + ((((x0 - (((x0.toUInt32 >>> ((1 : Int32).toUInt32 &&& Int32.toUInt32 31)).toInt32) &&& 1431655765)).toUInt32 >>> ((2 : Int32).toUInt32 &&& Int32.toUInt32 31)).toInt32) &&& 858993459)) + (((((x0 - (((x0.toUInt32 >>> ((1 : Int32).toUInt32 &&& Int32.toUInt32 31)).toInt32) &&& 1431655765)) &&& 858993459) + ((((x0 - (((x0.toUInt32 >>> ((1 : Int32).toUInt32 &&& Int32.toUInt32 31)).toInt32) &&& 1431655765)).toUInt32 >>> ((2 : Int32).toUInt32 &&& Int32.toUInt32 31)).toInt32) &&& 858993459)).toUInt32 >>> ((4 : Int32).toUInt32 &&& Int32.toUInt32 31)).toInt32)) &&& 252645135) + (((((((x0 - (((x0.toUInt32 >>> ((1 : Int32).toUInt32 &&& Int32.toUInt32 31)).toInt32) &&& 1431655765)) &&& 858993459) + ((((x0 - (((x0.toUInt32 >>> ((1 : Int32).toUInt32 &&& Int32.toUInt32 31)).toInt32) &&& 1431655765)).toUInt32 >>> ((2 : Int32).toUInt32 &&& Int32.toUInt32 31)).toInt32) &&& 858993459)) + (((((x0 - (((x0.toUInt32 >>> ((1 : Int32).toUInt32 &&& Int32.toUInt32 31)).toInt32) &&& 1431655765)) &&& 858993459) + ((((x0 - (((x0.toUInt32 >>> ((1 : Int32).toUInt32 &&& Int32.toUInt32 31)).toInt32) &&& 1431655765)).toUInt32 >>> ((2 : Int32).toUInt32 &&& Int32.toUInt32 31)).toInt32) &&& 858993459)).toUInt32 >>> ((4 : Int32).toUInt32 &&& Int32.toUInt32 31)).toInt32)) &&& 252645135).toUInt32 >>> ((8 : Int32).toUInt32 &&& Int32.toUInt32 31)).toInt32)).toUInt32 >>> ((16 : Int32).toUInt32 &&& Int32.toUInt32 31)).toInt32)))]) (st' := [.int ((((((((x0 - (((x0.toUInt32 >>> ((1 : Int32).toUInt32 &&& Int32.toUInt32 31)).toInt32) &&& 1431655765)) &&& 858993459) + ((((x0 - (((x0.toUInt32 >>> ((1 : Int32).toUInt32 &&& Int32.toUInt32 31)).toInt32) &&& 1431655765)).toUInt32 >>> ((2 : Int32).toUInt32 &&& Int32.toUInt32 31)).toInt32) &&& 858993459)) + (((((x0 - (((x0.toUInt32 >>> ((1 : Int32).toUInt32 &&& Int32.toUInt32 31)).toInt32) &&& 1431655765)) &&& 858993459) + ((((x0 - (((x0.toUInt32 >>> ((1 : Int32).toUInt32 &&& Int32.toUInt32 31)).toInt32) &&& 1431655765)).toUInt32 >>> ((2 : Int32).toUInt32 &&& Int32.toUInt32 31)).toInt32) &&& 858993459)).toUInt32 >>> ((4 : Int32).toUInt32 &&& Int32.toUInt32 31)).toInt32)) &&& 252645135) + (((((((x0 - (((x0.toUInt32 >>> ((1 : Int32).toUInt32 &&& Int32.toUInt32 31)).toInt32) &&& 1431655765)) &&& 858993459) + ((((x0 - (((x0.toUInt32 >>> ((1 : Int32).toUInt32 &&& Int32.toUInt32 31)).toInt32) &&& 1431655765)).toUInt32 >>> ((2 : Int32).toUInt32 &&& Int32.toUInt32 31)).toInt32) &&& 858993459)) + (((((x0 - (((x0.toUInt32 >>> ((1 : Int32).toUInt32 &&& Int32.toUInt32 31)).toInt32) &&& 1431655765)) &&& 858993459) + ((((x0 - (((x0.toUInt32 >>> ((1 : Int32).toUInt32 &&& Int32.toUInt32 31)).toInt32) &&& 1431655765)).toUInt32 >>> ((2 : Int32).toUInt32 &&& Int32.toUInt32 31)).toInt32) &&& 858993459)).toUInt32 >>> ((4 : Int32).toUInt32 &&& Int32.toUInt32 31)).toInt32)) &&& 252645135).toUInt32 >>> ((8 : Int32).toUInt32 &&& Int32.toUInt32 31)).toInt32)) + ((((((((x0 - (((x0.toUInt32 >>> ((1 : Int32).toUInt32 &&& Int32.toUInt32 31)).toInt32) &&& 1431655765)) &&& 858993459) + ((((x0 - (((x0.toUInt32 >>> ((1 : Int32).toUInt32 &&& Int32.toUInt32 31)).toInt32) &&& 1431655765)).toUInt32 >>> ((2 : Int32).toUInt32 &&& Int32.toUInt32 31)).toInt32) &&& 858993459)) + (((((x0 - (((x0.toUInt32 >>> ((1 : Int32).toUInt32 &&& Int32.toUInt32 31)).toInt32) &&& 1431655765)) &&& 858993459) + ((((x0 - (((x0.toUInt32 >>> ((1 : Int32).toUInt32 &&& Int32.toUInt32 31)).toInt32) &&& 1431655765)).toUInt32 >>> ((2 : Int32).toUInt32 &&& Int32.toUInt32 31)).toInt32) &&& 858993459)).toUInt32 >>> ((4 : Int32).toUInt32 &&& Int32.toUInt32 31)).toInt32)) &&& 252645135) + (((((((x0 - (((x0.toUInt32 >>> ((1 : Int32).toUInt32 &&& Int32.toUInt32 31)).toInt32) &&& 1431655765)) &&& 858993459) + ((((x0 - (((x0.toUInt32 >>> ((1 : Int32).toUInt32 &&& Int32.toUInt32 31)).toInt32) &&& 1431655765)).toUInt32 >>> ((2 : Int32).toUInt32 &&& Int32.toUInt32 31)).toInt32) &&& 858993459)) + (((((x0 - (((x0.toUInt32 >>> ((1 : Int32).toUInt32 &&& Int32.toUInt32 31)).toInt32) &&& 1431655765)) &&& 858993459) + ((((x0 - (((x0.toUInt32 >>> ((1 : Int32).toUInt32 &&& Int32.toUInt32 31)).toInt32) &&& 1431655765)).toUInt32 >>> ((2 : Int32).toUInt32 &&& Int32.toUInt32 31)).toInt32) &&& 858993459)).toUInt32 >>> ((4 : Int32).toUInt32 &&& Int32.toUInt32 31)).toInt32)) &&& 252645135).toUInt32 >>> ((8 : Int32).toUInt32 &&& Int32.toUInt32 31)).toInt32)).toUInt32 >>> ((16 : Int32).toUInt32 &&& Int32.toUInt32 31)).toInt32)) &&& 63)]) 41 rfl ?_
  cases hD
  exact k_iret rfl rfl
/-- SleepWork.count(I)I  -/
def e_SleepWork_count (n : Nat) (P : Nat → Nat → Nat) (F : Nat → Nat → Int32) (A : Nat → Nat → Nat → Int32) (J : Nat → Nat → Nat → Int64) (x1 : Int32) : Option (Int32) :=
  cond (decide (x1 = 0))
  ((c_chk 6 (P 0 8)).bind fun q2 =>
  some (F q2 13))
  (cond (decide (x1 = 1))
  ((c_chk 6 (P 0 8)).bind fun q3 =>
  some (F q3 14))
  (cond (decide (x1 = 2))
  ((c_chk 6 (P 0 8)).bind fun q4 =>
  some (F q4 15))
  (cond (decide (x1 = 3))
  ((c_chk 6 (P 0 8)).bind fun q5 =>
  some (F q5 16))
  (cond (decide (x1 = 4))
  ((c_chk 6 (P 0 8)).bind fun q6 =>
  some (F q6 17))
  (cond (decide (x1 = 5))
  ((c_chk 6 (P 0 8)).bind fun q7 =>
  some (F q7 18))
  (cond (decide (x1 = 6))
  (some (F 2 8))
  (cond (decide (x1 = 7))
  ((e_Integer_bitCount P F A J (F 2 7)).bind fun v8 =>
  some (v8))
  (cond (decide (x1 = 8))
  ((c_chk 6 (P 0 8)).bind fun q9 =>
  (e_House_worthOfAll n P F A J q9 2).bind fun v10 =>
  some (v10))
  (cond (decide (x1 = 9))
  (some (F 1 1))
  (cond (decide (x1 = 10))
  (some (F 4 2))
  (cond (decide (x1 = 11))
  (some (F 25 2))
  (cond (decide (x1 = 12))
  ((e_Integer_bitCount P F A J (F 0 10)).bind fun v11 =>
  some (v11))
  (some ((-1)))))))))))))))
set_option maxRecDepth 10000 in
theorem t_e_SleepWork_count {n : Nat} {P : Nat → Nat → Nat} {F : Nat → Nat → Int32} {A : Nat → Nat → Nat → Int32} {J : Nat → Nat → Nat → Int64} {x1 : Int32}  {w : Int32} : e_SleepWork_count n P F A J x1 = some w → k_run t lg (d + 2) 137 0 [(0, .ref (0 * 1024)), (1, .int x1)] [] (c_h c B P F A J) (some (.int w), c_h c B P F A J) := by
  intro hD
  unfold e_SleepWork_count at hD
  refine k_runB (pc' := 1) (loc' := [(0, .ref (0 * 1024)), (1, .int x1)]) (st' := [.int x1]) 1 rfl ?_
  cases c1_0_0 : decide (x1 = 0) with
  | true =>
    rw [c1_0_0, cond_true] at hD
    refine k_tab (tgt := 68) rfl (by rw [of_decide_eq_true c1_0_0]; decide) ?_
    refine k_runB (pc' := 69) (loc' := [(0, .ref (0 * 1024)), (1, .int x1)]) (st' := [.ref (0 * 1024)]) 1 rfl ?_
    obtain ⟨q2, hq2, hD⟩ := Option.bind_eq_some_iff.mp hD
    refine k_gq 0 0 (K := 0) (K2 := 6) (key := 8) rfl rfl rfl rfl rfl hq2 (fun kq2 => ?_)
    refine k_gf q2 0 (K := 6) kq2 rfl rfl rfl rfl ?_
    cases hD
    exact k_iret rfl rfl
  | false =>
    rw [c1_0_0, cond_false] at hD
    cases c1_0_1 : decide (x1 = 1) with
    | true =>
      rw [c1_0_1, cond_true] at hD
      refine k_tab (tgt := 76) rfl (by rw [of_decide_eq_true c1_0_1]; decide) ?_
      refine k_runB (pc' := 77) (loc' := [(0, .ref (0 * 1024)), (1, .int x1)]) (st' := [.ref (0 * 1024)]) 1 rfl ?_
      obtain ⟨q3, hq3, hD⟩ := Option.bind_eq_some_iff.mp hD
      refine k_gq 0 0 (K := 0) (K2 := 6) (key := 8) rfl rfl rfl rfl rfl hq3 (fun kq3 => ?_)
      refine k_gf q3 0 (K := 6) kq3 rfl rfl rfl rfl ?_
      cases hD
      exact k_iret rfl rfl
    | false =>
      rw [c1_0_1, cond_false] at hD
      cases c1_0_2 : decide (x1 = 2) with
      | true =>
        rw [c1_0_2, cond_true] at hD
        refine k_tab (tgt := 84) rfl (by rw [of_decide_eq_true c1_0_2]; decide) ?_
        refine k_runB (pc' := 85) (loc' := [(0, .ref (0 * 1024)), (1, .int x1)]) (st' := [.ref (0 * 1024)]) 1 rfl ?_
        obtain ⟨q4, hq4, hD⟩ := Option.bind_eq_some_iff.mp hD
        refine k_gq 0 0 (K := 0) (K2 := 6) (key := 8) rfl rfl rfl rfl rfl hq4 (fun kq4 => ?_)
        refine k_gf q4 0 (K := 6) kq4 rfl rfl rfl rfl ?_
        cases hD
        exact k_iret rfl rfl
      | false =>
        rw [c1_0_2, cond_false] at hD
        cases c1_0_3 : decide (x1 = 3) with
        | true =>
          rw [c1_0_3, cond_true] at hD
          refine k_tab (tgt := 92) rfl (by rw [of_decide_eq_true c1_0_3]; decide) ?_
          refine k_runB (pc' := 93) (loc' := [(0, .ref (0 * 1024)), (1, .int x1)]) (st' := [.ref (0 * 1024)]) 1 rfl ?_
          obtain ⟨q5, hq5, hD⟩ := Option.bind_eq_some_iff.mp hD
          refine k_gq 0 0 (K := 0) (K2 := 6) (key := 8) rfl rfl rfl rfl rfl hq5 (fun kq5 => ?_)
          refine k_gf q5 0 (K := 6) kq5 rfl rfl rfl rfl ?_
          cases hD
          exact k_iret rfl rfl
        | false =>
          rw [c1_0_3, cond_false] at hD
          cases c1_0_4 : decide (x1 = 4) with
          | true =>
            rw [c1_0_4, cond_true] at hD
            refine k_tab (tgt := 100) rfl (by rw [of_decide_eq_true c1_0_4]; decide) ?_
            refine k_runB (pc' := 101) (loc' := [(0, .ref (0 * 1024)), (1, .int x1)]) (st' := [.ref (0 * 1024)]) 1 rfl ?_
            obtain ⟨q6, hq6, hD⟩ := Option.bind_eq_some_iff.mp hD
            refine k_gq 0 0 (K := 0) (K2 := 6) (key := 8) rfl rfl rfl rfl rfl hq6 (fun kq6 => ?_)
            refine k_gf q6 0 (K := 6) kq6 rfl rfl rfl rfl ?_
            cases hD
            exact k_iret rfl rfl
          | false =>
            rw [c1_0_4, cond_false] at hD
            cases c1_0_5 : decide (x1 = 5) with
            | true =>
              rw [c1_0_5, cond_true] at hD
              refine k_tab (tgt := 108) rfl (by rw [of_decide_eq_true c1_0_5]; decide) ?_
              refine k_runB (pc' := 109) (loc' := [(0, .ref (0 * 1024)), (1, .int x1)]) (st' := [.ref (0 * 1024)]) 1 rfl ?_
              obtain ⟨q7, hq7, hD⟩ := Option.bind_eq_some_iff.mp hD
              refine k_gq 0 0 (K := 0) (K2 := 6) (key := 8) rfl rfl rfl rfl rfl hq7 (fun kq7 => ?_)
              refine k_gf q7 0 (K := 6) kq7 rfl rfl rfl rfl ?_
              cases hD
              exact k_iret rfl rfl
            | false =>
              rw [c1_0_5, cond_false] at hD
              cases c1_0_6 : decide (x1 = 6) with
              | true =>
                rw [c1_0_6, cond_true] at hD
                refine k_tab (tgt := 116) rfl (by rw [of_decide_eq_true c1_0_6]; decide) ?_
                refine k_runB (pc' := 117) (loc' := [(0, .ref (0 * 1024)), (1, .int x1)]) (st' := [.ref (0 * 1024)]) 1 rfl ?_
                refine k_gf 0 0 (K := 0) rfl rfl rfl rfl rfl ?_
                refine k_gf 2 0 (K := 2) rfl rfl rfl rfl rfl ?_
                cases hD
                exact k_iret rfl rfl
              | false =>
                rw [c1_0_6, cond_false] at hD
                cases c1_0_7 : decide (x1 = 7) with
                | true =>
                  rw [c1_0_7, cond_true] at hD
                  refine k_tab (tgt := 124) rfl (by rw [of_decide_eq_true c1_0_7]; decide) ?_
                  refine k_runB (pc' := 125) (loc' := [(0, .ref (0 * 1024)), (1, .int x1)]) (st' := [.ref (0 * 1024)]) 1 rfl ?_
                  refine k_gf 0 0 (K := 0) rfl rfl rfl rfl rfl ?_
                  refine k_gf 2 0 (K := 2) rfl rfl rfl rfl rfl ?_
                  obtain ⟨v8, hv8, hD⟩ := Option.bind_eq_some_iff.mp hD
                  refine k_runC rfl rfl rfl rfl (t_e_Integer_bitCount (d := d + 1) hv8) ?_
                  cases hD
                  exact k_iret rfl rfl
                | false =>
                  rw [c1_0_7, cond_false] at hD
                  cases c1_0_8 : decide (x1 = 8) with
                  | true =>
                    rw [c1_0_8, cond_true] at hD
                    refine k_tab (tgt := 135) rfl (by rw [of_decide_eq_true c1_0_8]; decide) ?_
                    refine k_runB (pc' := 136) (loc' := [(0, .ref (0 * 1024)), (1, .int x1)]) (st' := [.ref (0 * 1024)]) 1 rfl ?_
                    obtain ⟨q9, hq9, hD⟩ := Option.bind_eq_some_iff.mp hD
                    refine k_gq 0 0 (K := 0) (K2 := 6) (key := 8) rfl rfl rfl rfl rfl hq9 (fun kq9 => ?_)
                    refine k_runB (pc' := 140) (loc' := [(0, .ref (0 * 1024)), (1, .int x1)]) (st' := [.ref (0 * 1024), .ref (q9 * 1024)]) 1 rfl ?_
                    refine k_gf 0 0 (K := 0) rfl rfl rfl rfl rfl ?_
                    obtain ⟨v10, hv10, hD⟩ := Option.bind_eq_some_iff.mp hD
                    refine k_runV rfl rfl rfl (c_get (r := q9) (o := 0) (K := 6) kq9 (by decide)) rfl rfl (t_e_House_worthOfAll (d := d) kq9 rfl hv10) ?_
                    cases hD
                    exact k_iret rfl rfl
                  | false =>
                    rw [c1_0_8, cond_false] at hD
                    cases c1_0_9 : decide (x1 = 9) with
                    | true =>
                      rw [c1_0_9, cond_true] at hD
                      refine k_tab (tgt := 147) rfl (by rw [of_decide_eq_true c1_0_9]; decide) ?_
                      refine k_runB (pc' := 148) (loc' := [(0, .ref (0 * 1024)), (1, .int x1)]) (st' := [.ref (0 * 1024)]) 1 rfl ?_
                      refine k_gf 0 0 (K := 0) rfl rfl rfl rfl rfl ?_
                      refine k_gf 1 0 (K := 1) rfl rfl rfl rfl rfl ?_
                      cases hD
                      exact k_iret rfl rfl
                    | false =>
                      rw [c1_0_9, cond_false] at hD
                      cases c1_0_10 : decide (x1 = 10) with
                      | true =>
                        rw [c1_0_10, cond_true] at hD
                        refine k_tab (tgt := 155) rfl (by rw [of_decide_eq_true c1_0_10]; decide) ?_
                        refine k_runB (pc' := 156) (loc' := [(0, .ref (0 * 1024)), (1, .int x1)]) (st' := [.ref (0 * 1024)]) 1 rfl ?_
                        refine k_gf 0 0 (K := 0) rfl rfl rfl rfl rfl ?_
                        refine k_gf 4 0 (K := 3) rfl rfl rfl rfl rfl ?_
                        cases hD
                        exact k_iret rfl rfl
                      | false =>
                        rw [c1_0_10, cond_false] at hD
                        cases c1_0_11 : decide (x1 = 11) with
                        | true =>
                          rw [c1_0_11, cond_true] at hD
                          refine k_tab (tgt := 163) rfl (by rw [of_decide_eq_true c1_0_11]; decide) ?_
                          refine k_runB (pc' := 164) (loc' := [(0, .ref (0 * 1024)), (1, .int x1)]) (st' := [.ref (0 * 1024)]) 1 rfl ?_
                          refine k_gf 0 0 (K := 0) rfl rfl rfl rfl rfl ?_
                          refine k_gf 25 0 (K := 4) rfl rfl rfl rfl rfl ?_
                          cases hD
                          exact k_iret rfl rfl
                        | false =>
                          rw [c1_0_11, cond_false] at hD
                          cases c1_0_12 : decide (x1 = 12) with
                          | true =>
                            rw [c1_0_12, cond_true] at hD
                            refine k_tab (tgt := 171) rfl (by rw [of_decide_eq_true c1_0_12]; decide) ?_
                            refine k_runB (pc' := 172) (loc' := [(0, .ref (0 * 1024)), (1, .int x1)]) (st' := [.ref (0 * 1024)]) 1 rfl ?_
                            refine k_gf 0 0 (K := 0) rfl rfl rfl rfl rfl ?_
                            obtain ⟨v11, hv11, hD⟩ := Option.bind_eq_some_iff.mp hD
                            refine k_runC rfl rfl rfl rfl (t_e_Integer_bitCount (d := d + 1) hv11) ?_
                            cases hD
                            exact k_iret rfl rfl
                          | false =>
                            rw [c1_0_12, cond_false] at hD
                            refine k_tab (tgt := 179) rfl (by rw [if_pos (m_out (lo := 0) (hi := 12) [0, 1, 2, 3, 4, 5, 6, 7, 8, 9, 10, 11, 12] (by decide) (by decide) (List.forall_mem_cons.mpr ⟨of_decide_eq_false c1_0_0, List.forall_mem_cons.mpr ⟨of_decide_eq_false c1_0_1, List.forall_mem_cons.mpr ⟨of_decide_eq_false c1_0_2, List.forall_mem_cons.mpr ⟨of_decide_eq_false c1_0_3, List.forall_mem_cons.mpr ⟨of_decide_eq_false c1_0_4, List.forall_mem_cons.mpr ⟨of_decide_eq_false c1_0_5, List.forall_mem_cons.mpr ⟨of_decide_eq_false c1_0_6, List.forall_mem_cons.mpr ⟨of_decide_eq_false c1_0_7, List.forall_mem_cons.mpr ⟨of_decide_eq_false c1_0_8, List.forall_mem_cons.mpr ⟨of_decide_eq_false c1_0_9, List.forall_mem_cons.mpr ⟨of_decide_eq_false c1_0_10, List.forall_mem_cons.mpr ⟨of_decide_eq_false c1_0_11, List.forall_mem_cons.mpr ⟨of_decide_eq_false c1_0_12, fun _ h => absurd h List.not_mem_nil⟩⟩⟩⟩⟩⟩⟩⟩⟩⟩⟩⟩⟩))]; rfl) ?_
                            refine k_runB (pc' := 180) (loc' := [(0, .ref (0 * 1024)), (1, .int x1)]) (st' := [.int ((-1))]) 1 rfl ?_
                            cases hD
                            exact k_iret rfl rfl
end MC
