/-! the class's methods as functions (printed by wip/dec2.py) -/
section MC
variable {t : gT} {lg : Nat → Nat} {d : Nat} {c : Nat × Nat} {B : Nat → List gE}
def e_Sleep_getUp_145 (K2 : (Nat → Nat → Nat) → (Nat → Nat → Int32) → (Nat → Nat → Nat → Int32) → (Nat → Nat → Nat → Int64) → Int32 → Option (Unit × (Nat → Nat → Nat) × (Nat → Nat → Int32) × (Nat → Nat → Nat → Int32) × (Nat → Nat → Nat → Int64))) (n : Nat) (P : Nat → Nat → Nat) (F : Nat → Nat → Int32) (A : Nat → Nat → Nat → Int32) (J : Nat → Nat → Nat → Int64) (x1 : Int32) : Option (Unit × (Nat → Nat → Nat) × (Nat → Nat → Int32) × (Nat → Nat → Nat → Int32) × (Nat → Nat → Nat → Int64)) :=
    K2 P F A J (x1 + 1)
set_option maxRecDepth 10000 in
theorem t_e_Sleep_getUp_145 (ht : ∀ ci k, t.1 ci k = k_ty ci k) {n : Nat} {K2 : (Nat → Nat → Nat) → (Nat → Nat → Int32) → (Nat → Nat → Nat → Int32) → (Nat → Nat → Nat → Int64) → Int32 → Option (Unit × (Nat → Nat → Nat) × (Nat → Nat → Int32) × (Nat → Nat → Nat → Int32) × (Nat → Nat → Nat → Int64))} (hK2 : ∀ (P : Nat → Nat → Nat) (F : Nat → Nat → Int32) (A : Nat → Nat → Nat → Int32) (J : Nat → Nat → Nat → Int64) (x1 : Int32) (w : Unit × (Nat → Nat → Nat) × (Nat → Nat → Int32) × (Nat → Nat → Nat → Int32) × (Nat → Nat → Nat → Int64)), K2 P F A J x1 = some w → k_run t lg (d + 3) 76 2 [(0, .ref (36 * 1024)), (1, .int x1)] [] (c_h c B P F A J) (none, c_h c B w.2.1 w.2.2.1 w.2.2.2.1 w.2.2.2.2)) {P : Nat → Nat → Nat} {F : Nat → Nat → Int32} {A : Nat → Nat → Nat → Int32} {J : Nat → Nat → Nat → Int64} {x1 : Int32}  {w : Unit × (Nat → Nat → Nat) × (Nat → Nat → Int32) × (Nat → Nat → Nat → Int32) × (Nat → Nat → Nat → Int64)} : e_Sleep_getUp_145 K2 n P F A J x1 = some w → k_run t lg (d + 3) 76 145 [(0, .ref (36 * 1024)), (1, .int x1)] [] (c_h c B P F A J) (none, c_h c B w.2.1 w.2.2.1 w.2.2.2.1 w.2.2.2.2) := by
  intro hD
  unfold e_Sleep_getUp_145 at hD
  refine k_runB (pc' := 2) (loc' := [(0, .ref (36 * 1024)), (1, .int (x1 + 1))]) (st' := []) 2 rfl ?_
  refine k_wk [0, 1] (loc' := [(0, .ref (36 * 1024)), (1, .int (x1 + 1))]) rfl rfl ?_
  exact hK2 _ _ _ _ _ _  hD
def e_Sleep_getUp_2 : Nat → (Nat → Nat → Nat) → (Nat → Nat → Int32) → (Nat → Nat → Nat → Int32) → (Nat → Nat → Nat → Int64) → Int32 → Option (Unit × (Nat → Nat → Nat) × (Nat → Nat → Int32) × (Nat → Nat → Nat → Int32) × (Nat → Nat → Nat → Int64))
  | 0, _, _, _, _, _ => none
  | n + 1, P, F, A, J, x1 => (c_chk 6 (P 36 8)).bind fun q1 =>
    cond (g_cnd .ge x1 (F q1 17))
    (some ((), P, F, A, J))
    ((c_chk 2 (P 36 9)).bind fun q3 =>
    (m_ld (A q3 3) 6 x1).bind fun v4 =>
    (c_st A 36 4 6 x1 ((-1))).bind fun A5 =>
    (c_st A5 36 6 6 x1 0).bind fun A6 =>
    (c_st A6 36 7 6 x1 0).bind fun A7 =>
    (c_st A7 36 3 6 x1 1000000).bind fun A8 =>
    (c_chk 2 (P 36 9)).bind fun q9 =>
    (c_st A8 q9 7 6 x1 ((-2))).bind fun A10 =>
    cond (g_cnd .lt v4 0)
    (e_Sleep_getUp_145 (e_Sleep_getUp_2 n) n P F A10 J x1)
    ((m_rem v4 6).bind fun v12 =>
    (c_st A10 36 5 6 x1 v12).bind fun A13 =>
    (c_chk 6 (P 36 8)).bind fun q14 =>
    (m_div v4 6).bind fun v15 =>
    (m_ld (A13 q14 4) 6 v15).bind fun v16 =>
    (c_chk 6 (P 36 8)).bind fun q17 =>
    (c_chk 2 (P 36 9)).bind fun q18 =>
    (c_chk 6 (P 36 8)).bind fun q19 =>
    (m_ld (A13 q19 12) 6 x1).bind fun v20 =>
    (e_Ways_between n P F A13 J q17 (F q18 7) v20 v16).bind fun (v21, P22, F23, A24, J25) =>
    (c_st A24 36 3 6 x1 v21).bind fun A26 =>
    (m_ld (A26 36 3) 6 x1).bind fun v27 =>
    cond (g_cnd .lt v27 1000000)
    (e_Sleep_getUp_145 (e_Sleep_getUp_2 n) n P22 F23 A26 J25 x1)
    ((c_chk 2 (P22 36 9)).bind fun q29 =>
    (c_st A26 q29 7 6 x1 0).bind fun A30 =>
    (e_Sleep_getUp_2 n) P22 F23 A30 J25 (x1 + 1))))
set_option maxRecDepth 10000 in
theorem t_e_Sleep_getUp_2 (ht : ∀ ci k, t.1 ci k = k_ty ci k) {n : Nat}  {P : Nat → Nat → Nat} {F : Nat → Nat → Int32} {A : Nat → Nat → Nat → Int32} {J : Nat → Nat → Nat → Int64} {x1 : Int32}  {w : Unit × (Nat → Nat → Nat) × (Nat → Nat → Int32) × (Nat → Nat → Nat → Int32) × (Nat → Nat → Nat → Int64)} : e_Sleep_getUp_2 n P F A J x1 = some w → k_run t lg (d + 3) 76 2 [(0, .ref (36 * 1024)), (1, .int x1)] [] (c_h c B P F A J) (none, c_h c B w.2.1 w.2.2.1 w.2.2.2.1 w.2.2.2.2) := by
  induction n generalizing P F A J x1 w with
  | zero => intro hD; cases hD
  | succ n ih =>
    intro hD
    have hK2 : ∀ (P : Nat → Nat → Nat) (F : Nat → Nat → Int32) (A : Nat → Nat → Nat → Int32) (J : Nat → Nat → Nat → Int64) (x1 : Int32) (w : Unit × (Nat → Nat → Nat) × (Nat → Nat → Int32) × (Nat → Nat → Nat → Int32) × (Nat → Nat → Nat → Int64)), e_Sleep_getUp_2 n P F A J x1 = some w → k_run t lg (d + 3) 76 2 [(0, .ref (36 * 1024)), (1, .int x1)] [] (c_h c B P F A J) (none, c_h c B w.2.1 w.2.2.1 w.2.2.2.1 w.2.2.2.2) := fun _ _ _ _ _ _  h => ih  h
    unfold e_Sleep_getUp_2 at hD
    refine k_runB (pc' := 4) (loc' := [(0, .ref (36 * 1024)), (1, .int x1)]) (st' := [.ref (36 * 1024), .int x1]) 2 rfl ?_
    obtain ⟨q1, hq1, hD⟩ := Option.bind_eq_some_iff.mp hD
    refine k_gq 36 0 (K := 10) (K2 := 6) (key := 8) rfl rfl rfl rfl rfl hq1 (fun kq1 => ?_)
    refine k_gf q1 0 (K := 6) kq1 rfl rfl rfl rfl ?_
    refine k_ic rfl (fun c10_1 => ?_) (fun c10_1 => ?_)
    · rw [c10_1, cond_true] at hD
      cases hD
      exact k_vret rfl rfl
    · rw [c10_1, cond_false] at hD
      refine k_runB (pc' := 14) (loc' := [(0, .ref (36 * 1024)), (1, .int x1)]) (st' := [.ref (36 * 1024)]) 1 rfl ?_
      obtain ⟨q3, hq3, hD⟩ := Option.bind_eq_some_iff.mp hD
      refine k_gq 36 0 (K := 10) (K2 := 2) (key := 9) rfl rfl rfl rfl rfl hq3 (fun kq3 => ?_)
      refine k_gf q3 0 (K := 2) kq3 rfl rfl rfl rfl ?_
      refine k_runB (pc' := 21) (loc' := [(0, .ref (36 * 1024)), (1, .int x1)]) (st' := [.int x1, .ref (q3 * 1024 + 3)]) 1 rfl ?_
      obtain ⟨v4, hv4, hD⟩ := Option.bind_eq_some_iff.mp hD
      refine k_ldI rfl (c_get (r := q3) (o := 3) (K := 2) kq3 (by decide)) hv4 ?_
      refine k_runB (pc' := 24) (loc' := [(0, .ref (36 * 1024)), (1, .int x1), (2, .int v4)]) (st' := [.ref (36 * 1024)]) 2 rfl ?_
      refine k_gf 36 0 (K := 10) rfl rfl rfl rfl rfl ?_
      refine k_runB (pc' := 29) (loc' := [(0, .ref (36 * 1024)), (1, .int x1), (2, .int v4)]) (st' := [.int ((-1)), .int x1, .ref (36 * 1024 + 4)]) 2 rfl ?_
      obtain ⟨A5, hA5, hD⟩ := Option.bind_eq_some_iff.mp hD
      refine k_cstI 36 4 (K := 10) rfl rfl rfl rfl (fun _ => rfl) hA5 ?_
      refine k_runB (pc' := 31) (loc' := [(0, .ref (36 * 1024)), (1, .int x1), (2, .int v4)]) (st' := [.ref (36 * 1024)]) 1 rfl ?_
      refine k_gf 36 0 (K := 10) rfl rfl rfl rfl rfl ?_
      refine k_runB (pc' := 36) (loc' := [(0, .ref (36 * 1024)), (1, .int x1), (2, .int v4)]) (st' := [.int 0, .int x1, .ref (36 * 1024 + 6)]) 2 rfl ?_
      obtain ⟨A6, hA6, hD⟩ := Option.bind_eq_some_iff.mp hD
      refine k_cstI 36 6 (K := 10) rfl rfl rfl rfl (fun _ => rfl) hA6 ?_
      refine k_runB (pc' := 38) (loc' := [(0, .ref (36 * 1024)), (1, .int x1), (2, .int v4)]) (st' := [.ref (36 * 1024)]) 1 rfl ?_
      refine k_gf 36 0 (K := 10) rfl rfl rfl rfl rfl ?_
      refine k_runB (pc' := 43) (loc' := [(0, .ref (36 * 1024)), (1, .int x1), (2, .int v4)]) (st' := [.int 0, .int x1, .ref (36 * 1024 + 7)]) 2 rfl ?_
      obtain ⟨A7, hA7, hD⟩ := Option.bind_eq_some_iff.mp hD
      refine k_cstI 36 7 (K := 10) rfl rfl rfl rfl (fun _ => rfl) hA7 ?_
      refine k_runB (pc' := 45) (loc' := [(0, .ref (36 * 1024)), (1, .int x1), (2, .int v4)]) (st' := [.ref (36 * 1024)]) 1 rfl ?_
      refine k_gf 36 0 (K := 10) rfl rfl rfl rfl rfl ?_
      refine k_runB (pc' := 51) (loc' := [(0, .ref (36 * 1024)), (1, .int x1), (2, .int v4)]) (st' := [.int 1000000, .int x1, .ref (36 * 1024 + 3)]) 2 rfl ?_
      obtain ⟨A8, hA8, hD⟩ := Option.bind_eq_some_iff.mp hD
      refine k_cstI 36 3 (K := 10) rfl rfl rfl rfl (fun _ => rfl) hA8 ?_
      refine k_runB (pc' := 53) (loc' := [(0, .ref (36 * 1024)), (1, .int x1), (2, .int v4)]) (st' := [.ref (36 * 1024)]) 1 rfl ?_
      obtain ⟨q9, hq9, hD⟩ := Option.bind_eq_some_iff.mp hD
      refine k_gq 36 0 (K := 10) (K2 := 2) (key := 9) rfl rfl rfl rfl rfl hq9 (fun kq9 => ?_)
      refine k_gf q9 0 (K := 2) kq9 rfl rfl rfl rfl ?_
      refine k_runB (pc' := 62) (loc' := [(0, .ref (36 * 1024)), (1, .int x1), (2, .int v4)]) (st' := [.int ((-2)), .int x1, .ref (q9 * 1024 + 7)]) 2 rfl ?_
      obtain ⟨A10, hA10, hD⟩ := Option.bind_eq_some_iff.mp hD
      refine k_cstI q9 7 (K := 2) kq9 rfl rfl rfl (fun _ => rfl) hA10 ?_
      refine k_runB (pc' := 64) (loc' := [(0, .ref (36 * 1024)), (1, .int x1), (2, .int v4)]) (st' := [.int v4]) 1 rfl ?_
      refine k_if rfl (fun c64_10 => ?_) (fun c64_10 => ?_)
      · rw [c64_10, cond_true] at hD
        refine k_wk [0, 1] (loc' := [(0, .ref (36 * 1024)), (1, .int x1)]) rfl rfl ?_
        exact t_e_Sleep_getUp_145 ht hK2  hD
      · rw [c64_10, cond_false] at hD
        refine k_runB (pc' := 68) (loc' := [(0, .ref (36 * 1024)), (1, .int x1), (2, .int v4)]) (st' := [.ref (36 * 1024)]) 1 rfl ?_
        refine k_gf 36 0 (K := 10) rfl rfl rfl rfl rfl ?_
        refine k_runB (pc' := 75) (loc' := [(0, .ref (36 * 1024)), (1, .int x1), (2, .int v4)]) (st' := [.int 6, .int v4, .int x1, .ref (36 * 1024 + 5)]) 3 rfl ?_
        obtain ⟨v12, hv12, hD⟩ := Option.bind_eq_some_iff.mp hD
        refine k_rmI rfl hv12 ?_
        obtain ⟨A13, hA13, hD⟩ := Option.bind_eq_some_iff.mp hD
        refine k_cstI 36 5 (K := 10) rfl rfl rfl rfl (fun _ => rfl) hA13 ?_
        refine k_runB (pc' := 78) (loc' := [(0, .ref (36 * 1024)), (1, .int x1), (2, .int v4)]) (st' := [.ref (36 * 1024)]) 1 rfl ?_
        obtain ⟨q14, hq14, hD⟩ := Option.bind_eq_some_iff.mp hD
        refine k_gq 36 0 (K := 10) (K2 := 6) (key := 8) rfl rfl rfl rfl rfl hq14 (fun kq14 => ?_)
        refine k_gf q14 0 (K := 6) kq14 rfl rfl rfl rfl ?_
        refine k_runB (pc' := 87) (loc' := [(0, .ref (36 * 1024)), (1, .int x1), (2, .int v4)]) (st' := [.int 6, .int v4, .ref (q14 * 1024 + 4)]) 2 rfl ?_
        obtain ⟨v15, hv15, hD⟩ := Option.bind_eq_some_iff.mp hD
        refine k_dvI rfl hv15 ?_
        obtain ⟨v16, hv16, hD⟩ := Option.bind_eq_some_iff.mp hD
        refine k_ldI rfl (c_get (r := q14) (o := 4) (K := 6) kq14 (by decide)) hv16 ?_
        refine k_runB (pc' := 91) (loc' := [(0, .ref (36 * 1024)), (1, .int x1), (2, .int v4), (3, .int v16)]) (st' := [.ref (36 * 1024)]) 2 rfl ?_
        refine k_gf 36 0 (K := 10) rfl rfl rfl rfl rfl ?_
        refine k_runB (pc' := 96) (loc' := [(0, .ref (36 * 1024)), (1, .int x1), (2, .int v4), (3, .int v16)]) (st' := [.ref (36 * 1024), .int x1, .ref (36 * 1024 + 3)]) 2 rfl ?_
        refine k_gf 36 0 (K := 10) rfl rfl rfl rfl rfl ?_
        refine k_runB (pc' := 100) (loc' := [(0, .ref (36 * 1024)), (1, .int x1), (2, .int v4), (3, .int v16)]) (st' := [.ref (36 * 1024), .ref (36 * 1024 + 1), .int x1, .ref (36 * 1024 + 3)]) 1 rfl ?_
        obtain ⟨q17, hq17, hD⟩ := Option.bind_eq_some_iff.mp hD
        refine k_gq 36 0 (K := 10) (K2 := 6) (key := 8) rfl rfl rfl rfl rfl hq17 (fun kq17 => ?_)
        refine k_runB (pc' := 104) (loc' := [(0, .ref (36 * 1024)), (1, .int x1), (2, .int v4), (3, .int v16)]) (st' := [.ref (36 * 1024), .ref (q17 * 1024), .ref (36 * 1024 + 1), .int x1, .ref (36 * 1024 + 3)]) 1 rfl ?_
        obtain ⟨q18, hq18, hD⟩ := Option.bind_eq_some_iff.mp hD
        refine k_gq 36 0 (K := 10) (K2 := 2) (key := 9) rfl rfl rfl rfl rfl hq18 (fun kq18 => ?_)
        refine k_gf q18 0 (K := 2) kq18 rfl rfl rfl rfl ?_
        refine k_runB (pc' := 111) (loc' := [(0, .ref (36 * 1024)), (1, .int x1), (2, .int v4), (3, .int v16)]) (st' := [.ref (36 * 1024), .int (F q18 7), .ref (q17 * 1024), .ref (36 * 1024 + 1), .int x1, .ref (36 * 1024 + 3)]) 1 rfl ?_
        obtain ⟨q19, hq19, hD⟩ := Option.bind_eq_some_iff.mp hD
        refine k_gq 36 0 (K := 10) (K2 := 6) (key := 8) rfl rfl rfl rfl rfl hq19 (fun kq19 => ?_)
        refine k_gf q19 0 (K := 6) kq19 rfl rfl rfl rfl ?_
        refine k_runB (pc' := 118) (loc' := [(0, .ref (36 * 1024)), (1, .int x1), (2, .int v4), (3, .int v16)]) (st' := [.int x1, .ref (q19 * 1024 + 12), .int (F q18 7), .ref (q17 * 1024), .ref (36 * 1024 + 1), .int x1, .ref (36 * 1024 + 3)]) 1 rfl ?_
        obtain ⟨v20, hv20, hD⟩ := Option.bind_eq_some_iff.mp hD
        refine k_ldI rfl (c_get (r := q19) (o := 12) (K := 6) kq19 (by decide)) hv20 ?_
        refine k_runB (pc' := 120) (loc' := [(0, .ref (36 * 1024)), (1, .int x1), (2, .int v4), (3, .int v16)]) (st' := [.int v16, .int v20, .int (F q18 7), .ref (q17 * 1024), .ref (36 * 1024 + 1), .int x1, .ref (36 * 1024 + 3)]) 1 rfl ?_
        obtain ⟨⟨v21, P22, F23, A24, J25⟩, hv21, hD⟩ := Option.bind_eq_some_iff.mp hD
        dsimp only at hD
        refine k_runV rfl rfl rfl (c_get (r := 36) (o := 1) (K := 10) rfl (by decide)) rfl rfl (t_e_Ways_between (d := d) ht kq17 hv21) ?_
        obtain ⟨A26, hA26, hD⟩ := Option.bind_eq_some_iff.mp hD
        refine k_cstI 36 3 (K := 10) rfl rfl rfl rfl (fun _ => rfl) hA26 ?_
        refine k_runB (pc' := 125) (loc' := [(0, .ref (36 * 1024)), (1, .int x1), (2, .int v4), (3, .int v16)]) (st' := [.ref (36 * 1024)]) 1 rfl ?_
        refine k_gf 36 0 (K := 10) rfl rfl rfl rfl rfl ?_
        refine k_runB (pc' := 129) (loc' := [(0, .ref (36 * 1024)), (1, .int x1), (2, .int v4), (3, .int v16)]) (st' := [.int x1, .ref (36 * 1024 + 3)]) 1 rfl ?_
        obtain ⟨v27, hv27, hD⟩ := Option.bind_eq_some_iff.mp hD
        refine k_ldI rfl (c_get (r := 36) (o := 3) (K := 10) rfl (by decide)) hv27 ?_
        refine k_runB (pc' := 132) (loc' := [(0, .ref (36 * 1024)), (1, .int x1), (2, .int v4), (3, .int v16)]) (st' := [.int 1000000, .int v27]) 1 rfl ?_
        refine k_ic rfl (fun c132_27 => ?_) (fun c132_27 => ?_)
        · rw [c132_27, cond_true] at hD
          refine k_wk [0, 1] (loc' := [(0, .ref (36 * 1024)), (1, .int x1)]) rfl rfl ?_
          exact t_e_Sleep_getUp_145 ht hK2  hD
        · rw [c132_27, cond_false] at hD
          refine k_runB (pc' := 136) (loc' := [(0, .ref (36 * 1024)), (1, .int x1), (2, .int v4), (3, .int v16)]) (st' := [.ref (36 * 1024)]) 1 rfl ?_
          obtain ⟨q29, hq29, hD⟩ := Option.bind_eq_some_iff.mp hD
          refine k_gq 36 0 (K := 10) (K2 := 2) (key := 9) rfl rfl rfl rfl rfl hq29 (fun kq29 => ?_)
          refine k_gf q29 0 (K := 2) kq29 rfl rfl rfl rfl ?_
          refine k_runB (pc' := 144) (loc' := [(0, .ref (36 * 1024)), (1, .int x1), (2, .int v4), (3, .int v16)]) (st' := [.int 0, .int x1, .ref (q29 * 1024 + 7)]) 2 rfl ?_
          obtain ⟨A30, hA30, hD⟩ := Option.bind_eq_some_iff.mp hD
          refine k_cstI q29 7 (K := 2) kq29 rfl rfl rfl (fun _ => rfl) hA30 ?_
          refine k_runB (pc' := 2) (loc' := [(0, .ref (36 * 1024)), (1, .int (x1 + 1)), (2, .int v4), (3, .int v16)]) (st' := []) 2 rfl ?_
          refine k_wk [0, 1] (loc' := [(0, .ref (36 * 1024)), (1, .int (x1 + 1))]) rfl rfl ?_
          exact hK2 _ _ _ _ _ _  hD
/-- SleepWork$Sleep.getUp()V  -/
def e_Sleep_getUp (n : Nat) (P : Nat → Nat → Nat) (F : Nat → Nat → Int32) (A : Nat → Nat → Nat → Int32) (J : Nat → Nat → Nat → Int64) : Option (Unit × (Nat → Nat → Nat) × (Nat → Nat → Int32) × (Nat → Nat → Nat → Int32) × (Nat → Nat → Nat → Int64)) :=
  e_Sleep_getUp_2 n P F A J 0
set_option maxRecDepth 10000 in
theorem t_e_Sleep_getUp (ht : ∀ ci k, t.1 ci k = k_ty ci k) {n : Nat} {P : Nat → Nat → Nat} {F : Nat → Nat → Int32} {A : Nat → Nat → Nat → Int32} {J : Nat → Nat → Nat → Int64}   {w : Unit × (Nat → Nat → Nat) × (Nat → Nat → Int32) × (Nat → Nat → Nat → Int32) × (Nat → Nat → Nat → Int64)} : e_Sleep_getUp n P F A J = some w → k_run t lg (d + 3) 76 0 [(0, .ref (36 * 1024))] [] (c_h c B P F A J) (none, c_h c B w.2.1 w.2.2.1 w.2.2.2.1 w.2.2.2.2) := by
  intro hD
  unfold e_Sleep_getUp at hD
  refine k_runB (pc' := 2) (loc' := [(0, .ref (36 * 1024)), (1, .int 0)]) (st' := []) 2 rfl ?_
  refine k_wk [0, 1] (loc' := [(0, .ref (36 * 1024)), (1, .int 0)]) rfl rfl ?_
  exact t_e_Sleep_getUp_2 ht   hD
def e_Sleep_nextMinute_5 : Nat → (Nat → Nat → Nat) → (Nat → Nat → Int32) → (Nat → Nat → Nat → Int32) → (Nat → Nat → Nat → Int64) → Int32 → Int32 → Option (Int32 × (Nat → Nat → Nat) × (Nat → Nat → Int32) × (Nat → Nat → Nat → Int32) × (Nat → Nat → Nat → Int64))
  | 0, _, _, _, _, _, _ => none
  | n + 1, P, F, A, J, x1, x2 => (c_chk 6 (P 36 8)).bind fun q1 =>
    cond (g_cnd .ge x2 (F q1 17))
    (some (x1, P, F, A, J))
    ((m_ld (A 36 3) 6 x2).bind fun v3 =>
    (e_Sleep_nextMinute_5 n) P F A J (if v3 < x1 then v3 else x1) (x2 + 1))
set_option maxRecDepth 10000 in
theorem t_e_Sleep_nextMinute_5 {n : Nat}  {P : Nat → Nat → Nat} {F : Nat → Nat → Int32} {A : Nat → Nat → Nat → Int32} {J : Nat → Nat → Nat → Int64} {x1 : Int32} {x2 : Int32}  {w : Int32 × (Nat → Nat → Nat) × (Nat → Nat → Int32) × (Nat → Nat → Nat → Int32) × (Nat → Nat → Nat → Int64)} : e_Sleep_nextMinute_5 n P F A J x1 x2 = some w → k_run t lg (d) 77 5 [(0, .ref (36 * 1024)), (1, .int x1), (2, .int x2)] [] (c_h c B P F A J) (some (.int w.1), c_h c B w.2.1 w.2.2.1 w.2.2.2.1 w.2.2.2.2) := by
  induction n generalizing P F A J x1 x2 w with
  | zero => intro hD; cases hD
  | succ n ih =>
    intro hD
    have hK5 : ∀ (P : Nat → Nat → Nat) (F : Nat → Nat → Int32) (A : Nat → Nat → Nat → Int32) (J : Nat → Nat → Nat → Int64) (x1 : Int32) (x2 : Int32) (w : Int32 × (Nat → Nat → Nat) × (Nat → Nat → Int32) × (Nat → Nat → Nat → Int32) × (Nat → Nat → Nat → Int64)), e_Sleep_nextMinute_5 n P F A J x1 x2 = some w → k_run t lg (d) 77 5 [(0, .ref (36 * 1024)), (1, .int x1), (2, .int x2)] [] (c_h c B P F A J) (some (.int w.1), c_h c B w.2.1 w.2.2.1 w.2.2.2.1 w.2.2.2.2) := fun _ _ _ _ _ _ _  h => ih  h
    unfold e_Sleep_nextMinute_5 at hD
    refine k_runB (pc' := 7) (loc' := [(0, .ref (36 * 1024)), (1, .int x1), (2, .int x2)]) (st' := [.ref (36 * 1024), .int x2]) 2 rfl ?_
    obtain ⟨q1, hq1, hD⟩ := Option.bind_eq_some_iff.mp hD
    refine k_gq 36 0 (K := 10) (K2 := 6) (key := 8) rfl rfl rfl rfl rfl hq1 (fun kq1 => ?_)
    refine k_gf q1 0 (K := 6) kq1 rfl rfl rfl rfl ?_
    refine k_ic rfl (fun c13_1 => ?_) (fun c13_1 => ?_)
    · rw [c13_1, cond_true] at hD
      refine k_runB (pc' := 34) (loc' := [(0, .ref (36 * 1024)), (1, .int x1), (2, .int x2)]) (st' := [.int x1]) 1 rfl ?_
      cases hD
      exact k_iret rfl rfl
    · rw [c13_1, cond_false] at hD
      refine k_runB (pc' := 18) (loc' := [(0, .ref (36 * 1024)), (1, .int x1), (2, .int x2)]) (st' := [.ref (36 * 1024), .int x1]) 2 rfl ?_
      refine k_gf 36 0 (K := 10) rfl rfl rfl rfl rfl ?_
      refine k_runB (pc' := 22) (loc' := [(0, .ref (36 * 1024)), (1, .int x1), (2, .int x2)]) (st' := [.int x2, .ref (36 * 1024 + 3), .int x1]) 1 rfl ?_
      obtain ⟨v3, hv3, hD⟩ := Option.bind_eq_some_iff.mp hD
      refine k_ldI rfl (c_get (r := 36) (o := 3) (K := 10) rfl (by decide)) hv3 ?_
      refine k_runB (pc' := 5) (loc' := [(0, .ref (36 * 1024)), (1, .int (if v3 < x1 then v3 else x1)), (2, .int (x2 + 1))]) (st' := []) 4 rfl ?_
      refine k_wk [0, 1, 2] (loc' := [(0, .ref (36 * 1024)), (1, .int (if v3 < x1 then v3 else x1)), (2, .int (x2 + 1))]) rfl rfl ?_
      exact hK5 _ _ _ _ _ _ _  hD
/-- SleepWork$Sleep.nextMinute()I  -/
def e_Sleep_nextMinute (n : Nat) (P : Nat → Nat → Nat) (F : Nat → Nat → Int32) (A : Nat → Nat → Nat → Int32) (J : Nat → Nat → Nat → Int64) : Option (Int32 × (Nat → Nat → Nat) × (Nat → Nat → Int32) × (Nat → Nat → Nat → Int32) × (Nat → Nat → Nat → Int64)) :=
  e_Sleep_nextMinute_5 n P F A J 1000000 0
set_option maxRecDepth 10000 in
theorem t_e_Sleep_nextMinute {n : Nat} {P : Nat → Nat → Nat} {F : Nat → Nat → Int32} {A : Nat → Nat → Nat → Int32} {J : Nat → Nat → Nat → Int64}   {w : Int32 × (Nat → Nat → Nat) × (Nat → Nat → Int32) × (Nat → Nat → Nat → Int32) × (Nat → Nat → Nat → Int64)} : e_Sleep_nextMinute n P F A J = some w → k_run t lg (d) 77 0 [(0, .ref (36 * 1024))] [] (c_h c B P F A J) (some (.int w.1), c_h c B w.2.1 w.2.2.1 w.2.2.2.1 w.2.2.2.2) := by
  intro hD
  unfold e_Sleep_nextMinute at hD
  refine k_runB (pc' := 5) (loc' := [(0, .ref (36 * 1024)), (1, .int 1000000), (2, .int 0)]) (st' := []) 4 rfl ?_
  refine k_wk [0, 1, 2] (loc' := [(0, .ref (36 * 1024)), (1, .int 1000000), (2, .int 0)]) rfl rfl ?_
  exact t_e_Sleep_nextMinute_5   hD
/-- SleepWork$House.finish(LSleepWork$State;II)V  -/
def e_House_finish (P : Nat → Nat → Nat) (F : Nat → Nat → Int32) (A : Nat → Nat → Nat → Int32) (J : Nat → Nat → Nat → Int64) (r0 : Nat) (r1 : Nat) (x2 : Int32) (x3 : Int32) : Option (Unit × (Nat → Nat → Nat) × (Nat → Nat → Int32) × (Nat → Nat → Nat → Int32) × (Nat → Nat → Nat → Int64)) :=
  (m_ld (A r1 1) 36 ((x2 * 6) + x3)).bind fun v1 =>
  (c_st A r1 1 36 ((x2 * 6) + x3) (v1 + 1)).bind fun A2 =>
  (m_ld (A2 r0 11) 36 ((x2 * 6) + x3)).bind fun v3 =>
  cond (g_cnd .lt v3 0)
  (some ((), P, F, A2, J))
  ((m_ld (A2 r1 1) 36 ((x2 * 6) + v3)).bind fun v5 =>
  cond (g_cnd .le v5 0)
  (some ((), P, F, A2, J))
  ((m_ld (A2 r1 1) 36 ((x2 * 6) + v3)).bind fun v7 =>
  (c_st A2 r1 1 36 ((x2 * 6) + v3) (v7 - 1)).bind fun A8 =>
  some ((), P, F, A8, J)))
set_option maxRecDepth 10000 in
theorem t_e_House_finish {P : Nat → Nat → Nat} {F : Nat → Nat → Int32} {A : Nat → Nat → Nat → Int32} {J : Nat → Nat → Nat → Int64} {r0 : Nat} {r1 : Nat} {x2 : Int32} {x3 : Int32} (hr0 : c_kind r0 = 6) (hr1 : c_kind r1 = 2) {w : Unit × (Nat → Nat → Nat) × (Nat → Nat → Int32) × (Nat → Nat → Nat → Int32) × (Nat → Nat → Nat → Int64)} : e_House_finish P F A J r0 r1 x2 x3 = some w → k_run t lg (d) 28 0 [(0, .ref (r0 * 1024)), (1, .ref (r1 * 1024)), (2, .int x2), (3, .int x3)] [] (c_h c B P F A J) (none, c_h c B w.2.1 w.2.2.1 w.2.2.2.1 w.2.2.2.2) := by
  intro hD
  unfold e_House_finish at hD
  refine k_runB (pc' := 9) (loc' := [(0, .ref (r0 * 1024)), (1, .ref (r1 * 1024)), (2, .int x2), (3, .int x3), (4, .int ((x2 * 6) + x3))]) (st' := [.ref (r1 * 1024)]) 7 rfl ?_
  refine k_gf r1 0 (K := 2) hr1 rfl rfl rfl rfl ?_
  refine k_runB (pc' := 15) (loc' := [(0, .ref (r0 * 1024)), (1, .ref (r1 * 1024)), (2, .int x2), (3, .int x3), (4, .int ((x2 * 6) + x3))]) (st' := [.int ((x2 * 6) + x3), .ref (r1 * 1024 + 1), .int ((x2 * 6) + x3), .ref (r1 * 1024 + 1)]) 2 rfl ?_
  obtain ⟨v1, hv1, hD⟩ := Option.bind_eq_some_iff.mp hD
  refine k_ldI rfl (c_get (r := r1) (o := 1) (K := 2) hr1 (by decide)) hv1 ?_
  refine k_runB (pc' := 18) (loc' := [(0, .ref (r0 * 1024)), (1, .ref (r1 * 1024)), (2, .int x2), (3, .int x3), (4, .int ((x2 * 6) + x3))]) (st' := [.int (v1 + 1), .int ((x2 * 6) + x3), .ref (r1 * 1024 + 1)]) 2 rfl ?_
  obtain ⟨A2, hA2, hD⟩ := Option.bind_eq_some_iff.mp hD
  refine k_cstI r1 1 (K := 2) hr1 rfl rfl rfl (fun _ => rfl) hA2 ?_
  refine k_runB (pc' := 20) (loc' := [(0, .ref (r0 * 1024)), (1, .ref (r1 * 1024)), (2, .int x2), (3, .int x3), (4, .int ((x2 * 6) + x3))]) (st' := [.ref (r0 * 1024)]) 1 rfl ?_
  refine k_gf r0 0 (K := 6) hr0 rfl rfl rfl rfl ?_
  refine k_runB (pc' := 25) (loc' := [(0, .ref (r0 * 1024)), (1, .ref (r1 * 1024)), (2, .int x2), (3, .int x3), (4, .int ((x2 * 6) + x3))]) (st' := [.int ((x2 * 6) + x3), .ref (r0 * 1024 + 11)]) 1 rfl ?_
  obtain ⟨v3, hv3, hD⟩ := Option.bind_eq_some_iff.mp hD
  refine k_ldI rfl (c_get (r := r0) (o := 11) (K := 6) hr0 (by decide)) hv3 ?_
  refine k_runB (pc' := 30) (loc' := [(0, .ref (r0 * 1024)), (1, .ref (r1 * 1024)), (2, .int x2), (3, .int x3), (4, .int ((x2 * 6) + x3)), (5, .int v3)]) (st' := [.int v3]) 2 rfl ?_
  refine k_if rfl (fun c30_3 => ?_) (fun c30_3 => ?_)
  · rw [c30_3, cond_true] at hD
    cases hD
    exact k_vret rfl rfl
  · rw [c30_3, cond_false] at hD
    refine k_runB (pc' := 34) (loc' := [(0, .ref (r0 * 1024)), (1, .ref (r1 * 1024)), (2, .int x2), (3, .int x3), (4, .int ((x2 * 6) + x3)), (5, .int v3)]) (st' := [.ref (r1 * 1024)]) 1 rfl ?_
    refine k_gf r1 0 (K := 2) hr1 rfl rfl rfl rfl ?_
    refine k_runB (pc' := 44) (loc' := [(0, .ref (r0 * 1024)), (1, .ref (r1 * 1024)), (2, .int x2), (3, .int x3), (4, .int ((x2 * 6) + x3)), (5, .int v3)]) (st' := [.int ((x2 * 6) + v3), .ref (r1 * 1024 + 1)]) 5 rfl ?_
    obtain ⟨v5, hv5, hD⟩ := Option.bind_eq_some_iff.mp hD
    refine k_ldI rfl (c_get (r := r1) (o := 1) (K := 2) hr1 (by decide)) hv5 ?_
    refine k_if rfl (fun c45_5 => ?_) (fun c45_5 => ?_)
    · rw [c45_5, cond_true] at hD
      cases hD
      exact k_vret rfl rfl
    · rw [c45_5, cond_false] at hD
      refine k_runB (pc' := 49) (loc' := [(0, .ref (r0 * 1024)), (1, .ref (r1 * 1024)), (2, .int x2), (3, .int x3), (4, .int ((x2 * 6) + x3)), (5, .int v3)]) (st' := [.ref (r1 * 1024)]) 1 rfl ?_
      refine k_gf r1 0 (K := 2) hr1 rfl rfl rfl rfl ?_
      refine k_runB (pc' := 60) (loc' := [(0, .ref (r0 * 1024)), (1, .ref (r1 * 1024)), (2, .int x2), (3, .int x3), (4, .int ((x2 * 6) + x3)), (5, .int v3)]) (st' := [.int ((x2 * 6) + v3), .ref (r1 * 1024 + 1), .int ((x2 * 6) + v3), .ref (r1 * 1024 + 1)]) 6 rfl ?_
      obtain ⟨v7, hv7, hD⟩ := Option.bind_eq_some_iff.mp hD
      refine k_ldI rfl (c_get (r := r1) (o := 1) (K := 2) hr1 (by decide)) hv7 ?_
      refine k_runB (pc' := 63) (loc' := [(0, .ref (r0 * 1024)), (1, .ref (r1 * 1024)), (2, .int x2), (3, .int x3), (4, .int ((x2 * 6) + x3)), (5, .int v3)]) (st' := [.int (v7 - 1), .int ((x2 * 6) + v3), .ref (r1 * 1024 + 1)]) 2 rfl ?_
      obtain ⟨A8, hA8, hD⟩ := Option.bind_eq_some_iff.mp hD
      refine k_cstI r1 1 (K := 2) hr1 rfl rfl rfl (fun _ => rfl) hA8 ?_
      cases hD
      exact k_vret rfl rfl
def e_Sleep_finishAll_122 (K2 : (Nat → Nat → Nat) → (Nat → Nat → Int32) → (Nat → Nat → Nat → Int32) → (Nat → Nat → Nat → Int64) → Int32 → Int32 → Option (Unit × (Nat → Nat → Nat) × (Nat → Nat → Int32) × (Nat → Nat → Nat → Int32) × (Nat → Nat → Nat → Int64))) (n : Nat) (P : Nat → Nat → Nat) (F : Nat → Nat → Int32) (A : Nat → Nat → Nat → Int32) (J : Nat → Nat → Nat → Int64) (x1 : Int32) (x2 : Int32) : Option (Unit × (Nat → Nat → Nat) × (Nat → Nat → Int32) × (Nat → Nat → Nat → Int32) × (Nat → Nat → Nat → Int64)) :=
    K2 P F A J x1 (x2 + 1)
set_option maxRecDepth 10000 in
theorem t_e_Sleep_finishAll_122 {n : Nat} {K2 : (Nat → Nat → Nat) → (Nat → Nat → Int32) → (Nat → Nat → Nat → Int32) → (Nat → Nat → Nat → Int64) → Int32 → Int32 → Option (Unit × (Nat → Nat → Nat) × (Nat → Nat → Int32) × (Nat → Nat → Nat → Int32) × (Nat → Nat → Nat → Int64))} (hK2 : ∀ (P : Nat → Nat → Nat) (F : Nat → Nat → Int32) (A : Nat → Nat → Nat → Int32) (J : Nat → Nat → Nat → Int64) (x1 : Int32) (x2 : Int32) (w : Unit × (Nat → Nat → Nat) × (Nat → Nat → Int32) × (Nat → Nat → Nat → Int32) × (Nat → Nat → Nat → Int64)), K2 P F A J x1 x2 = some w → k_run t lg (d + 1) 78 2 [(0, .ref (36 * 1024)), (1, .int x1), (2, .int x2)] [] (c_h c B P F A J) (none, c_h c B w.2.1 w.2.2.1 w.2.2.2.1 w.2.2.2.2)) {P : Nat → Nat → Nat} {F : Nat → Nat → Int32} {A : Nat → Nat → Nat → Int32} {J : Nat → Nat → Nat → Int64} {x1 : Int32} {x2 : Int32}  {w : Unit × (Nat → Nat → Nat) × (Nat → Nat → Int32) × (Nat → Nat → Nat → Int32) × (Nat → Nat → Nat → Int64)} : e_Sleep_finishAll_122 K2 n P F A J x1 x2 = some w → k_run t lg (d + 1) 78 122 [(0, .ref (36 * 1024)), (1, .int x1), (2, .int x2)] [] (c_h c B P F A J) (none, c_h c B w.2.1 w.2.2.1 w.2.2.2.1 w.2.2.2.2) := by
  intro hD
  unfold e_Sleep_finishAll_122 at hD
  refine k_runB (pc' := 2) (loc' := [(0, .ref (36 * 1024)), (1, .int x1), (2, .int (x2 + 1))]) (st' := []) 2 rfl ?_
  refine k_wk [0, 1, 2] (loc' := [(0, .ref (36 * 1024)), (1, .int x1), (2, .int (x2 + 1))]) rfl rfl ?_
  exact hK2 _ _ _ _ _ _ _  hD
def e_Sleep_finishAll_97 (K2 : (Nat → Nat → Nat) → (Nat → Nat → Int32) → (Nat → Nat → Nat → Int32) → (Nat → Nat → Nat → Int64) → Int32 → Int32 → Option (Unit × (Nat → Nat → Nat) × (Nat → Nat → Int32) × (Nat → Nat → Nat → Int32) × (Nat → Nat → Nat → Int64))) (n : Nat) (P : Nat → Nat → Nat) (F : Nat → Nat → Int32) (A : Nat → Nat → Nat → Int32) (J : Nat → Nat → Nat → Int64) (x1 : Int32) (x2 : Int32) (x4 : Int32) : Option (Unit × (Nat → Nat → Nat) × (Nat → Nat → Int32) × (Nat → Nat → Nat → Int32) × (Nat → Nat → Nat → Int64)) :=
    (c_st A 36 5 6 x2 x4).bind fun A26 =>
    (m_ld (A26 36 6) 6 x2).bind fun v27 =>
    (c_st A26 36 6 6 x2 (v27 + 1)).bind fun A28 =>
    (c_st A28 36 4 6 x2 ((-1))).bind fun A29 =>
    K2 P F A29 J x1 (x2 + 1)
set_option maxRecDepth 10000 in
theorem t_e_Sleep_finishAll_97 {n : Nat} {K2 : (Nat → Nat → Nat) → (Nat → Nat → Int32) → (Nat → Nat → Nat → Int32) → (Nat → Nat → Nat → Int64) → Int32 → Int32 → Option (Unit × (Nat → Nat → Nat) × (Nat → Nat → Int32) × (Nat → Nat → Nat → Int32) × (Nat → Nat → Nat → Int64))} (hK2 : ∀ (P : Nat → Nat → Nat) (F : Nat → Nat → Int32) (A : Nat → Nat → Nat → Int32) (J : Nat → Nat → Nat → Int64) (x1 : Int32) (x2 : Int32) (w : Unit × (Nat → Nat → Nat) × (Nat → Nat → Int32) × (Nat → Nat → Nat → Int32) × (Nat → Nat → Nat → Int64)), K2 P F A J x1 x2 = some w → k_run t lg (d + 1) 78 2 [(0, .ref (36 * 1024)), (1, .int x1), (2, .int x2)] [] (c_h c B P F A J) (none, c_h c B w.2.1 w.2.2.1 w.2.2.2.1 w.2.2.2.2)) {P : Nat → Nat → Nat} {F : Nat → Nat → Int32} {A : Nat → Nat → Nat → Int32} {J : Nat → Nat → Nat → Int64} {x1 : Int32} {x2 : Int32} {x4 : Int32}  {w : Unit × (Nat → Nat → Nat) × (Nat → Nat → Int32) × (Nat → Nat → Nat → Int32) × (Nat → Nat → Nat → Int64)} : e_Sleep_finishAll_97 K2 n P F A J x1 x2 x4 = some w → k_run t lg (d + 1) 78 97 [(0, .ref (36 * 1024)), (1, .int x1), (2, .int x2), (4, .int x4)] [] (c_h c B P F A J) (none, c_h c B w.2.1 w.2.2.1 w.2.2.2.1 w.2.2.2.2) := by
  intro hD
  unfold e_Sleep_finishAll_97 at hD
  refine k_runB (pc' := 98) (loc' := [(0, .ref (36 * 1024)), (1, .int x1), (2, .int x2), (4, .int x4)]) (st' := [.ref (36 * 1024)]) 1 rfl ?_
  refine k_gf 36 0 (K := 10) rfl rfl rfl rfl rfl ?_
  refine k_runB (pc' := 104) (loc' := [(0, .ref (36 * 1024)), (1, .int x1), (2, .int x2), (4, .int x4)]) (st' := [.int x4, .int x2, .ref (36 * 1024 + 5)]) 2 rfl ?_
  obtain ⟨A26, hA26, hD⟩ := Option.bind_eq_some_iff.mp hD
  refine k_cstI 36 5 (K := 10) rfl rfl rfl rfl (fun _ => rfl) hA26 ?_
  refine k_runB (pc' := 106) (loc' := [(0, .ref (36 * 1024)), (1, .int x1), (2, .int x2), (4, .int x4)]) (st' := [.ref (36 * 1024)]) 1 rfl ?_
  refine k_gf 36 0 (K := 10) rfl rfl rfl rfl rfl ?_
  refine k_runB (pc' := 111) (loc' := [(0, .ref (36 * 1024)), (1, .int x1), (2, .int x2), (4, .int x4)]) (st' := [.int x2, .ref (36 * 1024 + 6), .int x2, .ref (36 * 1024 + 6)]) 2 rfl ?_
  obtain ⟨v27, hv27, hD⟩ := Option.bind_eq_some_iff.mp hD
  refine k_ldI rfl (c_get (r := 36) (o := 6) (K := 10) rfl (by decide)) hv27 ?_
  refine k_runB (pc' := 114) (loc' := [(0, .ref (36 * 1024)), (1, .int x1), (2, .int x2), (4, .int x4)]) (st' := [.int (v27 + 1), .int x2, .ref (36 * 1024 + 6)]) 2 rfl ?_
  obtain ⟨A28, hA28, hD⟩ := Option.bind_eq_some_iff.mp hD
  refine k_cstI 36 6 (K := 10) rfl rfl rfl rfl (fun _ => rfl) hA28 ?_
  refine k_runB (pc' := 116) (loc' := [(0, .ref (36 * 1024)), (1, .int x1), (2, .int x2), (4, .int x4)]) (st' := [.ref (36 * 1024)]) 1 rfl ?_
  refine k_gf 36 0 (K := 10) rfl rfl rfl rfl rfl ?_
  refine k_runB (pc' := 121) (loc' := [(0, .ref (36 * 1024)), (1, .int x1), (2, .int x2), (4, .int x4)]) (st' := [.int ((-1)), .int x2, .ref (36 * 1024 + 4)]) 2 rfl ?_
  obtain ⟨A29, hA29, hD⟩ := Option.bind_eq_some_iff.mp hD
  refine k_cstI 36 4 (K := 10) rfl rfl rfl rfl (fun _ => rfl) hA29 ?_
  refine k_runB (pc' := 2) (loc' := [(0, .ref (36 * 1024)), (1, .int x1), (2, .int (x2 + 1)), (4, .int x4)]) (st' := []) 2 rfl ?_
  refine k_wk [0, 1, 2] (loc' := [(0, .ref (36 * 1024)), (1, .int x1), (2, .int (x2 + 1))]) rfl rfl ?_
  exact hK2 _ _ _ _ _ _ _  hD
def e_Sleep_finishAll_2 : Nat → (Nat → Nat → Nat) → (Nat → Nat → Int32) → (Nat → Nat → Nat → Int32) → (Nat → Nat → Nat → Int64) → Int32 → Int32 → Option (Unit × (Nat → Nat → Nat) × (Nat → Nat → Int32) × (Nat → Nat → Nat → Int32) × (Nat → Nat → Nat → Int64))
  | 0, _, _, _, _, _, _ => none
  | n + 1, P, F, A, J, x1, x2 => (c_chk 6 (P 36 8)).bind fun q1 =>
    cond (g_cnd .ge x2 (F q1 17))
    (some ((), P, F, A, J))
    ((m_ld (A 36 3) 6 x2).bind fun v3 =>
    cond (g_cnd .ne v3 x1)
    (e_Sleep_finishAll_122 (e_Sleep_finishAll_2 n) n P F A J x1 x2)
    ((m_ld (A 36 4) 6 x2).bind fun v5 =>
    cond (g_cnd .lt v5 0)
    (e_Sleep_finishAll_122 (e_Sleep_finishAll_2 n) n P F A J x1 x2)
    ((c_chk 2 (P 36 9)).bind fun q7 =>
    (m_ld (A q7 3) 6 x2).bind fun v8 =>
    (m_div v8 6).bind fun v9 =>
    (m_ld (A 36 4) 6 x2).bind fun v10 =>
    (c_chk 6 (P 36 8)).bind fun q11 =>
    (c_chk 2 (P 36 9)).bind fun q12 =>
    (e_House_finish P F A J q11 q12 v9 v10).bind fun (_, P14, F15, A16, J17) =>
    (c_chk 6 (P14 36 8)).bind fun q18 =>
    (m_ld (A16 q18 10) 36 ((v9 * 6) + v10)).bind fun v19 =>
    cond (g_cnd .lt v19 0)
    (e_Sleep_finishAll_97 (e_Sleep_finishAll_2 n) n P14 F15 A16 J17 x1 x2 v10)
    ((c_st A16 36 8 6 v19 0).bind fun A21 =>
    (c_st A21 36 5 6 x2 v10).bind fun A22 =>
    (m_ld (A22 36 6) 6 x2).bind fun v23 =>
    (c_st A22 36 6 6 x2 (v23 + 1)).bind fun A24 =>
    (c_st A24 36 4 6 x2 ((-1))).bind fun A25 =>
    (e_Sleep_finishAll_2 n) P14 F15 A25 J17 x1 (x2 + 1)))))
set_option maxRecDepth 10000 in
theorem t_e_Sleep_finishAll_2 {n : Nat}  {P : Nat → Nat → Nat} {F : Nat → Nat → Int32} {A : Nat → Nat → Nat → Int32} {J : Nat → Nat → Nat → Int64} {x1 : Int32} {x2 : Int32}  {w : Unit × (Nat → Nat → Nat) × (Nat → Nat → Int32) × (Nat → Nat → Nat → Int32) × (Nat → Nat → Nat → Int64)} : e_Sleep_finishAll_2 n P F A J x1 x2 = some w → k_run t lg (d + 1) 78 2 [(0, .ref (36 * 1024)), (1, .int x1), (2, .int x2)] [] (c_h c B P F A J) (none, c_h c B w.2.1 w.2.2.1 w.2.2.2.1 w.2.2.2.2) := by
  induction n generalizing P F A J x1 x2 w with
  | zero => intro hD; cases hD
  | succ n ih =>
    intro hD
    have hK2 : ∀ (P : Nat → Nat → Nat) (F : Nat → Nat → Int32) (A : Nat → Nat → Nat → Int32) (J : Nat → Nat → Nat → Int64) (x1 : Int32) (x2 : Int32) (w : Unit × (Nat → Nat → Nat) × (Nat → Nat → Int32) × (Nat → Nat → Nat → Int32) × (Nat → Nat → Nat → Int64)), e_Sleep_finishAll_2 n P F A J x1 x2 = some w → k_run t lg (d + 1) 78 2 [(0, .ref (36 * 1024)), (1, .int x1), (2, .int x2)] [] (c_h c B P F A J) (none, c_h c B w.2.1 w.2.2.1 w.2.2.2.1 w.2.2.2.2) := fun _ _ _ _ _ _ _  h => ih  h
    unfold e_Sleep_finishAll_2 at hD
    refine k_runB (pc' := 4) (loc' := [(0, .ref (36 * 1024)), (1, .int x1), (2, .int x2)]) (st' := [.ref (36 * 1024), .int x2]) 2 rfl ?_
    obtain ⟨q1, hq1, hD⟩ := Option.bind_eq_some_iff.mp hD
    refine k_gq 36 0 (K := 10) (K2 := 6) (key := 8) rfl rfl rfl rfl rfl hq1 (fun kq1 => ?_)
    refine k_gf q1 0 (K := 6) kq1 rfl rfl rfl rfl ?_
    refine k_ic rfl (fun c10_1 => ?_) (fun c10_1 => ?_)
    · rw [c10_1, cond_true] at hD
      cases hD
      exact k_vret rfl rfl
    · rw [c10_1, cond_false] at hD
      refine k_runB (pc' := 14) (loc' := [(0, .ref (36 * 1024)), (1, .int x1), (2, .int x2)]) (st' := [.ref (36 * 1024)]) 1 rfl ?_
      refine k_gf 36 0 (K := 10) rfl rfl rfl rfl rfl ?_
      refine k_runB (pc' := 18) (loc' := [(0, .ref (36 * 1024)), (1, .int x1), (2, .int x2)]) (st' := [.int x2, .ref (36 * 1024 + 3)]) 1 rfl ?_
      obtain ⟨v3, hv3, hD⟩ := Option.bind_eq_some_iff.mp hD
      refine k_ldI rfl (c_get (r := 36) (o := 3) (K := 10) rfl (by decide)) hv3 ?_
      refine k_runB (pc' := 20) (loc' := [(0, .ref (36 * 1024)), (1, .int x1), (2, .int x2)]) (st' := [.int x1, .int v3]) 1 rfl ?_
      refine k_ic rfl (fun c20_3 => ?_) (fun c20_3 => ?_)
      · rw [c20_3, cond_true] at hD
        refine k_wk [0, 1, 2] (loc' := [(0, .ref (36 * 1024)), (1, .int x1), (2, .int x2)]) rfl rfl ?_
        exact t_e_Sleep_finishAll_122 hK2  hD
      · rw [c20_3, cond_false] at hD
        refine k_runB (pc' := 24) (loc' := [(0, .ref (36 * 1024)), (1, .int x1), (2, .int x2)]) (st' := [.ref (36 * 1024)]) 1 rfl ?_
        refine k_gf 36 0 (K := 10) rfl rfl rfl rfl rfl ?_
        refine k_runB (pc' := 28) (loc' := [(0, .ref (36 * 1024)), (1, .int x1), (2, .int x2)]) (st' := [.int x2, .ref (36 * 1024 + 4)]) 1 rfl ?_
        obtain ⟨v5, hv5, hD⟩ := Option.bind_eq_some_iff.mp hD
        refine k_ldI rfl (c_get (r := 36) (o := 4) (K := 10) rfl (by decide)) hv5 ?_
        refine k_if rfl (fun c29_5 => ?_) (fun c29_5 => ?_)
        · rw [c29_5, cond_true] at hD
          refine k_wk [0, 1, 2] (loc' := [(0, .ref (36 * 1024)), (1, .int x1), (2, .int x2)]) rfl rfl ?_
          exact t_e_Sleep_finishAll_122 hK2  hD
        · rw [c29_5, cond_false] at hD
          refine k_runB (pc' := 33) (loc' := [(0, .ref (36 * 1024)), (1, .int x1), (2, .int x2)]) (st' := [.ref (36 * 1024)]) 1 rfl ?_
          obtain ⟨q7, hq7, hD⟩ := Option.bind_eq_some_iff.mp hD
          refine k_gq 36 0 (K := 10) (K2 := 2) (key := 9) rfl rfl rfl rfl rfl hq7 (fun kq7 => ?_)
          refine k_gf q7 0 (K := 2) kq7 rfl rfl rfl rfl ?_
          refine k_runB (pc' := 40) (loc' := [(0, .ref (36 * 1024)), (1, .int x1), (2, .int x2)]) (st' := [.int x2, .ref (q7 * 1024 + 3)]) 1 rfl ?_
          obtain ⟨v8, hv8, hD⟩ := Option.bind_eq_some_iff.mp hD
          refine k_ldI rfl (c_get (r := q7) (o := 3) (K := 2) kq7 (by decide)) hv8 ?_
          refine k_runB (pc' := 43) (loc' := [(0, .ref (36 * 1024)), (1, .int x1), (2, .int x2)]) (st' := [.int 6, .int v8]) 1 rfl ?_
          obtain ⟨v9, hv9, hD⟩ := Option.bind_eq_some_iff.mp hD
          refine k_dvI rfl hv9 ?_
          refine k_runB (pc' := 46) (loc' := [(0, .ref (36 * 1024)), (1, .int x1), (2, .int x2), (3, .int v9)]) (st' := [.ref (36 * 1024)]) 2 rfl ?_
          refine k_gf 36 0 (K := 10) rfl rfl rfl rfl rfl ?_
          refine k_runB (pc' := 50) (loc' := [(0, .ref (36 * 1024)), (1, .int x1), (2, .int x2), (3, .int v9)]) (st' := [.int x2, .ref (36 * 1024 + 4)]) 1 rfl ?_
          obtain ⟨v10, hv10, hD⟩ := Option.bind_eq_some_iff.mp hD
          refine k_ldI rfl (c_get (r := 36) (o := 4) (K := 10) rfl (by decide)) hv10 ?_
          refine k_runB (pc' := 54) (loc' := [(0, .ref (36 * 1024)), (1, .int x1), (2, .int x2), (3, .int v9), (4, .int v10)]) (st' := [.ref (36 * 1024)]) 2 rfl ?_
          obtain ⟨q11, hq11, hD⟩ := Option.bind_eq_some_iff.mp hD
          refine k_gq 36 0 (K := 10) (K2 := 6) (key := 8) rfl rfl rfl rfl rfl hq11 (fun kq11 => ?_)
          refine k_runB (pc' := 58) (loc' := [(0, .ref (36 * 1024)), (1, .int x1), (2, .int x2), (3, .int v9), (4, .int v10)]) (st' := [.ref (36 * 1024), .ref (q11 * 1024)]) 1 rfl ?_
          obtain ⟨q12, hq12, hD⟩ := Option.bind_eq_some_iff.mp hD
          refine k_gq 36 0 (K := 10) (K2 := 2) (key := 9) rfl rfl rfl rfl rfl hq12 (fun kq12 => ?_)
          refine k_runB (pc' := 64) (loc' := [(0, .ref (36 * 1024)), (1, .int x1), (2, .int x2), (3, .int v9), (4, .int v10)]) (st' := [.int v10, .int v9, .ref (q12 * 1024), .ref (q11 * 1024)]) 2 rfl ?_
          obtain ⟨⟨v13, P14, F15, A16, J17⟩, hv13, hD⟩ := Option.bind_eq_some_iff.mp hD
          dsimp only at hD
          refine k_runV rfl rfl rfl (c_get (r := q11) (o := 0) (K := 6) kq11 (by decide)) rfl rfl (t_e_House_finish (d := d) kq11 kq12 hv13) ?_
          refine k_runB (pc' := 68) (loc' := [(0, .ref (36 * 1024)), (1, .int x1), (2, .int x2), (3, .int v9), (4, .int v10)]) (st' := [.ref (36 * 1024)]) 1 rfl ?_
          obtain ⟨q18, hq18, hD⟩ := Option.bind_eq_some_iff.mp hD
          refine k_gq 36 0 (K := 10) (K2 := 6) (key := 8) rfl rfl rfl rfl rfl hq18 (fun kq18 => ?_)
          refine k_gf q18 0 (K := 6) kq18 rfl rfl rfl rfl ?_
          refine k_runB (pc' := 81) (loc' := [(0, .ref (36 * 1024)), (1, .int x1), (2, .int x2), (3, .int v9), (4, .int v10)]) (st' := [.int ((v9 * 6) + v10), .ref (q18 * 1024 + 10)]) 5 rfl ?_
          obtain ⟨v19, hv19, hD⟩ := Option.bind_eq_some_iff.mp hD
          refine k_ldI rfl (c_get (r := q18) (o := 10) (K := 6) kq18 (by decide)) hv19 ?_
          refine k_runB (pc' := 86) (loc' := [(0, .ref (36 * 1024)), (1, .int x1), (2, .int x2), (3, .int v9), (4, .int v10), (5, .int v19)]) (st' := [.int v19]) 2 rfl ?_
          refine k_if rfl (fun c86_19 => ?_) (fun c86_19 => ?_)
          · rw [c86_19, cond_true] at hD
            refine k_wk [0, 1, 2, 4] (loc' := [(0, .ref (36 * 1024)), (1, .int x1), (2, .int x2), (4, .int v10)]) rfl rfl ?_
            exact t_e_Sleep_finishAll_97 hK2  hD
          · rw [c86_19, cond_false] at hD
            refine k_runB (pc' := 90) (loc' := [(0, .ref (36 * 1024)), (1, .int x1), (2, .int x2), (3, .int v9), (4, .int v10), (5, .int v19)]) (st' := [.ref (36 * 1024)]) 1 rfl ?_
            refine k_gf 36 0 (K := 10) rfl rfl rfl rfl rfl ?_
            refine k_runB (pc' := 96) (loc' := [(0, .ref (36 * 1024)), (1, .int x1), (2, .int x2), (3, .int v9), (4, .int v10), (5, .int v19)]) (st' := [.int 0, .int v19, .ref (36 * 1024 + 8)]) 2 rfl ?_
            obtain ⟨A21, hA21, hD⟩ := Option.bind_eq_some_iff.mp hD
            refine k_cstI 36 8 (K := 10) rfl rfl rfl rfl (fun _ => rfl) hA21 ?_
            refine k_runB (pc' := 98) (loc' := [(0, .ref (36 * 1024)), (1, .int x1), (2, .int x2), (3, .int v9), (4, .int v10), (5, .int v19)]) (st' := [.ref (36 * 1024)]) 1 rfl ?_
            refine k_gf 36 0 (K := 10) rfl rfl rfl rfl rfl ?_
            refine k_runB (pc' := 104) (loc' := [(0, .ref (36 * 1024)), (1, .int x1), (2, .int x2), (3, .int v9), (4, .int v10), (5, .int v19)]) (st' := [.int v10, .int x2, .ref (36 * 1024 + 5)]) 2 rfl ?_
            obtain ⟨A22, hA22, hD⟩ := Option.bind_eq_some_iff.mp hD
            refine k_cstI 36 5 (K := 10) rfl rfl rfl rfl (fun _ => rfl) hA22 ?_
            refine k_runB (pc' := 106) (loc' := [(0, .ref (36 * 1024)), (1, .int x1), (2, .int x2), (3, .int v9), (4, .int v10), (5, .int v19)]) (st' := [.ref (36 * 1024)]) 1 rfl ?_
            refine k_gf 36 0 (K := 10) rfl rfl rfl rfl rfl ?_
            refine k_runB (pc' := 111) (loc' := [(0, .ref (36 * 1024)), (1, .int x1), (2, .int x2), (3, .int v9), (4, .int v10), (5, .int v19)]) (st' := [.int x2, .ref (36 * 1024 + 6), .int x2, .ref (36 * 1024 + 6)]) 2 rfl ?_
            obtain ⟨v23, hv23, hD⟩ := Option.bind_eq_some_iff.mp hD
            refine k_ldI rfl (c_get (r := 36) (o := 6) (K := 10) rfl (by decide)) hv23 ?_
            refine k_runB (pc' := 114) (loc' := [(0, .ref (36 * 1024)), (1, .int x1), (2, .int x2), (3, .int v9), (4, .int v10), (5, .int v19)]) (st' := [.int (v23 + 1), .int x2, .ref (36 * 1024 + 6)]) 2 rfl ?_
            obtain ⟨A24, hA24, hD⟩ := Option.bind_eq_some_iff.mp hD
            refine k_cstI 36 6 (K := 10) rfl rfl rfl rfl (fun _ => rfl) hA24 ?_
            refine k_runB (pc' := 116) (loc' := [(0, .ref (36 * 1024)), (1, .int x1), (2, .int x2), (3, .int v9), (4, .int v10), (5, .int v19)]) (st' := [.ref (36 * 1024)]) 1 rfl ?_
            refine k_gf 36 0 (K := 10) rfl rfl rfl rfl rfl ?_
            refine k_runB (pc' := 121) (loc' := [(0, .ref (36 * 1024)), (1, .int x1), (2, .int x2), (3, .int v9), (4, .int v10), (5, .int v19)]) (st' := [.int ((-1)), .int x2, .ref (36 * 1024 + 4)]) 2 rfl ?_
            obtain ⟨A25, hA25, hD⟩ := Option.bind_eq_some_iff.mp hD
            refine k_cstI 36 4 (K := 10) rfl rfl rfl rfl (fun _ => rfl) hA25 ?_
            refine k_runB (pc' := 2) (loc' := [(0, .ref (36 * 1024)), (1, .int x1), (2, .int (x2 + 1)), (3, .int v9), (4, .int v10), (5, .int v19)]) (st' := []) 2 rfl ?_
            refine k_wk [0, 1, 2] (loc' := [(0, .ref (36 * 1024)), (1, .int x1), (2, .int (x2 + 1))]) rfl rfl ?_
            exact hK2 _ _ _ _ _ _ _  hD
/-- SleepWork$Sleep.finishAll(I)V  -/
def e_Sleep_finishAll (n : Nat) (P : Nat → Nat → Nat) (F : Nat → Nat → Int32) (A : Nat → Nat → Nat → Int32) (J : Nat → Nat → Nat → Int64) (x1 : Int32) : Option (Unit × (Nat → Nat → Nat) × (Nat → Nat → Int32) × (Nat → Nat → Nat → Int32) × (Nat → Nat → Nat → Int64)) :=
  e_Sleep_finishAll_2 n P F A J x1 0
set_option maxRecDepth 10000 in
theorem t_e_Sleep_finishAll {n : Nat} {P : Nat → Nat → Nat} {F : Nat → Nat → Int32} {A : Nat → Nat → Nat → Int32} {J : Nat → Nat → Nat → Int64} {x1 : Int32}  {w : Unit × (Nat → Nat → Nat) × (Nat → Nat → Int32) × (Nat → Nat → Nat → Int32) × (Nat → Nat → Nat → Int64)} : e_Sleep_finishAll n P F A J x1 = some w → k_run t lg (d + 1) 78 0 [(0, .ref (36 * 1024)), (1, .int x1)] [] (c_h c B P F A J) (none, c_h c B w.2.1 w.2.2.1 w.2.2.2.1 w.2.2.2.2) := by
  intro hD
  unfold e_Sleep_finishAll at hD
  refine k_runB (pc' := 2) (loc' := [(0, .ref (36 * 1024)), (1, .int x1), (2, .int 0)]) (st' := []) 2 rfl ?_
  refine k_wk [0, 1, 2] (loc' := [(0, .ref (36 * 1024)), (1, .int x1), (2, .int 0)]) rfl rfl ?_
  exact t_e_Sleep_finishAll_2   hD
def e_Sleep_wakeUp_99 (K2 : (Nat → Nat → Nat) → (Nat → Nat → Int32) → (Nat → Nat → Nat → Int32) → (Nat → Nat → Nat → Int64) → Int32 → Option (Unit × (Nat → Nat → Nat) × (Nat → Nat → Int32) × (Nat → Nat → Nat → Int32) × (Nat → Nat → Nat → Int64))) (n : Nat) (P : Nat → Nat → Nat) (F : Nat → Nat → Int32) (A : Nat → Nat → Nat → Int32) (J : Nat → Nat → Nat → Int64) (x1 : Int32) : Option (Unit × (Nat → Nat → Nat) × (Nat → Nat → Int32) × (Nat → Nat → Nat → Int32) × (Nat → Nat → Nat → Int64)) :=
    K2 P F A J (x1 + 1)
set_option maxRecDepth 10000 in
theorem t_e_Sleep_wakeUp_99 {n : Nat} {K2 : (Nat → Nat → Nat) → (Nat → Nat → Int32) → (Nat → Nat → Nat → Int32) → (Nat → Nat → Nat → Int64) → Int32 → Option (Unit × (Nat → Nat → Nat) × (Nat → Nat → Int32) × (Nat → Nat → Nat → Int32) × (Nat → Nat → Nat → Int64))} (hK2 : ∀ (P : Nat → Nat → Nat) (F : Nat → Nat → Int32) (A : Nat → Nat → Nat → Int32) (J : Nat → Nat → Nat → Int64) (x1 : Int32) (w : Unit × (Nat → Nat → Nat) × (Nat → Nat → Int32) × (Nat → Nat → Nat → Int32) × (Nat → Nat → Nat → Int64)), K2 P F A J x1 = some w → k_run t lg (d) 82 2 [(0, .ref (36 * 1024)), (1, .int x1)] [] (c_h c B P F A J) (none, c_h c B w.2.1 w.2.2.1 w.2.2.2.1 w.2.2.2.2)) {P : Nat → Nat → Nat} {F : Nat → Nat → Int32} {A : Nat → Nat → Nat → Int32} {J : Nat → Nat → Nat → Int64} {x1 : Int32}  {w : Unit × (Nat → Nat → Nat) × (Nat → Nat → Int32) × (Nat → Nat → Nat → Int32) × (Nat → Nat → Nat → Int64)} : e_Sleep_wakeUp_99 K2 n P F A J x1 = some w → k_run t lg (d) 82 99 [(0, .ref (36 * 1024)), (1, .int x1)] [] (c_h c B P F A J) (none, c_h c B w.2.1 w.2.2.1 w.2.2.2.1 w.2.2.2.2) := by
  intro hD
  unfold e_Sleep_wakeUp_99 at hD
  refine k_runB (pc' := 2) (loc' := [(0, .ref (36 * 1024)), (1, .int (x1 + 1))]) (st' := []) 2 rfl ?_
  refine k_wk [0, 1] (loc' := [(0, .ref (36 * 1024)), (1, .int (x1 + 1))]) rfl rfl ?_
  exact hK2 _ _ _ _ _ _  hD
def e_Sleep_wakeUp_98 (K2 : (Nat → Nat → Nat) → (Nat → Nat → Int32) → (Nat → Nat → Nat → Int32) → (Nat → Nat → Nat → Int64) → Int32 → Option (Unit × (Nat → Nat → Nat) × (Nat → Nat → Int32) × (Nat → Nat → Nat → Int32) × (Nat → Nat → Nat → Int64))) (n : Nat) (P : Nat → Nat → Nat) (F : Nat → Nat → Int32) (A : Nat → Nat → Nat → Int32) (J : Nat → Nat → Nat → Int64) (x1 : Int32) (rs0 : Nat) (s1 : Int32) (s2 : Int32) : Option (Unit × (Nat → Nat → Nat) × (Nat → Nat → Int32) × (Nat → Nat → Nat → Int32) × (Nat → Nat → Nat → Int64)) :=
    (c_st A rs0 3 6 s1 s2).bind fun A18 =>
    K2 P F A18 J (x1 + 1)
set_option maxRecDepth 10000 in
theorem t_e_Sleep_wakeUp_98 {n : Nat} {K2 : (Nat → Nat → Nat) → (Nat → Nat → Int32) → (Nat → Nat → Nat → Int32) → (Nat → Nat → Nat → Int64) → Int32 → Option (Unit × (Nat → Nat → Nat) × (Nat → Nat → Int32) × (Nat → Nat → Nat → Int32) × (Nat → Nat → Nat → Int64))} (hK2 : ∀ (P : Nat → Nat → Nat) (F : Nat → Nat → Int32) (A : Nat → Nat → Nat → Int32) (J : Nat → Nat → Nat → Int64) (x1 : Int32) (w : Unit × (Nat → Nat → Nat) × (Nat → Nat → Int32) × (Nat → Nat → Nat → Int32) × (Nat → Nat → Nat → Int64)), K2 P F A J x1 = some w → k_run t lg (d) 82 2 [(0, .ref (36 * 1024)), (1, .int x1)] [] (c_h c B P F A J) (none, c_h c B w.2.1 w.2.2.1 w.2.2.2.1 w.2.2.2.2)) {P : Nat → Nat → Nat} {F : Nat → Nat → Int32} {A : Nat → Nat → Nat → Int32} {J : Nat → Nat → Nat → Int64} {x1 : Int32} {rs0 : Nat} {s1 : Int32} {s2 : Int32} (hrs0 : c_kind rs0 = 2) {w : Unit × (Nat → Nat → Nat) × (Nat → Nat → Int32) × (Nat → Nat → Nat → Int32) × (Nat → Nat → Nat → Int64)} : e_Sleep_wakeUp_98 K2 n P F A J x1 rs0 s1 s2 = some w → k_run t lg (d) 82 98 [(0, .ref (36 * 1024)), (1, .int x1)] [.int s2, .int s1, .ref (rs0 * 1024 + 3)] (c_h c B P F A J) (none, c_h c B w.2.1 w.2.2.1 w.2.2.2.1 w.2.2.2.2) := by
  intro hD
  unfold e_Sleep_wakeUp_98 at hD
  obtain ⟨A18, hA18, hD⟩ := Option.bind_eq_some_iff.mp hD
  refine k_cstI rs0 3 (K := 2) hrs0 rfl rfl rfl (fun _ => rfl) hA18 ?_
  refine k_runB (pc' := 2) (loc' := [(0, .ref (36 * 1024)), (1, .int (x1 + 1))]) (st' := []) 2 rfl ?_
  refine k_wk [0, 1] (loc' := [(0, .ref (36 * 1024)), (1, .int (x1 + 1))]) rfl rfl ?_
  exact hK2 _ _ _ _ _ _  hD
def e_Sleep_wakeUp_2 : Nat → (Nat → Nat → Nat) → (Nat → Nat → Int32) → (Nat → Nat → Nat → Int32) → (Nat → Nat → Nat → Int64) → Int32 → Option (Unit × (Nat → Nat → Nat) × (Nat → Nat → Int32) × (Nat → Nat → Nat → Int32) × (Nat → Nat → Nat → Int64))
  | 0, _, _, _, _, _ => none
  | n + 1, P, F, A, J, x1 => (c_chk 6 (P 36 8)).bind fun q1 =>
    cond (g_cnd .ge x1 (F q1 17))
    (some ((), P, F, A, J))
    ((c_chk 2 (P 36 9)).bind fun q3 =>
    (m_ld (A q3 3) 6 x1).bind fun v4 =>
    (c_chk 2 (P 36 9)).bind fun q5 =>
    (m_ld (A 36 6) 6 x1).bind fun v6 =>
    (c_st A q5 5 6 x1 v6).bind fun A7 =>
    (c_chk 2 (P 36 9)).bind fun q8 =>
    (m_ld (A7 q8 6) 6 x1).bind fun v9 =>
    (m_ld (A7 36 6) 6 x1).bind fun v10 =>
    (c_st A7 q8 6 6 x1 (v9 + v10)).bind fun A11 =>
    cond (g_cnd .lt v4 0)
    (e_Sleep_wakeUp_99 (e_Sleep_wakeUp_2 n) n P F A11 J x1)
    ((m_div v4 6).bind fun v13 =>
    (c_chk 2 (P 36 9)).bind fun q14 =>
    (m_ld (A11 36 7) 6 x1).bind fun v15 =>
    cond (g_cnd .ne v15 1)
    ((m_ld (A11 36 5) 6 x1).bind fun v17 =>
    e_Sleep_wakeUp_98 (e_Sleep_wakeUp_2 n) n P F A11 J x1 q14 x1 ((v13 * 6) + v17))
    (e_Sleep_wakeUp_98 (e_Sleep_wakeUp_2 n) n P F A11 J x1 q14 x1 ((-1)))))
set_option maxRecDepth 10000 in
theorem t_e_Sleep_wakeUp_2 {n : Nat}  {P : Nat → Nat → Nat} {F : Nat → Nat → Int32} {A : Nat → Nat → Nat → Int32} {J : Nat → Nat → Nat → Int64} {x1 : Int32}  {w : Unit × (Nat → Nat → Nat) × (Nat → Nat → Int32) × (Nat → Nat → Nat → Int32) × (Nat → Nat → Nat → Int64)} : e_Sleep_wakeUp_2 n P F A J x1 = some w → k_run t lg (d) 82 2 [(0, .ref (36 * 1024)), (1, .int x1)] [] (c_h c B P F A J) (none, c_h c B w.2.1 w.2.2.1 w.2.2.2.1 w.2.2.2.2) := by
  induction n generalizing P F A J x1 w with
  | zero => intro hD; cases hD
  | succ n ih =>
    intro hD
    have hK2 : ∀ (P : Nat → Nat → Nat) (F : Nat → Nat → Int32) (A : Nat → Nat → Nat → Int32) (J : Nat → Nat → Nat → Int64) (x1 : Int32) (w : Unit × (Nat → Nat → Nat) × (Nat → Nat → Int32) × (Nat → Nat → Nat → Int32) × (Nat → Nat → Nat → Int64)), e_Sleep_wakeUp_2 n P F A J x1 = some w → k_run t lg (d) 82 2 [(0, .ref (36 * 1024)), (1, .int x1)] [] (c_h c B P F A J) (none, c_h c B w.2.1 w.2.2.1 w.2.2.2.1 w.2.2.2.2) := fun _ _ _ _ _ _  h => ih  h
    unfold e_Sleep_wakeUp_2 at hD
    refine k_runB (pc' := 4) (loc' := [(0, .ref (36 * 1024)), (1, .int x1)]) (st' := [.ref (36 * 1024), .int x1]) 2 rfl ?_
    obtain ⟨q1, hq1, hD⟩ := Option.bind_eq_some_iff.mp hD
    refine k_gq 36 0 (K := 10) (K2 := 6) (key := 8) rfl rfl rfl rfl rfl hq1 (fun kq1 => ?_)
    refine k_gf q1 0 (K := 6) kq1 rfl rfl rfl rfl ?_
    refine k_ic rfl (fun c10_1 => ?_) (fun c10_1 => ?_)
    · rw [c10_1, cond_true] at hD
      cases hD
      exact k_vret rfl rfl
    · rw [c10_1, cond_false] at hD
      refine k_runB (pc' := 14) (loc' := [(0, .ref (36 * 1024)), (1, .int x1)]) (st' := [.ref (36 * 1024)]) 1 rfl ?_
      obtain ⟨q3, hq3, hD⟩ := Option.bind_eq_some_iff.mp hD
      refine k_gq 36 0 (K := 10) (K2 := 2) (key := 9) rfl rfl rfl rfl rfl hq3 (fun kq3 => ?_)
      refine k_gf q3 0 (K := 2) kq3 rfl rfl rfl rfl ?_
      refine k_runB (pc' := 21) (loc' := [(0, .ref (36 * 1024)), (1, .int x1)]) (st' := [.int x1, .ref (q3 * 1024 + 3)]) 1 rfl ?_
      obtain ⟨v4, hv4, hD⟩ := Option.bind_eq_some_iff.mp hD
      refine k_ldI rfl (c_get (r := q3) (o := 3) (K := 2) kq3 (by decide)) hv4 ?_
      refine k_runB (pc' := 24) (loc' := [(0, .ref (36 * 1024)), (1, .int x1), (2, .int v4)]) (st' := [.ref (36 * 1024)]) 2 rfl ?_
      obtain ⟨q5, hq5, hD⟩ := Option.bind_eq_some_iff.mp hD
      refine k_gq 36 0 (K := 10) (K2 := 2) (key := 9) rfl rfl rfl rfl rfl hq5 (fun kq5 => ?_)
      refine k_gf q5 0 (K := 2) kq5 rfl rfl rfl rfl ?_
      refine k_runB (pc' := 32) (loc' := [(0, .ref (36 * 1024)), (1, .int x1), (2, .int v4)]) (st' := [.ref (36 * 1024), .int x1, .ref (q5 * 1024 + 5)]) 2 rfl ?_
      refine k_gf 36 0 (K := 10) rfl rfl rfl rfl rfl ?_
      refine k_runB (pc' := 36) (loc' := [(0, .ref (36 * 1024)), (1, .int x1), (2, .int v4)]) (st' := [.int x1, .ref (36 * 1024 + 6), .int x1, .ref (q5 * 1024 + 5)]) 1 rfl ?_
      obtain ⟨v6, hv6, hD⟩ := Option.bind_eq_some_iff.mp hD
      refine k_ldI rfl (c_get (r := 36) (o := 6) (K := 10) rfl (by decide)) hv6 ?_
      obtain ⟨A7, hA7, hD⟩ := Option.bind_eq_some_iff.mp hD
      refine k_cstI q5 5 (K := 2) kq5 rfl rfl rfl (fun _ => rfl) hA7 ?_
      refine k_runB (pc' := 39) (loc' := [(0, .ref (36 * 1024)), (1, .int x1), (2, .int v4)]) (st' := [.ref (36 * 1024)]) 1 rfl ?_
      obtain ⟨q8, hq8, hD⟩ := Option.bind_eq_some_iff.mp hD
      refine k_gq 36 0 (K := 10) (K2 := 2) (key := 9) rfl rfl rfl rfl rfl hq8 (fun kq8 => ?_)
      refine k_gf q8 0 (K := 2) kq8 rfl rfl rfl rfl ?_
      refine k_runB (pc' := 47) (loc' := [(0, .ref (36 * 1024)), (1, .int x1), (2, .int v4)]) (st' := [.int x1, .ref (q8 * 1024 + 6), .int x1, .ref (q8 * 1024 + 6)]) 2 rfl ?_
      obtain ⟨v9, hv9, hD⟩ := Option.bind_eq_some_iff.mp hD
      refine k_ldI rfl (c_get (r := q8) (o := 6) (K := 2) kq8 (by decide)) hv9 ?_
      refine k_runB (pc' := 49) (loc' := [(0, .ref (36 * 1024)), (1, .int x1), (2, .int v4)]) (st' := [.ref (36 * 1024), .int v9, .int x1, .ref (q8 * 1024 + 6)]) 1 rfl ?_
      refine k_gf 36 0 (K := 10) rfl rfl rfl rfl rfl ?_
      refine k_runB (pc' := 53) (loc' := [(0, .ref (36 * 1024)), (1, .int x1), (2, .int v4)]) (st' := [.int x1, .ref (36 * 1024 + 6), .int v9, .int x1, .ref (q8 * 1024 + 6)]) 1 rfl ?_
      obtain ⟨v10, hv10, hD⟩ := Option.bind_eq_some_iff.mp hD
      refine k_ldI rfl (c_get (r := 36) (o := 6) (K := 10) rfl (by decide)) hv10 ?_
      refine k_runB (pc' := 55) (loc' := [(0, .ref (36 * 1024)), (1, .int x1), (2, .int v4)]) (st' := [.int (v9 + v10), .int x1, .ref (q8 * 1024 + 6)]) 1 rfl ?_
      obtain ⟨A11, hA11, hD⟩ := Option.bind_eq_some_iff.mp hD
      refine k_cstI q8 6 (K := 2) kq8 rfl rfl rfl (fun _ => rfl) hA11 ?_
      refine k_runB (pc' := 57) (loc' := [(0, .ref (36 * 1024)), (1, .int x1), (2, .int v4)]) (st' := [.int v4]) 1 rfl ?_
      refine k_if rfl (fun c57_11 => ?_) (fun c57_11 => ?_)
      · rw [c57_11, cond_true] at hD
        refine k_wk [0, 1] (loc' := [(0, .ref (36 * 1024)), (1, .int x1)]) rfl rfl ?_
        exact t_e_Sleep_wakeUp_99 hK2  hD
      · rw [c57_11, cond_false] at hD
        refine k_runB (pc' := 63) (loc' := [(0, .ref (36 * 1024)), (1, .int x1), (2, .int v4)]) (st' := [.int 6, .int v4]) 2 rfl ?_
        obtain ⟨v13, hv13, hD⟩ := Option.bind_eq_some_iff.mp hD
        refine k_dvI rfl hv13 ?_
        refine k_runB (pc' := 66) (loc' := [(0, .ref (36 * 1024)), (1, .int x1), (2, .int v4), (3, .int v13)]) (st' := [.ref (36 * 1024)]) 2 rfl ?_
        obtain ⟨q14, hq14, hD⟩ := Option.bind_eq_some_iff.mp hD
        refine k_gq 36 0 (K := 10) (K2 := 2) (key := 9) rfl rfl rfl rfl rfl hq14 (fun kq14 => ?_)
        refine k_gf q14 0 (K := 2) kq14 rfl rfl rfl rfl ?_
        refine k_runB (pc' := 74) (loc' := [(0, .ref (36 * 1024)), (1, .int x1), (2, .int v4), (3, .int v13)]) (st' := [.ref (36 * 1024), .int x1, .ref (q14 * 1024 + 3)]) 2 rfl ?_
        refine k_gf 36 0 (K := 10) rfl rfl rfl rfl rfl ?_
        refine k_runB (pc' := 78) (loc' := [(0, .ref (36 * 1024)), (1, .int x1), (2, .int v4), (3, .int v13)]) (st' := [.int x1, .ref (36 * 1024 + 7), .int x1, .ref (q14 * 1024 + 3)]) 1 rfl ?_
        obtain ⟨v15, hv15, hD⟩ := Option.bind_eq_some_iff.mp hD
        refine k_ldI rfl (c_get (r := 36) (o := 7) (K := 10) rfl (by decide)) hv15 ?_
        refine k_runB (pc' := 80) (loc' := [(0, .ref (36 * 1024)), (1, .int x1), (2, .int v4), (3, .int v13)]) (st' := [.int 1, .int v15, .int x1, .ref (q14 * 1024 + 3)]) 1 rfl ?_
        refine k_ic rfl (fun c80_15 => ?_) (fun c80_15 => ?_)
        · rw [c80_15, cond_true] at hD
          refine k_runB (pc' := 92) (loc' := [(0, .ref (36 * 1024)), (1, .int x1), (2, .int v4), (3, .int v13)]) (st' := [.ref (36 * 1024), .int (v13 * 6), .int x1, .ref (q14 * 1024 + 3)]) 4 rfl ?_
          refine k_gf 36 0 (K := 10) rfl rfl rfl rfl rfl ?_
          refine k_runB (pc' := 96) (loc' := [(0, .ref (36 * 1024)), (1, .int x1), (2, .int v4), (3, .int v13)]) (st' := [.int x1, .ref (36 * 1024 + 5), .int (v13 * 6), .int x1, .ref (q14 * 1024 + 3)]) 1 rfl ?_
          obtain ⟨v17, hv17, hD⟩ := Option.bind_eq_some_iff.mp hD
          refine k_ldI rfl (c_get (r := 36) (o := 5) (K := 10) rfl (by decide)) hv17 ?_
          refine k_runB (pc' := 98) (loc' := [(0, .ref (36 * 1024)), (1, .int x1), (2, .int v4), (3, .int v13)]) (st' := [.int ((v13 * 6) + v17), .int x1, .ref (q14 * 1024 + 3)]) 1 rfl ?_
          refine k_wk [0, 1] (loc' := [(0, .ref (36 * 1024)), (1, .int x1)]) rfl rfl ?_
          exact t_e_Sleep_wakeUp_98 hK2 kq14 hD
        · rw [c80_15, cond_false] at hD
          refine k_runB (pc' := 98) (loc' := [(0, .ref (36 * 1024)), (1, .int x1), (2, .int v4), (3, .int v13)]) (st' := [.int ((-1)), .int x1, .ref (q14 * 1024 + 3)]) 2 rfl ?_
          refine k_wk [0, 1] (loc' := [(0, .ref (36 * 1024)), (1, .int x1)]) rfl rfl ?_
          exact t_e_Sleep_wakeUp_98 hK2 kq14 hD
/-- SleepWork$Sleep.wakeUp()V  -/
def e_Sleep_wakeUp (n : Nat) (P : Nat → Nat → Nat) (F : Nat → Nat → Int32) (A : Nat → Nat → Nat → Int32) (J : Nat → Nat → Nat → Int64) : Option (Unit × (Nat → Nat → Nat) × (Nat → Nat → Int32) × (Nat → Nat → Nat → Int32) × (Nat → Nat → Nat → Int64)) :=
  e_Sleep_wakeUp_2 n P F A J 0
set_option maxRecDepth 10000 in
theorem t_e_Sleep_wakeUp {n : Nat} {P : Nat → Nat → Nat} {F : Nat → Nat → Int32} {A : Nat → Nat → Nat → Int32} {J : Nat → Nat → Nat → Int64}   {w : Unit × (Nat → Nat → Nat) × (Nat → Nat → Int32) × (Nat → Nat → Nat → Int32) × (Nat → Nat → Nat → Int64)} : e_Sleep_wakeUp n P F A J = some w → k_run t lg (d) 82 0 [(0, .ref (36 * 1024))] [] (c_h c B P F A J) (none, c_h c B w.2.1 w.2.2.1 w.2.2.2.1 w.2.2.2.2) := by
  intro hD
  unfold e_Sleep_wakeUp at hD
  refine k_runB (pc' := 2) (loc' := [(0, .ref (36 * 1024)), (1, .int 0)]) (st' := []) 2 rfl ?_
  refine k_wk [0, 1] (loc' := [(0, .ref (36 * 1024)), (1, .int 0)]) rfl rfl ?_
  exact t_e_Sleep_wakeUp_2   hD
end MC
