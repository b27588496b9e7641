/-! the class's methods as functions (printed by wip/dec2.py) -/
section MC
variable {t : gT} {lg : Nat → Nat} {d : Nat} {c : Nat × Nat} {B : Nat → List gE}
def e_Evening_isSuspect_92 (K2 : (Nat → Nat → Nat) → (Nat → Nat → Int32) → (Nat → Nat → Nat → Int32) → (Nat → Nat → Nat → Int64) → Int32 → Int32 → Int32 → Option (Int32 × (Nat → Nat → Nat) × (Nat → Nat → Int32) × (Nat → Nat → Nat → Int32) × (Nat → Nat → Nat → Int64))) (n : Nat) (P : Nat → Nat → Nat) (F : Nat → Nat → Int32) (A : Nat → Nat → Nat → Int32) (J : Nat → Nat → Nat → Int64) (x1 : Int32) (x2 : Int32) (x3 : Int32) : Option (Int32 × (Nat → Nat → Nat) × (Nat → Nat → Int32) × (Nat → Nat → Nat → Int32) × (Nat → Nat → Nat → Int64)) :=
    K2 P F A J x1 x2 (x3 + 1)
set_option maxRecDepth 10000 in
theorem t_e_Evening_isSuspect_92 (ht : ∀ ci k, t.1 ci k = k_ty ci k) {n : Nat} {K2 : (Nat → Nat → Nat) → (Nat → Nat → Int32) → (Nat → Nat → Nat → Int32) → (Nat → Nat → Nat → Int64) → Int32 → Int32 → Int32 → Option (Int32 × (Nat → Nat → Nat) × (Nat → Nat → Int32) × (Nat → Nat → Nat → Int32) × (Nat → Nat → Nat → Int64))} (hK2 : ∀ (P : Nat → Nat → Nat) (F : Nat → Nat → Int32) (A : Nat → Nat → Nat → Int32) (J : Nat → Nat → Nat → Int64) (x1 : Int32) (x2 : Int32) (x3 : Int32) (w : Int32 × (Nat → Nat → Nat) × (Nat → Nat → Int32) × (Nat → Nat → Nat → Int32) × (Nat → Nat → Nat → Int64)), K2 P F A J x1 x2 x3 = some w → k_run t lg (d + 5) 19 2 [(0, .ref (32 * 1024)), (1, .int x1), (2, .int x2), (3, .int x3)] [] (c_h c B P F A J) (some (.int w.1), c_h c B w.2.1 w.2.2.1 w.2.2.2.1 w.2.2.2.2)) {P : Nat → Nat → Nat} {F : Nat → Nat → Int32} {A : Nat → Nat → Nat → Int32} {J : Nat → Nat → Nat → Int64} {x1 : Int32} {x2 : Int32} {x3 : Int32}  {w : Int32 × (Nat → Nat → Nat) × (Nat → Nat → Int32) × (Nat → Nat → Nat → Int32) × (Nat → Nat → Nat → Int64)} : e_Evening_isSuspect_92 K2 n P F A J x1 x2 x3 = some w → k_run t lg (d + 5) 19 92 [(0, .ref (32 * 1024)), (1, .int x1), (2, .int x2), (3, .int x3)] [] (c_h c B P F A J) (some (.int w.1), c_h c B w.2.1 w.2.2.1 w.2.2.2.1 w.2.2.2.2) := by
  intro hD
  unfold e_Evening_isSuspect_92 at hD
  refine k_runB (pc' := 2) (loc' := [(0, .ref (32 * 1024)), (1, .int x1), (2, .int x2), (3, .int (x3 + 1))]) (st' := []) 2 rfl ?_
  refine k_wk [0, 1, 2, 3] (loc' := [(0, .ref (32 * 1024)), (1, .int x1), (2, .int x2), (3, .int (x3 + 1))]) rfl rfl ?_
  exact hK2 _ _ _ _ _ _ _ _  hD
def e_Evening_isSuspect_2 : Nat → (Nat → Nat → Nat) → (Nat → Nat → Int32) → (Nat → Nat → Nat → Int32) → (Nat → Nat → Nat → Int64) → Int32 → Int32 → Int32 → Option (Int32 × (Nat → Nat → Nat) × (Nat → Nat → Int32) × (Nat → Nat → Nat → Int32) × (Nat → Nat → Nat → Int64))
  | 0, _, _, _, _, _, _, _ => none
  | n + 1, P, F, A, J, x1, x2, x3 => cond (g_cnd .ge x3 36)
    (some (0, P, F, A, J))
    ((c_chk 6 (P 32 4)).bind fun q2 =>
    (e_House_mayBeLeft P F A J q2 x3).bind fun v3 =>
    cond (g_cnd .eq v3 0)
    (e_Evening_isSuspect_92 (e_Evening_isSuspect_2 n) n P F A J x1 x2 x3)
    ((m_ld (A 2 3) 6 x1).bind fun v5 =>
    cond (g_cnd .eq x3 v5)
    (e_Evening_isSuspect_92 (e_Evening_isSuspect_2 n) n P F A J x1 x2 x3)
    ((e_State_copy P F A J 33 2).bind fun (_, P8, F9, A10, J11) =>
    (c_st A10 33 3 6 x1 x3).bind fun A12 =>
    (c_chk 6 (P8 32 4)).bind fun q13 =>
    (c_chk 6 (P8 32 4)).bind fun q14 =>
    (e_Sleep_goTill n P8 F9 A12 J11 (F9 q13 18) q14 33).bind fun (_, P16, F17, A18, J19) =>
    (e_Told_isSoIn n P16 F17 A18 J19 33 x2).bind fun v20 =>
    cond (g_cnd .eq v20 0)
    (e_Evening_isSuspect_92 (e_Evening_isSuspect_2 n) n P16 F17 A18 J19 x1 x2 x3)
    (some (1, P16, F17, A18, J19)))))
set_option maxRecDepth 10000 in
theorem t_e_Evening_isSuspect_2 (ht : ∀ ci k, t.1 ci k = k_ty ci k) {n : Nat}  {P : Nat → Nat → Nat} {F : Nat → Nat → Int32} {A : Nat → Nat → Nat → Int32} {J : Nat → Nat → Nat → Int64} {x1 : Int32} {x2 : Int32} {x3 : Int32}  {w : Int32 × (Nat → Nat → Nat) × (Nat → Nat → Int32) × (Nat → Nat → Nat → Int32) × (Nat → Nat → Nat → Int64)} : e_Evening_isSuspect_2 n P F A J x1 x2 x3 = some w → k_run t lg (d + 5) 19 2 [(0, .ref (32 * 1024)), (1, .int x1), (2, .int x2), (3, .int x3)] [] (c_h c B P F A J) (some (.int w.1), c_h c B w.2.1 w.2.2.1 w.2.2.2.1 w.2.2.2.2) := by
  induction n generalizing P F A J x1 x2 x3 w with
  | zero => intro hD; cases hD
  | succ n ih =>
    intro hD
    have hK2 : ∀ (P : Nat → Nat → Nat) (F : Nat → Nat → Int32) (A : Nat → Nat → Nat → Int32) (J : Nat → Nat → Nat → Int64) (x1 : Int32) (x2 : Int32) (x3 : Int32) (w : Int32 × (Nat → Nat → Nat) × (Nat → Nat → Int32) × (Nat → Nat → Nat → Int32) × (Nat → Nat → Nat → Int64)), e_Evening_isSuspect_2 n P F A J x1 x2 x3 = some w → k_run t lg (d + 5) 19 2 [(0, .ref (32 * 1024)), (1, .int x1), (2, .int x2), (3, .int x3)] [] (c_h c B P F A J) (some (.int w.1), c_h c B w.2.1 w.2.2.1 w.2.2.2.1 w.2.2.2.2) := fun _ _ _ _ _ _ _ _  h => ih  h
    unfold e_Evening_isSuspect_2 at hD
    refine k_runB (pc' := 5) (loc' := [(0, .ref (32 * 1024)), (1, .int x1), (2, .int x2), (3, .int x3)]) (st' := [.int 36, .int x3]) 2 rfl ?_
    refine k_ic rfl (fun c5_0 => ?_) (fun c5_0 => ?_)
    · rw [c5_0, cond_true] at hD
      refine k_runB (pc' := 99) (loc' := [(0, .ref (32 * 1024)), (1, .int x1), (2, .int x2), (3, .int x3)]) (st' := [.int 0]) 1 rfl ?_
      cases hD
      exact k_zret rfl rfl (Or.inl rfl)
    · rw [c5_0, cond_false] at hD
      refine k_runB (pc' := 9) (loc' := [(0, .ref (32 * 1024)), (1, .int x1), (2, .int x2), (3, .int x3)]) (st' := [.ref (32 * 1024)]) 1 rfl ?_
      obtain ⟨q2, hq2, hD⟩ := Option.bind_eq_some_iff.mp hD
      refine k_gq 32 0 (K := 7) (K2 := 6) (key := 4) rfl rfl rfl rfl rfl hq2 (fun kq2 => ?_)
      refine k_runB (pc' := 13) (loc' := [(0, .ref (32 * 1024)), (1, .int x1), (2, .int x2), (3, .int x3)]) (st' := [.int x3, .ref (q2 * 1024)]) 1 rfl ?_
      obtain ⟨v3, hv3, hD⟩ := Option.bind_eq_some_iff.mp hD
      refine k_runV rfl rfl rfl (c_get (r := q2) (o := 0) (K := 6) kq2 (by decide)) rfl rfl (t_e_House_mayBeLeft (d := d + 4) kq2 hv3) ?_
      refine k_if rfl (fun c16_3 => ?_) (fun c16_3 => ?_)
      · rw [c16_3, cond_true] at hD
        refine k_wk [0, 1, 2, 3] (loc' := [(0, .ref (32 * 1024)), (1, .int x1), (2, .int x2), (3, .int x3)]) rfl rfl ?_
        exact t_e_Evening_isSuspect_92 ht hK2  hD
      · rw [c16_3, cond_false] at hD
        refine k_runB (pc' := 21) (loc' := [(0, .ref (32 * 1024)), (1, .int x1), (2, .int x2), (3, .int x3)]) (st' := [.ref (32 * 1024), .int x3]) 2 rfl ?_
        refine k_gf 32 0 (K := 7) rfl rfl rfl rfl rfl ?_
        refine k_gf 2 0 (K := 2) rfl rfl rfl rfl rfl ?_
        refine k_runB (pc' := 28) (loc' := [(0, .ref (32 * 1024)), (1, .int x1), (2, .int x2), (3, .int x3)]) (st' := [.int x1, .ref (2 * 1024 + 3), .int x3]) 1 rfl ?_
        obtain ⟨v5, hv5, hD⟩ := Option.bind_eq_some_iff.mp hD
        refine k_ldI rfl (c_get (r := 2) (o := 3) (K := 2) rfl (by decide)) hv5 ?_
        refine k_ic rfl (fun c29_5 => ?_) (fun c29_5 => ?_)
        · rw [c29_5, cond_true] at hD
          refine k_wk [0, 1, 2, 3] (loc' := [(0, .ref (32 * 1024)), (1, .int x1), (2, .int x2), (3, .int x3)]) rfl rfl ?_
          exact t_e_Evening_isSuspect_92 ht hK2  hD
        · rw [c29_5, cond_false] at hD
          refine k_runB (pc' := 33) (loc' := [(0, .ref (32 * 1024)), (1, .int x1), (2, .int x2), (3, .int x3)]) (st' := [.ref (32 * 1024)]) 1 rfl ?_
          refine k_gf 32 0 (K := 7) rfl rfl rfl rfl rfl ?_
          refine k_runB (pc' := 37) (loc' := [(0, .ref (32 * 1024)), (1, .int x1), (2, .int x2), (3, .int x3)]) (st' := [.ref (32 * 1024), .ref (33 * 1024)]) 1 rfl ?_
          refine k_gf 32 0 (K := 7) rfl rfl rfl rfl rfl ?_
          obtain ⟨⟨v7, P8, F9, A10, J11⟩, hv7, hD⟩ := Option.bind_eq_some_iff.mp hD
          dsimp only at hD
          refine k_runV rfl rfl rfl (c_get (r := 33) (o := 0) (K := 2) rfl (by decide)) rfl rfl (t_e_State_copy (d := d + 4) ht rfl rfl hv7) ?_
          refine k_runB (pc' := 44) (loc' := [(0, .ref (32 * 1024)), (1, .int x1), (2, .int x2), (3, .int x3)]) (st' := [.ref (32 * 1024)]) 1 rfl ?_
          refine k_gf 32 0 (K := 7) rfl rfl rfl rfl rfl ?_
          refine k_gf 33 0 (K := 2) rfl rfl rfl rfl rfl ?_
          refine k_runB (pc' := 52) (loc' := [(0, .ref (32 * 1024)), (1, .int x1), (2, .int x2), (3, .int x3)]) (st' := [.int x3, .int x1, .ref (33 * 1024 + 3)]) 2 rfl ?_
          obtain ⟨A12, hA12, hD⟩ := Option.bind_eq_some_iff.mp hD
          refine k_cstI 33 3 (K := 2) rfl rfl rfl rfl (fun _ => rfl) hA12 ?_
          refine k_runB (pc' := 54) (loc' := [(0, .ref (32 * 1024)), (1, .int x1), (2, .int x2), (3, .int x3)]) (st' := [.ref (32 * 1024)]) 1 rfl ?_
          refine k_gf 32 0 (K := 7) rfl rfl rfl rfl rfl ?_
          refine k_runB (pc' := 58) (loc' := [(0, .ref (32 * 1024)), (1, .int x1), (2, .int x2), (3, .int x3)]) (st' := [.ref (32 * 1024), .ref (36 * 1024)]) 1 rfl ?_
          obtain ⟨q13, hq13, hD⟩ := Option.bind_eq_some_iff.mp hD
          refine k_gq 32 0 (K := 7) (K2 := 6) (key := 4) rfl rfl rfl rfl rfl hq13 (fun kq13 => ?_)
          refine k_gf q13 0 (K := 6) kq13 rfl rfl rfl rfl ?_
          refine k_runB (pc' := 65) (loc' := [(0, .ref (32 * 1024)), (1, .int x1), (2, .int x2), (3, .int x3)]) (st' := [.ref (32 * 1024), .int (F9 q13 18), .ref (36 * 1024)]) 1 rfl ?_
          obtain ⟨q14, hq14, hD⟩ := Option.bind_eq_some_iff.mp hD
          refine k_gq 32 0 (K := 7) (K2 := 6) (key := 4) rfl rfl rfl rfl rfl hq14 (fun kq14 => ?_)
          refine k_runB (pc' := 69) (loc' := [(0, .ref (32 * 1024)), (1, .int x1), (2, .int x2), (3, .int x3)]) (st' := [.ref (32 * 1024), .ref (q14 * 1024), .int (F9 q13 18), .ref (36 * 1024)]) 1 rfl ?_
          refine k_gf 32 0 (K := 7) rfl rfl rfl rfl rfl ?_
          obtain ⟨⟨v15, P16, F17, A18, J19⟩, hv15, hD⟩ := Option.bind_eq_some_iff.mp hD
          dsimp only at hD
          refine k_runV rfl rfl rfl (c_get (r := 36) (o := 0) (K := 10) rfl (by decide)) rfl rfl (t_e_Sleep_goTill (d := d) ht kq14 rfl hv15) ?_
          refine k_runB (pc' := 76) (loc' := [(0, .ref (32 * 1024)), (1, .int x1), (2, .int x2), (3, .int x3)]) (st' := [.ref (32 * 1024)]) 1 rfl ?_
          refine k_gf 32 0 (K := 7) rfl rfl rfl rfl rfl ?_
          refine k_runB (pc' := 80) (loc' := [(0, .ref (32 * 1024)), (1, .int x1), (2, .int x2), (3, .int x3)]) (st' := [.ref (32 * 1024), .ref (25 * 1024)]) 1 rfl ?_
          refine k_gf 32 0 (K := 7) rfl rfl rfl rfl rfl ?_
          refine k_runB (pc' := 84) (loc' := [(0, .ref (32 * 1024)), (1, .int x1), (2, .int x2), (3, .int x3)]) (st' := [.int x2, .ref (33 * 1024), .ref (25 * 1024)]) 1 rfl ?_
          obtain ⟨v20, hv20, hD⟩ := Option.bind_eq_some_iff.mp hD
          refine k_runV rfl rfl rfl (c_get (r := 25) (o := 0) (K := 4) rfl (by decide)) rfl rfl (t_e_Told_isSoIn (d := d + 4) rfl hv20) ?_
          refine k_if rfl (fun c87_20 => ?_) (fun c87_20 => ?_)
          · rw [c87_20, cond_true] at hD
            refine k_wk [0, 1, 2, 3] (loc' := [(0, .ref (32 * 1024)), (1, .int x1), (2, .int x2), (3, .int x3)]) rfl rfl ?_
            exact t_e_Evening_isSuspect_92 ht hK2  hD
          · rw [c87_20, cond_false] at hD
            refine k_runB (pc' := 91) (loc' := [(0, .ref (32 * 1024)), (1, .int x1), (2, .int x2), (3, .int x3)]) (st' := [.int 1]) 1 rfl ?_
            cases hD
            exact k_zret rfl rfl (Or.inr rfl)
/-- SleepWork$Evening.isSuspect(II)Z  -/
def e_Evening_isSuspect (n : Nat) (P : Nat → Nat → Nat) (F : Nat → Nat → Int32) (A : Nat → Nat → Nat → Int32) (J : Nat → Nat → Nat → Int64) (x1 : Int32) (x2 : Int32) : Option (Int32 × (Nat → Nat → Nat) × (Nat → Nat → Int32) × (Nat → Nat → Nat → Int32) × (Nat → Nat → Nat → Int64)) :=
  e_Evening_isSuspect_2 n P F A J x1 x2 ((-1))
set_option maxRecDepth 10000 in
theorem t_e_Evening_isSuspect (ht : ∀ ci k, t.1 ci k = k_ty ci k) {n : Nat} {P : Nat → Nat → Nat} {F : Nat → Nat → Int32} {A : Nat → Nat → Nat → Int32} {J : Nat → Nat → Nat → Int64} {x1 : Int32} {x2 : Int32}  {w : Int32 × (Nat → Nat → Nat) × (Nat → Nat → Int32) × (Nat → Nat → Nat → Int32) × (Nat → Nat → Nat → Int64)} : e_Evening_isSuspect n P F A J x1 x2 = some w → k_run t lg (d + 5) 19 0 [(0, .ref (32 * 1024)), (1, .int x1), (2, .int x2)] [] (c_h c B P F A J) (some (.int w.1), c_h c B w.2.1 w.2.2.1 w.2.2.2.1 w.2.2.2.2) := by
  intro hD
  unfold e_Evening_isSuspect at hD
  refine k_runB (pc' := 2) (loc' := [(0, .ref (32 * 1024)), (1, .int x1), (2, .int x2), (3, .int ((-1)))]) (st' := []) 2 rfl ?_
  refine k_wk [0, 1, 2, 3] (loc' := [(0, .ref (32 * 1024)), (1, .int x1), (2, .int x2), (3, .int ((-1)))]) rfl rfl ?_
  exact t_e_Evening_isSuspect_2 ht   hD
def e_Evening_suspectBits_30 (K4 : (Nat → Nat → Nat) → (Nat → Nat → Int32) → (Nat → Nat → Nat → Int32) → (Nat → Nat → Nat → Int64) → Int32 → Int32 → Int32 → Option (Int32 × (Nat → Nat → Nat) × (Nat → Nat → Int32) × (Nat → Nat → Nat → Int32) × (Nat → Nat → Nat → Int64))) (n : Nat) (P : Nat → Nat → Nat) (F : Nat → Nat → Int32) (A : Nat → Nat → Nat → Int32) (J : Nat → Nat → Nat → Int64) (x1 : Int32) (x2 : Int32) (x3 : Int32) : Option (Int32 × (Nat → Nat → Nat) × (Nat → Nat → Int32) × (Nat → Nat → Nat → Int32) × (Nat → Nat → Nat → Int64)) :=
    K4 P F A J x1 x2 (x3 + 1)
set_option maxRecDepth 10000 in
theorem t_e_Evening_suspectBits_30 (ht : ∀ ci k, t.1 ci k = k_ty ci k) {n : Nat} {K4 : (Nat → Nat → Nat) → (Nat → Nat → Int32) → (Nat → Nat → Nat → Int32) → (Nat → Nat → Nat → Int64) → Int32 → Int32 → Int32 → Option (Int32 × (Nat → Nat → Nat) × (Nat → Nat → Int32) × (Nat → Nat → Nat → Int32) × (Nat → Nat → Nat → Int64))} (hK4 : ∀ (P : Nat → Nat → Nat) (F : Nat → Nat → Int32) (A : Nat → Nat → Nat → Int32) (J : Nat → Nat → Nat → Int64) (x1 : Int32) (x2 : Int32) (x3 : Int32) (w : Int32 × (Nat → Nat → Nat) × (Nat → Nat → Int32) × (Nat → Nat → Nat → Int32) × (Nat → Nat → Nat → Int64)), K4 P F A J x1 x2 x3 = some w → k_run t lg (d + 6) 18 4 [(0, .ref (32 * 1024)), (1, .int x1), (2, .int x2), (3, .int x3)] [] (c_h c B P F A J) (some (.int w.1), c_h c B w.2.1 w.2.2.1 w.2.2.2.1 w.2.2.2.2)) {P : Nat → Nat → Nat} {F : Nat → Nat → Int32} {A : Nat → Nat → Nat → Int32} {J : Nat → Nat → Nat → Int64} {x1 : Int32} {x2 : Int32} {x3 : Int32}  {w : Int32 × (Nat → Nat → Nat) × (Nat → Nat → Int32) × (Nat → Nat → Nat → Int32) × (Nat → Nat → Nat → Int64)} : e_Evening_suspectBits_30 K4 n P F A J x1 x2 x3 = some w → k_run t lg (d + 6) 18 30 [(0, .ref (32 * 1024)), (1, .int x1), (2, .int x2), (3, .int x3)] [] (c_h c B P F A J) (some (.int w.1), c_h c B w.2.1 w.2.2.1 w.2.2.2.1 w.2.2.2.2) := by
  intro hD
  unfold e_Evening_suspectBits_30 at hD
  refine k_runB (pc' := 4) (loc' := [(0, .ref (32 * 1024)), (1, .int x1), (2, .int x2), (3, .int (x3 + 1))]) (st' := []) 2 rfl ?_
  refine k_wk [0, 1, 2, 3] (loc' := [(0, .ref (32 * 1024)), (1, .int x1), (2, .int x2), (3, .int (x3 + 1))]) rfl rfl ?_
  exact hK4 _ _ _ _ _ _ _ _  hD
def e_Evening_suspectBits_4 : Nat → (Nat → Nat → Nat) → (Nat → Nat → Int32) → (Nat → Nat → Nat → Int32) → (Nat → Nat → Nat → Int64) → Int32 → Int32 → Int32 → Option (Int32 × (Nat → Nat → Nat) × (Nat → Nat → Int32) × (Nat → Nat → Nat → Int32) × (Nat → Nat → Nat → Int64))
  | 0, _, _, _, _, _, _, _ => none
  | n + 1, P, F, A, J, x1, x2, x3 => (c_chk 6 (P 32 4)).bind fun q1 =>
    cond (g_cnd .ge x3 (F q1 17))
    (some (x2, P, F, A, J))
    ((e_Evening_isSuspect n P F A J x3 x1).bind fun (v3, P4, F5, A6, J7) =>
    cond (g_cnd .eq v3 0)
    (e_Evening_suspectBits_30 (e_Evening_suspectBits_4 n) n P4 F5 A6 J7 x1 x2 x3)
    (e_Evening_suspectBits_30 (e_Evening_suspectBits_4 n) n P4 F5 A6 J7 x1 (x2 ||| ((1 : Int32) <<< (x3 &&& 31))) x3))
set_option maxRecDepth 10000 in
theorem t_e_Evening_suspectBits_4 (ht : ∀ ci k, t.1 ci k = k_ty ci k) {n : Nat}  {P : Nat → Nat → Nat} {F : Nat → Nat → Int32} {A : Nat → Nat → Nat → Int32} {J : Nat → Nat → Nat → Int64} {x1 : Int32} {x2 : Int32} {x3 : Int32}  {w : Int32 × (Nat → Nat → Nat) × (Nat → Nat → Int32) × (Nat → Nat → Nat → Int32) × (Nat → Nat → Nat → Int64)} : e_Evening_suspectBits_4 n P F A J x1 x2 x3 = some w → k_run t lg (d + 6) 18 4 [(0, .ref (32 * 1024)), (1, .int x1), (2, .int x2), (3, .int x3)] [] (c_h c B P F A J) (some (.int w.1), c_h c B w.2.1 w.2.2.1 w.2.2.2.1 w.2.2.2.2) := by
  induction n generalizing P F A J x1 x2 x3 w with
  | zero => intro hD; cases hD
  | succ n ih =>
    intro hD
    have hK4 : ∀ (P : Nat → Nat → Nat) (F : Nat → Nat → Int32) (A : Nat → Nat → Nat → Int32) (J : Nat → Nat → Nat → Int64) (x1 : Int32) (x2 : Int32) (x3 : Int32) (w : Int32 × (Nat → Nat → Nat) × (Nat → Nat → Int32) × (Nat → Nat → Nat → Int32) × (Nat → Nat → Nat → Int64)), e_Evening_suspectBits_4 n P F A J x1 x2 x3 = some w → k_run t lg (d + 6) 18 4 [(0, .ref (32 * 1024)), (1, .int x1), (2, .int x2), (3, .int x3)] [] (c_h c B P F A J) (some (.int w.1), c_h c B w.2.1 w.2.2.1 w.2.2.2.1 w.2.2.2.2) := fun _ _ _ _ _ _ _ _  h => ih  h
    unfold e_Evening_suspectBits_4 at hD
    refine k_runB (pc' := 6) (loc' := [(0, .ref (32 * 1024)), (1, .int x1), (2, .int x2), (3, .int x3)]) (st' := [.ref (32 * 1024), .int x3]) 2 rfl ?_
    obtain ⟨q1, hq1, hD⟩ := Option.bind_eq_some_iff.mp hD
    refine k_gq 32 0 (K := 7) (K2 := 6) (key := 4) rfl rfl rfl rfl rfl hq1 (fun kq1 => ?_)
    refine k_gf q1 0 (K := 6) kq1 rfl rfl rfl rfl ?_
    refine k_ic rfl (fun c12_1 => ?_) (fun c12_1 => ?_)
    · rw [c12_1, cond_true] at hD
      refine k_runB (pc' := 37) (loc' := [(0, .ref (32 * 1024)), (1, .int x1), (2, .int x2), (3, .int x3)]) (st' := [.int x2]) 1 rfl ?_
      cases hD
      exact k_iret rfl rfl
    · rw [c12_1, cond_false] at hD
      refine k_runB (pc' := 18) (loc' := [(0, .ref (32 * 1024)), (1, .int x1), (2, .int x2), (3, .int x3)]) (st' := [.int x1, .int x3, .ref (32 * 1024)]) 3 rfl ?_
      obtain ⟨⟨v3, P4, F5, A6, J7⟩, hv3, hD⟩ := Option.bind_eq_some_iff.mp hD
      dsimp only at hD
      refine k_runV rfl rfl rfl (c_get (r := 32) (o := 0) (K := 7) rfl (by decide)) rfl rfl (t_e_Evening_isSuspect (d := d) ht hv3) ?_
      refine k_if rfl (fun c21_7 => ?_) (fun c21_7 => ?_)
      · rw [c21_7, cond_true] at hD
        refine k_wk [0, 1, 2, 3] (loc' := [(0, .ref (32 * 1024)), (1, .int x1), (2, .int x2), (3, .int x3)]) rfl rfl ?_
        exact t_e_Evening_suspectBits_30 ht hK4  hD
      · rw [c21_7, cond_false] at hD
        refine k_runB (pc' := 30) (loc' := [(0, .ref (32 * 1024)), (1, .int x1), (2, .int (x2 ||| ((1 : Int32) <<< (x3 &&& 31)))), (3, .int x3)]) (st' := []) 6 rfl ?_
        refine k_wk [0, 1, 2, 3] (loc' := [(0, .ref (32 * 1024)), (1, .int x1), (2, .int (x2 ||| ((1 : Int32) <<< (x3 &&& 31)))), (3, .int x3)]) rfl rfl ?_
        exact t_e_Evening_suspectBits_30 ht hK4  hD
/-- SleepWork$Evening.suspectBits(I)I  -/
def e_Evening_suspectBits (n : Nat) (P : Nat → Nat → Nat) (F : Nat → Nat → Int32) (A : Nat → Nat → Nat → Int32) (J : Nat → Nat → Nat → Int64) (x1 : Int32) : Option (Int32 × (Nat → Nat → Nat) × (Nat → Nat → Int32) × (Nat → Nat → Nat → Int32) × (Nat → Nat → Nat → Int64)) :=
  e_Evening_suspectBits_4 n P F A J x1 0 0
set_option maxRecDepth 10000 in
theorem t_e_Evening_suspectBits (ht : ∀ ci k, t.1 ci k = k_ty ci k) {n : Nat} {P : Nat → Nat → Nat} {F : Nat → Nat → Int32} {A : Nat → Nat → Nat → Int32} {J : Nat → Nat → Nat → Int64} {x1 : Int32}  {w : Int32 × (Nat → Nat → Nat) × (Nat → Nat → Int32) × (Nat → Nat → Nat → Int32) × (Nat → Nat → Nat → Int64)} : e_Evening_suspectBits n P F A J x1 = some w → k_run t lg (d + 6) 18 0 [(0, .ref (32 * 1024)), (1, .int x1)] [] (c_h c B P F A J) (some (.int w.1), c_h c B w.2.1 w.2.2.1 w.2.2.2.1 w.2.2.2.2) := by
  intro hD
  unfold e_Evening_suspectBits at hD
  refine k_runB (pc' := 4) (loc' := [(0, .ref (32 * 1024)), (1, .int x1), (2, .int 0), (3, .int 0)]) (st' := []) 4 rfl ?_
  refine k_wk [0, 1, 2, 3] (loc' := [(0, .ref (32 * 1024)), (1, .int x1), (2, .int 0), (3, .int 0)]) rfl rfl ?_
  exact t_e_Evening_suspectBits_4 ht   hD
def e_Evening_fittingPairs_133 (K6 : (Nat → Nat → Nat) → (Nat → Nat → Int32) → (Nat → Nat → Nat → Int32) → (Nat → Nat → Nat → Int64) → Int32 → Int32 → Int32 → Int32 → Int32 → Option (Int32 × (Nat → Nat → Nat) × (Nat → Nat → Int32) × (Nat → Nat → Nat → Int32) × (Nat → Nat → Nat → Int64))) (n : Nat) (P : Nat → Nat → Nat) (F : Nat → Nat → Int32) (A : Nat → Nat → Nat → Int32) (J : Nat → Nat → Nat → Int64) (x1 : Int32) (x2 : Int32) (x3 : Int32) (x4 : Int32) (x5 : Int32) : Option (Int32 × (Nat → Nat → Nat) × (Nat → Nat → Int32) × (Nat → Nat → Nat → Int32) × (Nat → Nat → Nat → Int64)) :=
    K6 P F A J x1 x2 x3 x4 (x5 + 1)
set_option maxRecDepth 10000 in
theorem t_e_Evening_fittingPairs_133 (ht : ∀ ci k, t.1 ci k = k_ty ci k) {n : Nat} {K6 : (Nat → Nat → Nat) → (Nat → Nat → Int32) → (Nat → Nat → Nat → Int32) → (Nat → Nat → Nat → Int64) → Int32 → Int32 → Int32 → Int32 → Int32 → Option (Int32 × (Nat → Nat → Nat) × (Nat → Nat → Int32) × (Nat → Nat → Nat → Int32) × (Nat → Nat → Nat → Int64))} (hK6 : ∀ (P : Nat → Nat → Nat) (F : Nat → Nat → Int32) (A : Nat → Nat → Nat → Int32) (J : Nat → Nat → Nat → Int64) (x1 : Int32) (x2 : Int32) (x3 : Int32) (x4 : Int32) (x5 : Int32) (w : Int32 × (Nat → Nat → Nat) × (Nat → Nat → Int32) × (Nat → Nat → Nat → Int32) × (Nat → Nat → Nat → Int64)), K6 P F A J x1 x2 x3 x4 x5 = some w → k_run t lg (d + 5) 20 6 [(0, .ref (32 * 1024)), (1, .int x1), (2, .int x2), (3, .int x3), (4, .int x4), (5, .int x5)] [] (c_h c B P F A J) (some (.int w.1), c_h c B w.2.1 w.2.2.1 w.2.2.2.1 w.2.2.2.2)) {P : Nat → Nat → Nat} {F : Nat → Nat → Int32} {A : Nat → Nat → Nat → Int32} {J : Nat → Nat → Nat → Int64} {x1 : Int32} {x2 : Int32} {x3 : Int32} {x4 : Int32} {x5 : Int32}  {w : Int32 × (Nat → Nat → Nat) × (Nat → Nat → Int32) × (Nat → Nat → Nat → Int32) × (Nat → Nat → Nat → Int64)} : e_Evening_fittingPairs_133 K6 n P F A J x1 x2 x3 x4 x5 = some w → k_run t lg (d + 5) 20 133 [(0, .ref (32 * 1024)), (1, .int x1), (2, .int x2), (3, .int x3), (4, .int x4), (5, .int x5)] [] (c_h c B P F A J) (some (.int w.1), c_h c B w.2.1 w.2.2.1 w.2.2.2.1 w.2.2.2.2) := by
  intro hD
  unfold e_Evening_fittingPairs_133 at hD
  refine k_runB (pc' := 6) (loc' := [(0, .ref (32 * 1024)), (1, .int x1), (2, .int x2), (3, .int x3), (4, .int x4), (5, .int (x5 + 1))]) (st' := []) 2 rfl ?_
  refine k_wk [0, 1, 2, 3, 4, 5] (loc' := [(0, .ref (32 * 1024)), (1, .int x1), (2, .int x2), (3, .int x3), (4, .int x4), (5, .int (x5 + 1))]) rfl rfl ?_
  exact hK6 _ _ _ _ _ _ _ _ _ _  hD
def e_Evening_fittingPairs_127 (K6 : (Nat → Nat → Nat) → (Nat → Nat → Int32) → (Nat → Nat → Nat → Int32) → (Nat → Nat → Nat → Int64) → Int32 → Int32 → Int32 → Int32 → Int32 → Option (Int32 × (Nat → Nat → Nat) × (Nat → Nat → Int32) × (Nat → Nat → Nat → Int32) × (Nat → Nat → Nat → Int64))) (K16 : (Nat → Nat → Nat) → (Nat → Nat → Int32) → (Nat → Nat → Nat → Int32) → (Nat → Nat → Nat → Int64) → Int32 → Int32 → Int32 → Int32 → Int32 → Int32 → Option (Int32 × (Nat → Nat → Nat) × (Nat → Nat → Int32) × (Nat → Nat → Nat → Int32) × (Nat → Nat → Nat → Int64))) (n : Nat) (P : Nat → Nat → Nat) (F : Nat → Nat → Int32) (A : Nat → Nat → Nat → Int32) (J : Nat → Nat → Nat → Int64) (x1 : Int32) (x2 : Int32) (x3 : Int32) (x4 : Int32) (x5 : Int32) (x6 : Int32) : Option (Int32 × (Nat → Nat → Nat) × (Nat → Nat → Int32) × (Nat → Nat → Nat → Int32) × (Nat → Nat → Nat → Int64)) :=
    K16 P F A J x1 x2 x3 x4 x5 (x6 + 1)
set_option maxRecDepth 10000 in
theorem t_e_Evening_fittingPairs_127 (ht : ∀ ci k, t.1 ci k = k_ty ci k) {n : Nat} {K6 : (Nat → Nat → Nat) → (Nat → Nat → Int32) → (Nat → Nat → Nat → Int32) → (Nat → Nat → Nat → Int64) → Int32 → Int32 → Int32 → Int32 → Int32 → Option (Int32 × (Nat → Nat → Nat) × (Nat → Nat → Int32) × (Nat → Nat → Nat → Int32) × (Nat → Nat → Nat → Int64))} {K16 : (Nat → Nat → Nat) → (Nat → Nat → Int32) → (Nat → Nat → Nat → Int32) → (Nat → Nat → Nat → Int64) → Int32 → Int32 → Int32 → Int32 → Int32 → Int32 → Option (Int32 × (Nat → Nat → Nat) × (Nat → Nat → Int32) × (Nat → Nat → Nat → Int32) × (Nat → Nat → Nat → Int64))} (hK6 : ∀ (P : Nat → Nat → Nat) (F : Nat → Nat → Int32) (A : Nat → Nat → Nat → Int32) (J : Nat → Nat → Nat → Int64) (x1 : Int32) (x2 : Int32) (x3 : Int32) (x4 : Int32) (x5 : Int32) (w : Int32 × (Nat → Nat → Nat) × (Nat → Nat → Int32) × (Nat → Nat → Nat → Int32) × (Nat → Nat → Nat → Int64)), K6 P F A J x1 x2 x3 x4 x5 = some w → k_run t lg (d + 5) 20 6 [(0, .ref (32 * 1024)), (1, .int x1), (2, .int x2), (3, .int x3), (4, .int x4), (5, .int x5)] [] (c_h c B P F A J) (some (.int w.1), c_h c B w.2.1 w.2.2.1 w.2.2.2.1 w.2.2.2.2)) (hK16 : ∀ (P : Nat → Nat → Nat) (F : Nat → Nat → Int32) (A : Nat → Nat → Nat → Int32) (J : Nat → Nat → Nat → Int64) (x1 : Int32) (x2 : Int32) (x3 : Int32) (x4 : Int32) (x5 : Int32) (x6 : Int32) (w : Int32 × (Nat → Nat → Nat) × (Nat → Nat → Int32) × (Nat → Nat → Nat → Int32) × (Nat → Nat → Nat → Int64)), K16 P F A J x1 x2 x3 x4 x5 x6 = some w → k_run t lg (d + 5) 20 16 [(0, .ref (32 * 1024)), (1, .int x1), (2, .int x2), (3, .int x3), (4, .int x4), (5, .int x5), (6, .int x6)] [] (c_h c B P F A J) (some (.int w.1), c_h c B w.2.1 w.2.2.1 w.2.2.2.1 w.2.2.2.2)) {P : Nat → Nat → Nat} {F : Nat → Nat → Int32} {A : Nat → Nat → Nat → Int32} {J : Nat → Nat → Nat → Int64} {x1 : Int32} {x2 : Int32} {x3 : Int32} {x4 : Int32} {x5 : Int32} {x6 : Int32}  {w : Int32 × (Nat → Nat → Nat) × (Nat → Nat → Int32) × (Nat → Nat → Nat → Int32) × (Nat → Nat → Nat → Int64)} : e_Evening_fittingPairs_127 K6 K16 n P F A J x1 x2 x3 x4 x5 x6 = some w → k_run t lg (d + 5) 20 127 [(0, .ref (32 * 1024)), (1, .int x1), (2, .int x2), (3, .int x3), (4, .int x4), (5, .int x5), (6, .int x6)] [] (c_h c B P F A J) (some (.int w.1), c_h c B w.2.1 w.2.2.1 w.2.2.2.1 w.2.2.2.2) := by
  intro hD
  unfold e_Evening_fittingPairs_127 at hD
  refine k_runB (pc' := 16) (loc' := [(0, .ref (32 * 1024)), (1, .int x1), (2, .int x2), (3, .int x3), (4, .int x4), (5, .int x5), (6, .int (x6 + 1))]) (st' := []) 2 rfl ?_
  refine k_wk [0, 1, 2, 3, 4, 5, 6] (loc' := [(0, .ref (32 * 1024)), (1, .int x1), (2, .int x2), (3, .int x3), (4, .int x4), (5, .int x5), (6, .int (x6 + 1))]) rfl rfl ?_
  exact hK16 _ _ _ _ _ _ _ _ _ _ _  hD
def e_Evening_fittingPairs_124 (K6 : (Nat → Nat → Nat) → (Nat → Nat → Int32) → (Nat → Nat → Nat → Int32) → (Nat → Nat → Nat → Int64) → Int32 → Int32 → Int32 → Int32 → Int32 → Option (Int32 × (Nat → Nat → Nat) × (Nat → Nat → Int32) × (Nat → Nat → Nat → Int32) × (Nat → Nat → Nat → Int64))) (K16 : (Nat → Nat → Nat) → (Nat → Nat → Int32) → (Nat → Nat → Nat → Int32) → (Nat → Nat → Nat → Int64) → Int32 → Int32 → Int32 → Int32 → Int32 → Int32 → Option (Int32 × (Nat → Nat → Nat) × (Nat → Nat → Int32) × (Nat → Nat → Nat → Int32) × (Nat → Nat → Nat → Int64))) (n : Nat) (P : Nat → Nat → Nat) (F : Nat → Nat → Int32) (A : Nat → Nat → Nat → Int32) (J : Nat → Nat → Nat → Int64) (x1 : Int32) (x2 : Int32) (x3 : Int32) (x5 : Int32) (x6 : Int32) (s0 : Int32) (s1 : Int32) : Option (Int32 × (Nat → Nat → Nat) × (Nat → Nat → Int32) × (Nat → Nat → Nat → Int32) × (Nat → Nat → Nat → Int64)) :=
    e_Evening_fittingPairs_127 K6 K16 n P F A J x1 x2 x3 (s0 + s1) x5 x6
set_option maxRecDepth 10000 in
theorem t_e_Evening_fittingPairs_124 (ht : ∀ ci k, t.1 ci k = k_ty ci k) {n : Nat} {K6 : (Nat → Nat → Nat) → (Nat → Nat → Int32) → (Nat → Nat → Nat → Int32) → (Nat → Nat → Nat → Int64) → Int32 → Int32 → Int32 → Int32 → Int32 → Option (Int32 × (Nat → Nat → Nat) × (Nat → Nat → Int32) × (Nat → Nat → Nat → Int32) × (Nat → Nat → Nat → Int64))} {K16 : (Nat → Nat → Nat) → (Nat → Nat → Int32) → (Nat → Nat → Nat → Int32) → (Nat → Nat → Nat → Int64) → Int32 → Int32 → Int32 → Int32 → Int32 → Int32 → Option (Int32 × (Nat → Nat → Nat) × (Nat → Nat → Int32) × (Nat → Nat → Nat → Int32) × (Nat → Nat → Nat → Int64))} (hK6 : ∀ (P : Nat → Nat → Nat) (F : Nat → Nat → Int32) (A : Nat → Nat → Nat → Int32) (J : Nat → Nat → Nat → Int64) (x1 : Int32) (x2 : Int32) (x3 : Int32) (x4 : Int32) (x5 : Int32) (w : Int32 × (Nat → Nat → Nat) × (Nat → Nat → Int32) × (Nat → Nat → Nat → Int32) × (Nat → Nat → Nat → Int64)), K6 P F A J x1 x2 x3 x4 x5 = some w → k_run t lg (d + 5) 20 6 [(0, .ref (32 * 1024)), (1, .int x1), (2, .int x2), (3, .int x3), (4, .int x4), (5, .int x5)] [] (c_h c B P F A J) (some (.int w.1), c_h c B w.2.1 w.2.2.1 w.2.2.2.1 w.2.2.2.2)) (hK16 : ∀ (P : Nat → Nat → Nat) (F : Nat → Nat → Int32) (A : Nat → Nat → Nat → Int32) (J : Nat → Nat → Nat → Int64) (x1 : Int32) (x2 : Int32) (x3 : Int32) (x4 : Int32) (x5 : Int32) (x6 : Int32) (w : Int32 × (Nat → Nat → Nat) × (Nat → Nat → Int32) × (Nat → Nat → Nat → Int32) × (Nat → Nat → Nat → Int64)), K16 P F A J x1 x2 x3 x4 x5 x6 = some w → k_run t lg (d + 5) 20 16 [(0, .ref (32 * 1024)), (1, .int x1), (2, .int x2), (3, .int x3), (4, .int x4), (5, .int x5), (6, .int x6)] [] (c_h c B P F A J) (some (.int w.1), c_h c B w.2.1 w.2.2.1 w.2.2.2.1 w.2.2.2.2)) {P : Nat → Nat → Nat} {F : Nat → Nat → Int32} {A : Nat → Nat → Nat → Int32} {J : Nat → Nat → Nat → Int64} {x1 : Int32} {x2 : Int32} {x3 : Int32} {x5 : Int32} {x6 : Int32} {s0 : Int32} {s1 : Int32}  {w : Int32 × (Nat → Nat → Nat) × (Nat → Nat → Int32) × (Nat → Nat → Nat → Int32) × (Nat → Nat → Nat → Int64)} : e_Evening_fittingPairs_124 K6 K16 n P F A J x1 x2 x3 x5 x6 s0 s1 = some w → k_run t lg (d + 5) 20 124 [(0, .ref (32 * 1024)), (1, .int x1), (2, .int x2), (3, .int x3), (5, .int x5), (6, .int x6)] [.int s1, .int s0] (c_h c B P F A J) (some (.int w.1), c_h c B w.2.1 w.2.2.1 w.2.2.2.1 w.2.2.2.2) := by
  intro hD
  unfold e_Evening_fittingPairs_124 at hD
  refine k_runB (pc' := 127) (loc' := [(0, .ref (32 * 1024)), (1, .int x1), (2, .int x2), (3, .int x3), (4, .int (s0 + s1)), (5, .int x5), (6, .int x6)]) (st' := []) 2 rfl ?_
  refine k_wk [0, 1, 2, 3, 4, 5, 6] (loc' := [(0, .ref (32 * 1024)), (1, .int x1), (2, .int x2), (3, .int x3), (4, .int (s0 + s1)), (5, .int x5), (6, .int x6)]) rfl rfl ?_
  exact t_e_Evening_fittingPairs_127 ht hK6 hK16  hD
def e_Evening_fittingPairs_16 (K6 : (Nat → Nat → Nat) → (Nat → Nat → Int32) → (Nat → Nat → Nat → Int32) → (Nat → Nat → Nat → Int64) → Int32 → Int32 → Int32 → Int32 → Int32 → Option (Int32 × (Nat → Nat → Nat) × (Nat → Nat → Int32) × (Nat → Nat → Nat → Int32) × (Nat → Nat → Nat → Int64))) : Nat → (Nat → Nat → Nat) → (Nat → Nat → Int32) → (Nat → Nat → Nat → Int32) → (Nat → Nat → Nat → Int64) → Int32 → Int32 → Int32 → Int32 → Int32 → Int32 → Option (Int32 × (Nat → Nat → Nat) × (Nat → Nat → Int32) × (Nat → Nat → Nat → Int32) × (Nat → Nat → Nat → Int64))
  | 0, _, _, _, _, _, _, _, _, _, _ => none
  | n + 1, P, F, A, J, x1, x2, x3, x4, x5, x6 => cond (g_cnd .ge x6 36)
    (e_Evening_fittingPairs_133 K6 n P F A J x1 x2 x3 x4 x5)
    ((c_chk 6 (P 32 4)).bind fun q3 =>
    (e_House_mayBeLeft P F A J q3 x5).bind fun v4 =>
    cond (g_cnd .eq v4 0)
    (e_Evening_fittingPairs_133 K6 n P F A J x1 x2 x3 x4 x5)
    ((c_chk 6 (P 32 4)).bind fun q6 =>
    (e_House_mayBeLeft P F A J q6 x6).bind fun v7 =>
    cond (g_cnd .eq v7 0)
    (e_Evening_fittingPairs_127 K6 (e_Evening_fittingPairs_16 K6 n) n P F A J x1 x2 x3 x4 x5 x6)
    ((e_State_copy P F A J 33 2).bind fun (_, P10, F11, A12, J13) =>
    (c_st A12 33 3 6 x1 x5).bind fun A14 =>
    (c_st A14 33 3 6 x2 x6).bind fun A15 =>
    (c_chk 6 (P10 32 4)).bind fun q16 =>
    (c_chk 6 (P10 32 4)).bind fun q17 =>
    (e_Sleep_goTill n P10 F11 A15 J13 (F11 q16 18) q17 33).bind fun (_, P19, F20, A21, J22) =>
    (e_Told_isSoIn n P19 F20 A21 J22 33 x3).bind fun v23 =>
    cond (g_cnd .eq v23 0)
    (e_Evening_fittingPairs_124 K6 (e_Evening_fittingPairs_16 K6 n) n P19 F20 A21 J22 x1 x2 x3 x5 x6 x4 0)
    (e_Evening_fittingPairs_124 K6 (e_Evening_fittingPairs_16 K6 n) n P19 F20 A21 J22 x1 x2 x3 x5 x6 x4 1))))
set_option maxRecDepth 10000 in
theorem t_e_Evening_fittingPairs_16 (ht : ∀ ci k, t.1 ci k = k_ty ci k) {n : Nat} {K6 : (Nat → Nat → Nat) → (Nat → Nat → Int32) → (Nat → Nat → Nat → Int32) → (Nat → Nat → Nat → Int64) → Int32 → Int32 → Int32 → Int32 → Int32 → Option (Int32 × (Nat → Nat → Nat) × (Nat → Nat → Int32) × (Nat → Nat → Nat → Int32) × (Nat → Nat → Nat → Int64))} (hK6 : ∀ (P : Nat → Nat → Nat) (F : Nat → Nat → Int32) (A : Nat → Nat → Nat → Int32) (J : Nat → Nat → Nat → Int64) (x1 : Int32) (x2 : Int32) (x3 : Int32) (x4 : Int32) (x5 : Int32) (w : Int32 × (Nat → Nat → Nat) × (Nat → Nat → Int32) × (Nat → Nat → Nat → Int32) × (Nat → Nat → Nat → Int64)), K6 P F A J x1 x2 x3 x4 x5 = some w → k_run t lg (d + 5) 20 6 [(0, .ref (32 * 1024)), (1, .int x1), (2, .int x2), (3, .int x3), (4, .int x4), (5, .int x5)] [] (c_h c B P F A J) (some (.int w.1), c_h c B w.2.1 w.2.2.1 w.2.2.2.1 w.2.2.2.2)) {P : Nat → Nat → Nat} {F : Nat → Nat → Int32} {A : Nat → Nat → Nat → Int32} {J : Nat → Nat → Nat → Int64} {x1 : Int32} {x2 : Int32} {x3 : Int32} {x4 : Int32} {x5 : Int32} {x6 : Int32}  {w : Int32 × (Nat → Nat → Nat) × (Nat → Nat → Int32) × (Nat → Nat → Nat → Int32) × (Nat → Nat → Nat → Int64)} : e_Evening_fittingPairs_16 K6 n P F A J x1 x2 x3 x4 x5 x6 = some w → k_run t lg (d + 5) 20 16 [(0, .ref (32 * 1024)), (1, .int x1), (2, .int x2), (3, .int x3), (4, .int x4), (5, .int x5), (6, .int x6)] [] (c_h c B P F A J) (some (.int w.1), c_h c B w.2.1 w.2.2.1 w.2.2.2.1 w.2.2.2.2) := by
  induction n generalizing P F A J x1 x2 x3 x4 x5 x6 w with
  | zero => intro hD; cases hD
  | succ n ih =>
    intro hD
    have hK16 : ∀ (P : Nat → Nat → Nat) (F : Nat → Nat → Int32) (A : Nat → Nat → Nat → Int32) (J : Nat → Nat → Nat → Int64) (x1 : Int32) (x2 : Int32) (x3 : Int32) (x4 : Int32) (x5 : Int32) (x6 : Int32) (w : Int32 × (Nat → Nat → Nat) × (Nat → Nat → Int32) × (Nat → Nat → Nat → Int32) × (Nat → Nat → Nat → Int64)), e_Evening_fittingPairs_16 K6 n P F A J x1 x2 x3 x4 x5 x6 = some w → k_run t lg (d + 5) 20 16 [(0, .ref (32 * 1024)), (1, .int x1), (2, .int x2), (3, .int x3), (4, .int x4), (5, .int x5), (6, .int x6)] [] (c_h c B P F A J) (some (.int w.1), c_h c B w.2.1 w.2.2.1 w.2.2.2.1 w.2.2.2.2) := fun _ _ _ _ _ _ _ _ _ _ _  h => ih  h
    unfold e_Evening_fittingPairs_16 at hD
    refine k_runB (pc' := 20) (loc' := [(0, .ref (32 * 1024)), (1, .int x1), (2, .int x2), (3, .int x3), (4, .int x4), (5, .int x5), (6, .int x6)]) (st' := [.int 36, .int x6]) 2 rfl ?_
    refine k_ic rfl (fun c20_1 => ?_) (fun c20_1 => ?_)
    · rw [c20_1, cond_true] at hD
      refine k_wk [0, 1, 2, 3, 4, 5] (loc' := [(0, .ref (32 * 1024)), (1, .int x1), (2, .int x2), (3, .int x3), (4, .int x4), (5, .int x5)]) rfl rfl ?_
      exact t_e_Evening_fittingPairs_133 ht hK6  hD
    · rw [c20_1, cond_false] at hD
      refine k_runB (pc' := 24) (loc' := [(0, .ref (32 * 1024)), (1, .int x1), (2, .int x2), (3, .int x3), (4, .int x4), (5, .int x5), (6, .int x6)]) (st' := [.ref (32 * 1024)]) 1 rfl ?_
      obtain ⟨q3, hq3, hD⟩ := Option.bind_eq_some_iff.mp hD
      refine k_gq 32 0 (K := 7) (K2 := 6) (key := 4) rfl rfl rfl rfl rfl hq3 (fun kq3 => ?_)
      refine k_runB (pc' := 29) (loc' := [(0, .ref (32 * 1024)), (1, .int x1), (2, .int x2), (3, .int x3), (4, .int x4), (5, .int x5), (6, .int x6)]) (st' := [.int x5, .ref (q3 * 1024)]) 1 rfl ?_
      obtain ⟨v4, hv4, hD⟩ := Option.bind_eq_some_iff.mp hD
      refine k_runV rfl rfl rfl (c_get (r := q3) (o := 0) (K := 6) kq3 (by decide)) rfl rfl (t_e_House_mayBeLeft (d := d + 4) kq3 hv4) ?_
      refine k_if rfl (fun c32_4 => ?_) (fun c32_4 => ?_)
      · rw [c32_4, cond_true] at hD
        refine k_wk [0, 1, 2, 3, 4, 5] (loc' := [(0, .ref (32 * 1024)), (1, .int x1), (2, .int x2), (3, .int x3), (4, .int x4), (5, .int x5)]) rfl rfl ?_
        exact t_e_Evening_fittingPairs_133 ht hK6  hD
      · rw [c32_4, cond_false] at hD
        refine k_runB (pc' := 36) (loc' := [(0, .ref (32 * 1024)), (1, .int x1), (2, .int x2), (3, .int x3), (4, .int x4), (5, .int x5), (6, .int x6)]) (st' := [.ref (32 * 1024)]) 1 rfl ?_
        obtain ⟨q6, hq6, hD⟩ := Option.bind_eq_some_iff.mp hD
        refine k_gq 32 0 (K := 7) (K2 := 6) (key := 4) rfl rfl rfl rfl rfl hq6 (fun kq6 => ?_)
        refine k_runB (pc' := 41) (loc' := [(0, .ref (32 * 1024)), (1, .int x1), (2, .int x2), (3, .int x3), (4, .int x4), (5, .int x5), (6, .int x6)]) (st' := [.int x6, .ref (q6 * 1024)]) 1 rfl ?_
        obtain ⟨v7, hv7, hD⟩ := Option.bind_eq_some_iff.mp hD
        refine k_runV rfl rfl rfl (c_get (r := q6) (o := 0) (K := 6) kq6 (by decide)) rfl rfl (t_e_House_mayBeLeft (d := d + 4) kq6 hv7) ?_
        refine k_if rfl (fun c44_7 => ?_) (fun c44_7 => ?_)
        · rw [c44_7, cond_true] at hD
          refine k_wk [0, 1, 2, 3, 4, 5, 6] (loc' := [(0, .ref (32 * 1024)), (1, .int x1), (2, .int x2), (3, .int x3), (4, .int x4), (5, .int x5), (6, .int x6)]) rfl rfl ?_
          exact t_e_Evening_fittingPairs_127 ht hK6 hK16  hD
        · rw [c44_7, cond_false] at hD
          refine k_runB (pc' := 48) (loc' := [(0, .ref (32 * 1024)), (1, .int x1), (2, .int x2), (3, .int x3), (4, .int x4), (5, .int x5), (6, .int x6)]) (st' := [.ref (32 * 1024)]) 1 rfl ?_
          refine k_gf 32 0 (K := 7) rfl rfl rfl rfl rfl ?_
          refine k_runB (pc' := 52) (loc' := [(0, .ref (32 * 1024)), (1, .int x1), (2, .int x2), (3, .int x3), (4, .int x4), (5, .int x5), (6, .int x6)]) (st' := [.ref (32 * 1024), .ref (33 * 1024)]) 1 rfl ?_
          refine k_gf 32 0 (K := 7) rfl rfl rfl rfl rfl ?_
          obtain ⟨⟨v9, P10, F11, A12, J13⟩, hv9, hD⟩ := Option.bind_eq_some_iff.mp hD
          dsimp only at hD
          refine k_runV rfl rfl rfl (c_get (r := 33) (o := 0) (K := 2) rfl (by decide)) rfl rfl (t_e_State_copy (d := d + 4) ht rfl rfl hv9) ?_
          refine k_runB (pc' := 59) (loc' := [(0, .ref (32 * 1024)), (1, .int x1), (2, .int x2), (3, .int x3), (4, .int x4), (5, .int x5), (6, .int x6)]) (st' := [.ref (32 * 1024)]) 1 rfl ?_
          refine k_gf 32 0 (K := 7) rfl rfl rfl rfl rfl ?_
          refine k_gf 33 0 (K := 2) rfl rfl rfl rfl rfl ?_
          refine k_runB (pc' := 68) (loc' := [(0, .ref (32 * 1024)), (1, .int x1), (2, .int x2), (3, .int x3), (4, .int x4), (5, .int x5), (6, .int x6)]) (st' := [.int x5, .int x1, .ref (33 * 1024 + 3)]) 2 rfl ?_
          obtain ⟨A14, hA14, hD⟩ := Option.bind_eq_some_iff.mp hD
          refine k_cstI 33 3 (K := 2) rfl rfl rfl rfl (fun _ => rfl) hA14 ?_
          refine k_runB (pc' := 70) (loc' := [(0, .ref (32 * 1024)), (1, .int x1), (2, .int x2), (3, .int x3), (4, .int x4), (5, .int x5), (6, .int x6)]) (st' := [.ref (32 * 1024)]) 1 rfl ?_
          refine k_gf 32 0 (K := 7) rfl rfl rfl rfl rfl ?_
          refine k_gf 33 0 (K := 2) rfl rfl rfl rfl rfl ?_
          refine k_runB (pc' := 79) (loc' := [(0, .ref (32 * 1024)), (1, .int x1), (2, .int x2), (3, .int x3), (4, .int x4), (5, .int x5), (6, .int x6)]) (st' := [.int x6, .int x2, .ref (33 * 1024 + 3)]) 2 rfl ?_
          obtain ⟨A15, hA15, hD⟩ := Option.bind_eq_some_iff.mp hD
          refine k_cstI 33 3 (K := 2) rfl rfl rfl rfl (fun _ => rfl) hA15 ?_
          refine k_runB (pc' := 81) (loc' := [(0, .ref (32 * 1024)), (1, .int x1), (2, .int x2), (3, .int x3), (4, .int x4), (5, .int x5), (6, .int x6)]) (st' := [.ref (32 * 1024)]) 1 rfl ?_
          refine k_gf 32 0 (K := 7) rfl rfl rfl rfl rfl ?_
          refine k_runB (pc' := 85) (loc' := [(0, .ref (32 * 1024)), (1, .int x1), (2, .int x2), (3, .int x3), (4, .int x4), (5, .int x5), (6, .int x6)]) (st' := [.ref (32 * 1024), .ref (36 * 1024)]) 1 rfl ?_
          obtain ⟨q16, hq16, hD⟩ := Option.bind_eq_some_iff.mp hD
          refine k_gq 32 0 (K := 7) (K2 := 6) (key := 4) rfl rfl rfl rfl rfl hq16 (fun kq16 => ?_)
          refine k_gf q16 0 (K := 6) kq16 rfl rfl rfl rfl ?_
          refine k_runB (pc' := 92) (loc' := [(0, .ref (32 * 1024)), (1, .int x1), (2, .int x2), (3, .int x3), (4, .int x4), (5, .int x5), (6, .int x6)]) (st' := [.ref (32 * 1024), .int (F11 q16 18), .ref (36 * 1024)]) 1 rfl ?_
          obtain ⟨q17, hq17, hD⟩ := Option.bind_eq_some_iff.mp hD
          refine k_gq 32 0 (K := 7) (K2 := 6) (key := 4) rfl rfl rfl rfl rfl hq17 (fun kq17 => ?_)
          refine k_runB (pc' := 96) (loc' := [(0, .ref (32 * 1024)), (1, .int x1), (2, .int x2), (3, .int x3), (4, .int x4), (5, .int x5), (6, .int x6)]) (st' := [.ref (32 * 1024), .ref (q17 * 1024), .int (F11 q16 18), .ref (36 * 1024)]) 1 rfl ?_
          refine k_gf 32 0 (K := 7) rfl rfl rfl rfl rfl ?_
          obtain ⟨⟨v18, P19, F20, A21, J22⟩, hv18, hD⟩ := Option.bind_eq_some_iff.mp hD
          dsimp only at hD
          refine k_runV rfl rfl rfl (c_get (r := 36) (o := 0) (K := 10) rfl (by decide)) rfl rfl (t_e_Sleep_goTill (d := d) ht kq17 rfl hv18) ?_
          refine k_runB (pc' := 105) (loc' := [(0, .ref (32 * 1024)), (1, .int x1), (2, .int x2), (3, .int x3), (4, .int x4), (5, .int x5), (6, .int x6)]) (st' := [.ref (32 * 1024), .int x4]) 2 rfl ?_
          refine k_gf 32 0 (K := 7) rfl rfl rfl rfl rfl ?_
          refine k_runB (pc' := 109) (loc' := [(0, .ref (32 * 1024)), (1, .int x1), (2, .int x2), (3, .int x3), (4, .int x4), (5, .int x5), (6, .int x6)]) (st' := [.ref (32 * 1024), .ref (25 * 1024), .int x4]) 1 rfl ?_
          refine k_gf 32 0 (K := 7) rfl rfl rfl rfl rfl ?_
          refine k_runB (pc' := 113) (loc' := [(0, .ref (32 * 1024)), (1, .int x1), (2, .int x2), (3, .int x3), (4, .int x4), (5, .int x5), (6, .int x6)]) (st' := [.int x3, .ref (33 * 1024), .ref (25 * 1024), .int x4]) 1 rfl ?_
          obtain ⟨v23, hv23, hD⟩ := Option.bind_eq_some_iff.mp hD
          refine k_runV rfl rfl rfl (c_get (r := 25) (o := 0) (K := 4) rfl (by decide)) rfl rfl (t_e_Told_isSoIn (d := d + 4) rfl hv23) ?_
          refine k_if rfl (fun c116_23 => ?_) (fun c116_23 => ?_)
          · rw [c116_23, cond_true] at hD
            refine k_runB (pc' := 124) (loc' := [(0, .ref (32 * 1024)), (1, .int x1), (2, .int x2), (3, .int x3), (4, .int x4), (5, .int x5), (6, .int x6)]) (st' := [.int 0, .int x4]) 1 rfl ?_
            refine k_wk [0, 1, 2, 3, 5, 6] (loc' := [(0, .ref (32 * 1024)), (1, .int x1), (2, .int x2), (3, .int x3), (5, .int x5), (6, .int x6)]) rfl rfl ?_
            exact t_e_Evening_fittingPairs_124 ht hK6 hK16  hD
          · rw [c116_23, cond_false] at hD
            refine k_runB (pc' := 124) (loc' := [(0, .ref (32 * 1024)), (1, .int x1), (2, .int x2), (3, .int x3), (4, .int x4), (5, .int x5), (6, .int x6)]) (st' := [.int 1, .int x4]) 2 rfl ?_
            refine k_wk [0, 1, 2, 3, 5, 6] (loc' := [(0, .ref (32 * 1024)), (1, .int x1), (2, .int x2), (3, .int x3), (5, .int x5), (6, .int x6)]) rfl rfl ?_
            exact t_e_Evening_fittingPairs_124 ht hK6 hK16  hD
def e_Evening_fittingPairs_6 : Nat → (Nat → Nat → Nat) → (Nat → Nat → Int32) → (Nat → Nat → Nat → Int32) → (Nat → Nat → Nat → Int64) → Int32 → Int32 → Int32 → Int32 → Int32 → Option (Int32 × (Nat → Nat → Nat) × (Nat → Nat → Int32) × (Nat → Nat → Nat → Int32) × (Nat → Nat → Nat → Int64))
  | 0, _, _, _, _, _, _, _, _, _ => none
  | n + 1, P, F, A, J, x1, x2, x3, x4, x5 => cond (g_cnd .ge x5 36)
    (some (x4, P, F, A, J))
    (e_Evening_fittingPairs_16 (e_Evening_fittingPairs_6 n) n P F A J x1 x2 x3 x4 x5 ((-1)))
set_option maxRecDepth 10000 in
theorem t_e_Evening_fittingPairs_6 (ht : ∀ ci k, t.1 ci k = k_ty ci k) {n : Nat}  {P : Nat → Nat → Nat} {F : Nat → Nat → Int32} {A : Nat → Nat → Nat → Int32} {J : Nat → Nat → Nat → Int64} {x1 : Int32} {x2 : Int32} {x3 : Int32} {x4 : Int32} {x5 : Int32}  {w : Int32 × (Nat → Nat → Nat) × (Nat → Nat → Int32) × (Nat → Nat → Nat → Int32) × (Nat → Nat → Nat → Int64)} : e_Evening_fittingPairs_6 n P F A J x1 x2 x3 x4 x5 = some w → k_run t lg (d + 5) 20 6 [(0, .ref (32 * 1024)), (1, .int x1), (2, .int x2), (3, .int x3), (4, .int x4), (5, .int x5)] [] (c_h c B P F A J) (some (.int w.1), c_h c B w.2.1 w.2.2.1 w.2.2.2.1 w.2.2.2.2) := by
  induction n generalizing P F A J x1 x2 x3 x4 x5 w with
  | zero => intro hD; cases hD
  | succ n ih =>
    intro hD
    have hK6 : ∀ (P : Nat → Nat → Nat) (F : Nat → Nat → Int32) (A : Nat → Nat → Nat → Int32) (J : Nat → Nat → Nat → Int64) (x1 : Int32) (x2 : Int32) (x3 : Int32) (x4 : Int32) (x5 : Int32) (w : Int32 × (Nat → Nat → Nat) × (Nat → Nat → Int32) × (Nat → Nat → Nat → Int32) × (Nat → Nat → Nat → Int64)), e_Evening_fittingPairs_6 n P F A J x1 x2 x3 x4 x5 = some w → k_run t lg (d + 5) 20 6 [(0, .ref (32 * 1024)), (1, .int x1), (2, .int x2), (3, .int x3), (4, .int x4), (5, .int x5)] [] (c_h c B P F A J) (some (.int w.1), c_h c B w.2.1 w.2.2.1 w.2.2.2.1 w.2.2.2.2) := fun _ _ _ _ _ _ _ _ _ _  h => ih  h
    unfold e_Evening_fittingPairs_6 at hD
    refine k_runB (pc' := 10) (loc' := [(0, .ref (32 * 1024)), (1, .int x1), (2, .int x2), (3, .int x3), (4, .int x4), (5, .int x5)]) (st' := [.int 36, .int x5]) 2 rfl ?_
    refine k_ic rfl (fun c10_0 => ?_) (fun c10_0 => ?_)
    · rw [c10_0, cond_true] at hD
      refine k_runB (pc' := 141) (loc' := [(0, .ref (32 * 1024)), (1, .int x1), (2, .int x2), (3, .int x3), (4, .int x4), (5, .int x5)]) (st' := [.int x4]) 1 rfl ?_
      cases hD
      exact k_iret rfl rfl
    · rw [c10_0, cond_false] at hD
      refine k_runB (pc' := 16) (loc' := [(0, .ref (32 * 1024)), (1, .int x1), (2, .int x2), (3, .int x3), (4, .int x4), (5, .int x5), (6, .int ((-1)))]) (st' := []) 2 rfl ?_
      refine k_wk [0, 1, 2, 3, 4, 5, 6] (loc' := [(0, .ref (32 * 1024)), (1, .int x1), (2, .int x2), (3, .int x3), (4, .int x4), (5, .int x5), (6, .int ((-1)))]) rfl rfl ?_
      exact t_e_Evening_fittingPairs_16 ht hK6  hD
/-- SleepWork$Evening.fittingPairs(III)I  -/
def e_Evening_fittingPairs (n : Nat) (P : Nat → Nat → Nat) (F : Nat → Nat → Int32) (A : Nat → Nat → Nat → Int32) (J : Nat → Nat → Nat → Int64) (x1 : Int32) (x2 : Int32) (x3 : Int32) : Option (Int32 × (Nat → Nat → Nat) × (Nat → Nat → Int32) × (Nat → Nat → Nat → Int32) × (Nat → Nat → Nat → Int64)) :=
  e_Evening_fittingPairs_6 n P F A J x1 x2 x3 0 ((-1))
set_option maxRecDepth 10000 in
theorem t_e_Evening_fittingPairs (ht : ∀ ci k, t.1 ci k = k_ty ci k) {n : Nat} {P : Nat → Nat → Nat} {F : Nat → Nat → Int32} {A : Nat → Nat → Nat → Int32} {J : Nat → Nat → Nat → Int64} {x1 : Int32} {x2 : Int32} {x3 : Int32}  {w : Int32 × (Nat → Nat → Nat) × (Nat → Nat → Int32) × (Nat → Nat → Nat → Int32) × (Nat → Nat → Nat → Int64)} : e_Evening_fittingPairs n P F A J x1 x2 x3 = some w → k_run t lg (d + 5) 20 0 [(0, .ref (32 * 1024)), (1, .int x1), (2, .int x2), (3, .int x3)] [] (c_h c B P F A J) (some (.int w.1), c_h c B w.2.1 w.2.2.1 w.2.2.2.1 w.2.2.2.2) := by
  intro hD
  unfold e_Evening_fittingPairs at hD
  refine k_runB (pc' := 6) (loc' := [(0, .ref (32 * 1024)), (1, .int x1), (2, .int x2), (3, .int x3), (4, .int 0), (5, .int ((-1)))]) (st' := []) 4 rfl ?_
  refine k_wk [0, 1, 2, 3, 4, 5] (loc' := [(0, .ref (32 * 1024)), (1, .int x1), (2, .int x2), (3, .int x3), (4, .int 0), (5, .int ((-1)))]) rfl rfl ?_
  exact t_e_Evening_fittingPairs_6 ht   hD
/-- SleepWork$Laws.clear()V  -/
def e_Laws_clear (P : Nat → Nat → Nat) (F : Nat → Nat → Int32) (A : Nat → Nat → Nat → Int32) (J : Nat → Nat → Nat → Int64) (r0 : Nat) : Option (Unit × (Nat → Nat → Nat) × (Nat → Nat → Int32) × (Nat → Nat → Nat → Int32) × (Nat → Nat → Nat → Int64)) :=
  (c_pf F r0 1304 0).bind fun F1 =>
  (c_fi A r0 14 6 ((-1))).bind fun A2 =>
  some ((), P, F1, A2, J)
set_option maxRecDepth 10000 in
theorem t_e_Laws_clear (ht : ∀ ci k, t.1 ci k = k_ty ci k) {P : Nat → Nat → Nat} {F : Nat → Nat → Int32} {A : Nat → Nat → Nat → Int32} {J : Nat → Nat → Nat → Int64} {r0 : Nat} (hr0 : c_kind r0 = 6) {w : Unit × (Nat → Nat → Nat) × (Nat → Nat → Int32) × (Nat → Nat → Nat → Int32) × (Nat → Nat → Nat → Int64)} : e_Laws_clear P F A J r0 = some w → k_run t lg (d + 1) 30 0 [(0, .ref (r0 * 1024 + 13))] [] (c_h c B P F A J) (none, c_h c B w.2.1 w.2.2.1 w.2.2.2.1 w.2.2.2.2) := by
  intro hD
  unfold e_Laws_clear at hD
  refine k_runB (pc' := 2) (loc' := [(0, .ref (r0 * 1024 + 13))]) (st' := [.int 0, .ref (r0 * 1024 + 13)]) 2 rfl ?_
  obtain ⟨F1, hF1, hD⟩ := Option.bind_eq_some_iff.mp hD
  refine k_cpt r0 13 (K := 6) (key := 1304) hr0 rfl (ht 2 4) rfl rfl rfl hF1 ?_
  refine k_runB (pc' := 6) (loc' := [(0, .ref (r0 * 1024 + 13))]) (st' := [.ref (r0 * 1024 + 13)]) 1 rfl ?_
  refine k_gf r0 13 (K := 6) hr0 rfl rfl rfl rfl ?_
  refine k_runB (pc' := 10) (loc' := [(0, .ref (r0 * 1024 + 13))]) (st' := [.int ((-1)), .ref (r0 * 1024 + 14)]) 1 rfl ?_
  obtain ⟨A2, hA2, hD⟩ := Option.bind_eq_some_iff.mp hD
  refine k_runC rfl rfl rfl rfl (t_fillI r0 14 (K := 6) (n := 6) hr0 (fun _ => rfl) (fun _ _ => rfl) (by decide) hA2) ?_
  cases hD
  exact k_vret rfl rfl
/-- SleepWork$House.clear()V  -/
def e_House_clear (P : Nat → Nat → Nat) (F : Nat → Nat → Int32) (A : Nat → Nat → Nat → Int32) (J : Nat → Nat → Nat → Int64) (r0 : Nat) : Option (Unit × (Nat → Nat → Nat) × (Nat → Nat → Int32) × (Nat → Nat → Nat → Int32) × (Nat → Nat → Nat → Int64)) :=
  (c_pf F r0 13 0).bind fun F1 =>
  (c_pf F1 r0 14 0).bind fun F2 =>
  (c_pf F2 r0 15 0).bind fun F3 =>
  (c_pf F3 r0 16 0).bind fun F4 =>
  (c_pf F4 r0 17 0).bind fun F5 =>
  (c_pf F5 r0 18 480).bind fun F6 =>
  (c_fi A r0 5 6 0).bind fun A7 =>
  (e_Laws_clear P F6 A7 J r0).bind fun (_, P9, F10, A11, J12) =>
  some ((), P9, F10, A11, J12)
set_option maxRecDepth 10000 in
theorem t_e_House_clear (ht : ∀ ci k, t.1 ci k = k_ty ci k) {P : Nat → Nat → Nat} {F : Nat → Nat → Int32} {A : Nat → Nat → Nat → Int32} {J : Nat → Nat → Nat → Int64} {r0 : Nat} (hr0 : c_kind r0 = 6) {w : Unit × (Nat → Nat → Nat) × (Nat → Nat → Int32) × (Nat → Nat → Nat → Int32) × (Nat → Nat → Nat → Int64)} : e_House_clear P F A J r0 = some w → k_run t lg (d + 2) 22 0 [(0, .ref (r0 * 1024))] [] (c_h c B P F A J) (none, c_h c B w.2.1 w.2.2.1 w.2.2.2.1 w.2.2.2.2) := by
  intro hD
  unfold e_House_clear at hD
  refine k_runB (pc' := 2) (loc' := [(0, .ref (r0 * 1024))]) (st' := [.int 0, .ref (r0 * 1024)]) 2 rfl ?_
  obtain ⟨F1, hF1, hD⟩ := Option.bind_eq_some_iff.mp hD
  refine k_cpt r0 0 (K := 6) (key := 13) hr0 rfl (ht 1 13) rfl rfl rfl hF1 ?_
  refine k_runB (pc' := 7) (loc' := [(0, .ref (r0 * 1024))]) (st' := [.int 0, .ref (r0 * 1024)]) 2 rfl ?_
  obtain ⟨F2, hF2, hD⟩ := Option.bind_eq_some_iff.mp hD
  refine k_cpt r0 0 (K := 6) (key := 14) hr0 rfl (ht 1 14) rfl rfl rfl hF2 ?_
  refine k_runB (pc' := 12) (loc' := [(0, .ref (r0 * 1024))]) (st' := [.int 0, .ref (r0 * 1024)]) 2 rfl ?_
  obtain ⟨F3, hF3, hD⟩ := Option.bind_eq_some_iff.mp hD
  refine k_cpt r0 0 (K := 6) (key := 15) hr0 rfl (ht 1 15) rfl rfl rfl hF3 ?_
  refine k_runB (pc' := 17) (loc' := [(0, .ref (r0 * 1024))]) (st' := [.int 0, .ref (r0 * 1024)]) 2 rfl ?_
  obtain ⟨F4, hF4, hD⟩ := Option.bind_eq_some_iff.mp hD
  refine k_cpt r0 0 (K := 6) (key := 16) hr0 rfl (ht 1 16) rfl rfl rfl hF4 ?_
  refine k_runB (pc' := 22) (loc' := [(0, .ref (r0 * 1024))]) (st' := [.int 0, .ref (r0 * 1024)]) 2 rfl ?_
  obtain ⟨F5, hF5, hD⟩ := Option.bind_eq_some_iff.mp hD
  refine k_cpt r0 0 (K := 6) (key := 17) hr0 rfl (ht 1 17) rfl rfl rfl hF5 ?_
  refine k_runB (pc' := 29) (loc' := [(0, .ref (r0 * 1024))]) (st' := [.int 480, .ref (r0 * 1024)]) 2 rfl ?_
  obtain ⟨F6, hF6, hD⟩ := Option.bind_eq_some_iff.mp hD
  refine k_cpt r0 0 (K := 6) (key := 18) hr0 rfl (ht 1 18) rfl rfl rfl hF6 ?_
  refine k_runB (pc' := 33) (loc' := [(0, .ref (r0 * 1024))]) (st' := [.ref (r0 * 1024)]) 1 rfl ?_
  refine k_gf r0 0 (K := 6) hr0 rfl rfl rfl rfl ?_
  refine k_runB (pc' := 37) (loc' := [(0, .ref (r0 * 1024))]) (st' := [.int 0, .ref (r0 * 1024 + 5)]) 1 rfl ?_
  obtain ⟨A7, hA7, hD⟩ := Option.bind_eq_some_iff.mp hD
  refine k_runC rfl rfl rfl rfl (t_fillI r0 5 (K := 6) (n := 6) hr0 (fun _ => rfl) (fun _ _ => rfl) (by decide) hA7) ?_
  refine k_runB (pc' := 41) (loc' := [(0, .ref (r0 * 1024))]) (st' := [.ref (r0 * 1024)]) 1 rfl ?_
  refine k_gf r0 0 (K := 6) hr0 rfl rfl rfl rfl ?_
  obtain ⟨⟨v8, P9, F10, A11, J12⟩, hv8, hD⟩ := Option.bind_eq_some_iff.mp hD
  dsimp only at hD
  refine k_runV rfl rfl rfl (c_get (r := r0) (o := 13) (K := 6) hr0 (by decide)) rfl rfl (t_e_Laws_clear (d := d) ht hr0 hv8) ?_
  cases hD
  exact k_vret rfl rfl
end MC
