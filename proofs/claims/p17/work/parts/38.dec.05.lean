/-! the class's methods as functions (printed by wip/dec2.py) -/
section MC
variable {t : gT} {lg : Nat → Nat} {d : Nat} {c : Nat × Nat} {B : Nat → List gE}
def e_Evening_seekForTwo_101 (K13 : (Nat → Nat → Nat) → (Nat → Nat → Int32) → (Nat → Nat → Nat → Int32) → (Nat → Nat → Nat → Int64) → Int32 → Int32 → Int32 → Option (Unit × (Nat → Nat → Nat) × (Nat → Nat → Int32) × (Nat → Nat → Nat → Int32) × (Nat → Nat → Nat → Int64))) (n : Nat) (P : Nat → Nat → Nat) (F : Nat → Nat → Int32) (A : Nat → Nat → Nat → Int32) (J : Nat → Nat → Nat → Int64) (x1 : Int32) (x2 : Int32) (x3 : Int32) : Option (Unit × (Nat → Nat → Nat) × (Nat → Nat → Int32) × (Nat → Nat → Nat → Int32) × (Nat → Nat → Nat → Int64)) :=
    K13 P F A J x1 x2 (x3 + 1)
set_option maxRecDepth 10000 in
theorem t_e_Evening_seekForTwo_101 (ht : ∀ ci k, t.1 ci k = k_ty ci k) {n : Nat} {K13 : (Nat → Nat → Nat) → (Nat → Nat → Int32) → (Nat → Nat → Nat → Int32) → (Nat → Nat → Nat → Int64) → Int32 → Int32 → Int32 → Option (Unit × (Nat → Nat → Nat) × (Nat → Nat → Int32) × (Nat → Nat → Nat → Int32) × (Nat → Nat → Nat → Int64))} (hK13 : ∀ (P : Nat → Nat → Nat) (F : Nat → Nat → Int32) (A : Nat → Nat → Nat → Int32) (J : Nat → Nat → Nat → Int64) (x1 : Int32) (x2 : Int32) (x3 : Int32) (w : Unit × (Nat → Nat → Nat) × (Nat → Nat → Int32) × (Nat → Nat → Nat → Int32) × (Nat → Nat → Nat → Int64)), K13 P F A J x1 x2 x3 = some w → k_run t lg (d + 6) 11 13 [(0, .ref (32 * 1024)), (1, .int x1), (2, .int x2), (3, .int x3)] [] (c_h c B P F A J) (none, c_h c B w.2.1 w.2.2.1 w.2.2.2.1 w.2.2.2.2)) {P : Nat → Nat → Nat} {F : Nat → Nat → Int32} {A : Nat → Nat → Nat → Int32} {J : Nat → Nat → Nat → Int64} {x1 : Int32} {x2 : Int32} {x3 : Int32}  {w : Unit × (Nat → Nat → Nat) × (Nat → Nat → Int32) × (Nat → Nat → Nat → Int32) × (Nat → Nat → Nat → Int64)} : e_Evening_seekForTwo_101 K13 n P F A J x1 x2 x3 = some w → k_run t lg (d + 6) 11 101 [(0, .ref (32 * 1024)), (1, .int x1), (2, .int x2), (3, .int x3)] [] (c_h c B P F A J) (none, c_h c B w.2.1 w.2.2.1 w.2.2.2.1 w.2.2.2.2) := by
  intro hD
  unfold e_Evening_seekForTwo_101 at hD
  refine k_runB (pc' := 13) (loc' := [(0, .ref (32 * 1024)), (1, .int x1), (2, .int x2), (3, .int (x3 + 1))]) (st' := []) 2 rfl ?_
  refine k_wk [0, 1, 2, 3] (loc' := [(0, .ref (32 * 1024)), (1, .int x1), (2, .int x2), (3, .int (x3 + 1))]) rfl rfl ?_
  exact hK13 _ _ _ _ _ _ _ _  hD
def e_Evening_seekForTwo_95 (K13 : (Nat → Nat → Nat) → (Nat → Nat → Int32) → (Nat → Nat → Nat → Int32) → (Nat → Nat → Nat → Int64) → Int32 → Int32 → Int32 → Option (Unit × (Nat → Nat → Nat) × (Nat → Nat → Int32) × (Nat → Nat → Nat → Int32) × (Nat → Nat → Nat → Int64))) (K22 : (Nat → Nat → Nat) → (Nat → Nat → Int32) → (Nat → Nat → Nat → Int32) → (Nat → Nat → Nat → Int64) → Int32 → Int32 → Int32 → Int32 → Option (Unit × (Nat → Nat → Nat) × (Nat → Nat → Int32) × (Nat → Nat → Nat → Int32) × (Nat → Nat → Nat → Int64))) (n : Nat) (P : Nat → Nat → Nat) (F : Nat → Nat → Int32) (A : Nat → Nat → Nat → Int32) (J : Nat → Nat → Nat → Int64) (x1 : Int32) (x2 : Int32) (x3 : Int32) (x4 : Int32) : Option (Unit × (Nat → Nat → Nat) × (Nat → Nat → Int32) × (Nat → Nat → Nat → Int32) × (Nat → Nat → Nat → Int64)) :=
    K22 P F A J x1 x2 x3 (x4 + 1)
set_option maxRecDepth 10000 in
theorem t_e_Evening_seekForTwo_95 (ht : ∀ ci k, t.1 ci k = k_ty ci k) {n : Nat} {K13 : (Nat → Nat → Nat) → (Nat → Nat → Int32) → (Nat → Nat → Nat → Int32) → (Nat → Nat → Nat → Int64) → Int32 → Int32 → Int32 → Option (Unit × (Nat → Nat → Nat) × (Nat → Nat → Int32) × (Nat → Nat → Nat → Int32) × (Nat → Nat → Nat → Int64))} {K22 : (Nat → Nat → Nat) → (Nat → Nat → Int32) → (Nat → Nat → Nat → Int32) → (Nat → Nat → Nat → Int64) → Int32 → Int32 → Int32 → Int32 → Option (Unit × (Nat → Nat → Nat) × (Nat → Nat → Int32) × (Nat → Nat → Nat → Int32) × (Nat → Nat → Nat → Int64))} (hK13 : ∀ (P : Nat → Nat → Nat) (F : Nat → Nat → Int32) (A : Nat → Nat → Nat → Int32) (J : Nat → Nat → Nat → Int64) (x1 : Int32) (x2 : Int32) (x3 : Int32) (w : Unit × (Nat → Nat → Nat) × (Nat → Nat → Int32) × (Nat → Nat → Nat → Int32) × (Nat → Nat → Nat → Int64)), K13 P F A J x1 x2 x3 = some w → k_run t lg (d + 6) 11 13 [(0, .ref (32 * 1024)), (1, .int x1), (2, .int x2), (3, .int x3)] [] (c_h c B P F A J) (none, c_h c B w.2.1 w.2.2.1 w.2.2.2.1 w.2.2.2.2)) (hK22 : ∀ (P : Nat → Nat → Nat) (F : Nat → Nat → Int32) (A : Nat → Nat → Nat → Int32) (J : Nat → Nat → Nat → Int64) (x1 : Int32) (x2 : Int32) (x3 : Int32) (x4 : Int32) (w : Unit × (Nat → Nat → Nat) × (Nat → Nat → Int32) × (Nat → Nat → Nat → Int32) × (Nat → Nat → Nat → Int64)), K22 P F A J x1 x2 x3 x4 = some w → k_run t lg (d + 6) 11 22 [(0, .ref (32 * 1024)), (1, .int x1), (2, .int x2), (3, .int x3), (4, .int x4)] [] (c_h c B P F A J) (none, c_h c B w.2.1 w.2.2.1 w.2.2.2.1 w.2.2.2.2)) {P : Nat → Nat → Nat} {F : Nat → Nat → Int32} {A : Nat → Nat → Nat → Int32} {J : Nat → Nat → Nat → Int64} {x1 : Int32} {x2 : Int32} {x3 : Int32} {x4 : Int32}  {w : Unit × (Nat → Nat → Nat) × (Nat → Nat → Int32) × (Nat → Nat → Nat → Int32) × (Nat → Nat → Nat → Int64)} : e_Evening_seekForTwo_95 K13 K22 n P F A J x1 x2 x3 x4 = some w → k_run t lg (d + 6) 11 95 [(0, .ref (32 * 1024)), (1, .int x1), (2, .int x2), (3, .int x3), (4, .int x4)] [] (c_h c B P F A J) (none, c_h c B w.2.1 w.2.2.1 w.2.2.2.1 w.2.2.2.2) := by
  intro hD
  unfold e_Evening_seekForTwo_95 at hD
  refine k_runB (pc' := 22) (loc' := [(0, .ref (32 * 1024)), (1, .int x1), (2, .int x2), (3, .int x3), (4, .int (x4 + 1))]) (st' := []) 2 rfl ?_
  refine k_wk [0, 1, 2, 3, 4] (loc' := [(0, .ref (32 * 1024)), (1, .int x1), (2, .int x2), (3, .int x3), (4, .int (x4 + 1))]) rfl rfl ?_
  exact hK22 _ _ _ _ _ _ _ _ _  hD
def e_Evening_seekForTwo_22 (K13 : (Nat → Nat → Nat) → (Nat → Nat → Int32) → (Nat → Nat → Nat → Int32) → (Nat → Nat → Nat → Int64) → Int32 → Int32 → Int32 → Option (Unit × (Nat → Nat → Nat) × (Nat → Nat → Int32) × (Nat → Nat → Nat → Int32) × (Nat → Nat → Nat → Int64))) : Nat → (Nat → Nat → Nat) → (Nat → Nat → Int32) → (Nat → Nat → Nat → Int32) → (Nat → Nat → Nat → Int64) → Int32 → Int32 → Int32 → Int32 → Option (Unit × (Nat → Nat → Nat) × (Nat → Nat → Int32) × (Nat → Nat → Nat → Int32) × (Nat → Nat → Nat → Int64))
  | 0, _, _, _, _, _, _, _, _ => none
  | n + 1, P, F, A, J, x1, x2, x3, x4 => cond (g_cnd .ge x4 36)
    (e_Evening_seekForTwo_101 K13 n P F A J x1 x2 x3)
    ((c_chk 6 (P 32 4)).bind fun q9 =>
    (e_House_mayBeLeft P F A J q9 x3).bind fun v10 =>
    cond (g_cnd .eq v10 0)
    (e_Evening_seekForTwo_101 K13 n P F A J x1 x2 x3)
    ((c_chk 6 (P 32 4)).bind fun q12 =>
    (e_House_mayBeLeft P F A J q12 x4).bind fun v13 =>
    cond (g_cnd .eq v13 0)
    (e_Evening_seekForTwo_95 K13 (e_Evening_seekForTwo_22 K13 n) n P F A J x1 x2 x3 x4)
    ((e_State_copy P F A J 33 2).bind fun (_, P16, F17, A18, J19) =>
    (c_st A18 33 3 6 x1 x3).bind fun A20 =>
    (c_st A20 33 3 6 x2 x4).bind fun A21 =>
    (e_Evening_gainOfTrial n P16 F17 A21 J19).bind fun (v22, P23, F24, A25, J26) =>
    (e_Evening_offer P23 F24 A25 J26 v22 x3 x4).bind fun (_, P28, F29, A30, J31) =>
    (e_Evening_seekForTwo_22 K13 n) P28 F29 A30 J31 x1 x2 x3 (x4 + 1))))
set_option maxRecDepth 10000 in
theorem t_e_Evening_seekForTwo_22 (ht : ∀ ci k, t.1 ci k = k_ty ci k) {n : Nat} {K13 : (Nat → Nat → Nat) → (Nat → Nat → Int32) → (Nat → Nat → Nat → Int32) → (Nat → Nat → Nat → Int64) → Int32 → Int32 → Int32 → Option (Unit × (Nat → Nat → Nat) × (Nat → Nat → Int32) × (Nat → Nat → Nat → Int32) × (Nat → Nat → Nat → Int64))} (hK13 : ∀ (P : Nat → Nat → Nat) (F : Nat → Nat → Int32) (A : Nat → Nat → Nat → Int32) (J : Nat → Nat → Nat → Int64) (x1 : Int32) (x2 : Int32) (x3 : Int32) (w : Unit × (Nat → Nat → Nat) × (Nat → Nat → Int32) × (Nat → Nat → Nat → Int32) × (Nat → Nat → Nat → Int64)), K13 P F A J x1 x2 x3 = some w → k_run t lg (d + 6) 11 13 [(0, .ref (32 * 1024)), (1, .int x1), (2, .int x2), (3, .int x3)] [] (c_h c B P F A J) (none, c_h c B w.2.1 w.2.2.1 w.2.2.2.1 w.2.2.2.2)) {P : Nat → Nat → Nat} {F : Nat → Nat → Int32} {A : Nat → Nat → Nat → Int32} {J : Nat → Nat → Nat → Int64} {x1 : Int32} {x2 : Int32} {x3 : Int32} {x4 : Int32}  {w : Unit × (Nat → Nat → Nat) × (Nat → Nat → Int32) × (Nat → Nat → Nat → Int32) × (Nat → Nat → Nat → Int64)} : e_Evening_seekForTwo_22 K13 n P F A J x1 x2 x3 x4 = some w → k_run t lg (d + 6) 11 22 [(0, .ref (32 * 1024)), (1, .int x1), (2, .int x2), (3, .int x3), (4, .int x4)] [] (c_h c B P F A J) (none, c_h c B w.2.1 w.2.2.1 w.2.2.2.1 w.2.2.2.2) := by
  induction n generalizing P F A J x1 x2 x3 x4 w with
  | zero => intro hD; cases hD
  | succ n ih =>
    intro hD
    have hK22 : ∀ (P : Nat → Nat → Nat) (F : Nat → Nat → Int32) (A : Nat → Nat → Nat → Int32) (J : Nat → Nat → Nat → Int64) (x1 : Int32) (x2 : Int32) (x3 : Int32) (x4 : Int32) (w : Unit × (Nat → Nat → Nat) × (Nat → Nat → Int32) × (Nat → Nat → Nat → Int32) × (Nat → Nat → Nat → Int64)), e_Evening_seekForTwo_22 K13 n P F A J x1 x2 x3 x4 = some w → k_run t lg (d + 6) 11 22 [(0, .ref (32 * 1024)), (1, .int x1), (2, .int x2), (3, .int x3), (4, .int x4)] [] (c_h c B P F A J) (none, c_h c B w.2.1 w.2.2.1 w.2.2.2.1 w.2.2.2.2) := fun _ _ _ _ _ _ _ _ _  h => ih  h
    unfold e_Evening_seekForTwo_22 at hD
    refine k_runB (pc' := 26) (loc' := [(0, .ref (32 * 1024)), (1, .int x1), (2, .int x2), (3, .int x3), (4, .int x4)]) (st' := [.int 36, .int x4]) 2 rfl ?_
    refine k_ic rfl (fun c26_7 => ?_) (fun c26_7 => ?_)
    · rw [c26_7, cond_true] at hD
      refine k_wk [0, 1, 2, 3] (loc' := [(0, .ref (32 * 1024)), (1, .int x1), (2, .int x2), (3, .int x3)]) rfl rfl ?_
      exact t_e_Evening_seekForTwo_101 ht hK13  hD
    · rw [c26_7, cond_false] at hD
      refine k_runB (pc' := 30) (loc' := [(0, .ref (32 * 1024)), (1, .int x1), (2, .int x2), (3, .int x3), (4, .int x4)]) (st' := [.ref (32 * 1024)]) 1 rfl ?_
      obtain ⟨q9, hq9, hD⟩ := Option.bind_eq_some_iff.mp hD
      refine k_gq 32 0 (K := 7) (K2 := 6) (key := 4) rfl rfl rfl rfl rfl hq9 (fun kq9 => ?_)
      refine k_runB (pc' := 34) (loc' := [(0, .ref (32 * 1024)), (1, .int x1), (2, .int x2), (3, .int x3), (4, .int x4)]) (st' := [.int x3, .ref (q9 * 1024)]) 1 rfl ?_
      obtain ⟨v10, hv10, hD⟩ := Option.bind_eq_some_iff.mp hD
      refine k_runV rfl rfl rfl (c_get (r := q9) (o := 0) (K := 6) kq9 (by decide)) rfl rfl (t_e_House_mayBeLeft (d := d + 5) kq9 hv10) ?_
      refine k_if rfl (fun c37_10 => ?_) (fun c37_10 => ?_)
      · rw [c37_10, cond_true] at hD
        refine k_wk [0, 1, 2, 3] (loc' := [(0, .ref (32 * 1024)), (1, .int x1), (2, .int x2), (3, .int x3)]) rfl rfl ?_
        exact t_e_Evening_seekForTwo_101 ht hK13  hD
      · rw [c37_10, cond_false] at hD
        refine k_runB (pc' := 41) (loc' := [(0, .ref (32 * 1024)), (1, .int x1), (2, .int x2), (3, .int x3), (4, .int x4)]) (st' := [.ref (32 * 1024)]) 1 rfl ?_
        obtain ⟨q12, hq12, hD⟩ := Option.bind_eq_some_iff.mp hD
        refine k_gq 32 0 (K := 7) (K2 := 6) (key := 4) rfl rfl rfl rfl rfl hq12 (fun kq12 => ?_)
        refine k_runB (pc' := 46) (loc' := [(0, .ref (32 * 1024)), (1, .int x1), (2, .int x2), (3, .int x3), (4, .int x4)]) (st' := [.int x4, .ref (q12 * 1024)]) 1 rfl ?_
        obtain ⟨v13, hv13, hD⟩ := Option.bind_eq_some_iff.mp hD
        refine k_runV rfl rfl rfl (c_get (r := q12) (o := 0) (K := 6) kq12 (by decide)) rfl rfl (t_e_House_mayBeLeft (d := d + 5) kq12 hv13) ?_
        refine k_if rfl (fun c49_13 => ?_) (fun c49_13 => ?_)
        · rw [c49_13, cond_true] at hD
          refine k_wk [0, 1, 2, 3, 4] (loc' := [(0, .ref (32 * 1024)), (1, .int x1), (2, .int x2), (3, .int x3), (4, .int x4)]) rfl rfl ?_
          exact t_e_Evening_seekForTwo_95 ht hK13 hK22  hD
        · rw [c49_13, cond_false] at hD
          refine k_runB (pc' := 53) (loc' := [(0, .ref (32 * 1024)), (1, .int x1), (2, .int x2), (3, .int x3), (4, .int x4)]) (st' := [.ref (32 * 1024)]) 1 rfl ?_
          refine k_gf 32 0 (K := 7) rfl rfl rfl rfl rfl ?_
          refine k_runB (pc' := 57) (loc' := [(0, .ref (32 * 1024)), (1, .int x1), (2, .int x2), (3, .int x3), (4, .int x4)]) (st' := [.ref (32 * 1024), .ref (33 * 1024)]) 1 rfl ?_
          refine k_gf 32 0 (K := 7) rfl rfl rfl rfl rfl ?_
          obtain ⟨⟨v15, P16, F17, A18, J19⟩, hv15, hD⟩ := Option.bind_eq_some_iff.mp hD
          dsimp only at hD
          refine k_runV rfl rfl rfl (c_get (r := 33) (o := 0) (K := 2) rfl (by decide)) rfl rfl (t_e_State_copy (d := d + 5) ht rfl rfl hv15) ?_
          refine k_runB (pc' := 64) (loc' := [(0, .ref (32 * 1024)), (1, .int x1), (2, .int x2), (3, .int x3), (4, .int x4)]) (st' := [.ref (32 * 1024)]) 1 rfl ?_
          refine k_gf 32 0 (K := 7) rfl rfl rfl rfl rfl ?_
          refine k_gf 33 0 (K := 2) rfl rfl rfl rfl rfl ?_
          refine k_runB (pc' := 72) (loc' := [(0, .ref (32 * 1024)), (1, .int x1), (2, .int x2), (3, .int x3), (4, .int x4)]) (st' := [.int x3, .int x1, .ref (33 * 1024 + 3)]) 2 rfl ?_
          obtain ⟨A20, hA20, hD⟩ := Option.bind_eq_some_iff.mp hD
          refine k_cstI 33 3 (K := 2) rfl rfl rfl rfl (fun _ => rfl) hA20 ?_
          refine k_runB (pc' := 74) (loc' := [(0, .ref (32 * 1024)), (1, .int x1), (2, .int x2), (3, .int x3), (4, .int x4)]) (st' := [.ref (32 * 1024)]) 1 rfl ?_
          refine k_gf 32 0 (K := 7) rfl rfl rfl rfl rfl ?_
          refine k_gf 33 0 (K := 2) rfl rfl rfl rfl rfl ?_
          refine k_runB (pc' := 83) (loc' := [(0, .ref (32 * 1024)), (1, .int x1), (2, .int x2), (3, .int x3), (4, .int x4)]) (st' := [.int x4, .int x2, .ref (33 * 1024 + 3)]) 2 rfl ?_
          obtain ⟨A21, hA21, hD⟩ := Option.bind_eq_some_iff.mp hD
          refine k_cstI 33 3 (K := 2) rfl rfl rfl rfl (fun _ => rfl) hA21 ?_
          refine k_runB (pc' := 86) (loc' := [(0, .ref (32 * 1024)), (1, .int x1), (2, .int x2), (3, .int x3), (4, .int x4)]) (st' := [.ref (32 * 1024), .ref (32 * 1024)]) 2 rfl ?_
          obtain ⟨⟨v22, P23, F24, A25, J26⟩, hv22, hD⟩ := Option.bind_eq_some_iff.mp hD
          dsimp only at hD
          refine k_runV rfl rfl rfl (c_get (r := 32) (o := 0) (K := 7) rfl (by decide)) rfl rfl (t_e_Evening_gainOfTrial (d := d) ht hv22) ?_
          refine k_runB (pc' := 92) (loc' := [(0, .ref (32 * 1024)), (1, .int x1), (2, .int x2), (3, .int x3), (4, .int x4)]) (st' := [.int x4, .int x3, .int v22, .ref (32 * 1024)]) 2 rfl ?_
          obtain ⟨⟨v27, P28, F29, A30, J31⟩, hv27, hD⟩ := Option.bind_eq_some_iff.mp hD
          dsimp only at hD
          refine k_runV rfl rfl rfl (c_get (r := 32) (o := 0) (K := 7) rfl (by decide)) rfl rfl (t_e_Evening_offer (d := d + 5) ht hv27) ?_
          refine k_runB (pc' := 22) (loc' := [(0, .ref (32 * 1024)), (1, .int x1), (2, .int x2), (3, .int x3), (4, .int (x4 + 1))]) (st' := []) 2 rfl ?_
          refine k_wk [0, 1, 2, 3, 4] (loc' := [(0, .ref (32 * 1024)), (1, .int x1), (2, .int x2), (3, .int x3), (4, .int (x4 + 1))]) rfl rfl ?_
          exact hK22 _ _ _ _ _ _ _ _ _  hD
def e_Evening_seekForTwo_13 : Nat → (Nat → Nat → Nat) → (Nat → Nat → Int32) → (Nat → Nat → Nat → Int32) → (Nat → Nat → Nat → Int64) → Int32 → Int32 → Int32 → Option (Unit × (Nat → Nat → Nat) × (Nat → Nat → Int32) × (Nat → Nat → Nat → Int32) × (Nat → Nat → Nat → Int64))
  | 0, _, _, _, _, _, _, _ => none
  | n + 1, P, F, A, J, x1, x2, x3 => cond (g_cnd .ge x3 36)
    (some ((), P, F, A, J))
    (e_Evening_seekForTwo_22 (e_Evening_seekForTwo_13 n) n P F A J x1 x2 x3 ((-1)))
set_option maxRecDepth 10000 in
theorem t_e_Evening_seekForTwo_13 (ht : ∀ ci k, t.1 ci k = k_ty ci k) {n : Nat}  {P : Nat → Nat → Nat} {F : Nat → Nat → Int32} {A : Nat → Nat → Nat → Int32} {J : Nat → Nat → Nat → Int64} {x1 : Int32} {x2 : Int32} {x3 : Int32}  {w : Unit × (Nat → Nat → Nat) × (Nat → Nat → Int32) × (Nat → Nat → Nat → Int32) × (Nat → Nat → Nat → Int64)} : e_Evening_seekForTwo_13 n P F A J x1 x2 x3 = some w → k_run t lg (d + 6) 11 13 [(0, .ref (32 * 1024)), (1, .int x1), (2, .int x2), (3, .int x3)] [] (c_h c B P F A J) (none, c_h c B w.2.1 w.2.2.1 w.2.2.2.1 w.2.2.2.2) := by
  induction n generalizing P F A J x1 x2 x3 w with
  | zero => intro hD; cases hD
  | succ n ih =>
    intro hD
    have hK13 : ∀ (P : Nat → Nat → Nat) (F : Nat → Nat → Int32) (A : Nat → Nat → Nat → Int32) (J : Nat → Nat → Nat → Int64) (x1 : Int32) (x2 : Int32) (x3 : Int32) (w : Unit × (Nat → Nat → Nat) × (Nat → Nat → Int32) × (Nat → Nat → Nat → Int32) × (Nat → Nat → Nat → Int64)), e_Evening_seekForTwo_13 n P F A J x1 x2 x3 = some w → k_run t lg (d + 6) 11 13 [(0, .ref (32 * 1024)), (1, .int x1), (2, .int x2), (3, .int x3)] [] (c_h c B P F A J) (none, c_h c B w.2.1 w.2.2.1 w.2.2.2.1 w.2.2.2.2) := fun _ _ _ _ _ _ _ _  h => ih  h
    unfold e_Evening_seekForTwo_13 at hD
    refine k_runB (pc' := 16) (loc' := [(0, .ref (32 * 1024)), (1, .int x1), (2, .int x2), (3, .int x3)]) (st' := [.int 36, .int x3]) 2 rfl ?_
    refine k_ic rfl (fun c16_6 => ?_) (fun c16_6 => ?_)
    · rw [c16_6, cond_true] at hD
      cases hD
      exact k_vret rfl rfl
    · rw [c16_6, cond_false] at hD
      refine k_runB (pc' := 22) (loc' := [(0, .ref (32 * 1024)), (1, .int x1), (2, .int x2), (3, .int x3), (4, .int ((-1)))]) (st' := []) 2 rfl ?_
      refine k_wk [0, 1, 2, 3, 4] (loc' := [(0, .ref (32 * 1024)), (1, .int x1), (2, .int x2), (3, .int x3), (4, .int ((-1)))]) rfl rfl ?_
      exact t_e_Evening_seekForTwo_22 ht hK13  hD
/-- SleepWork$Evening.seekForTwo(II)V  -/
def e_Evening_seekForTwo (n : Nat) (P : Nat → Nat → Nat) (F : Nat → Nat → Int32) (A : Nat → Nat → Nat → Int32) (J : Nat → Nat → Nat → Int64) (x1 : Int32) (x2 : Int32) : Option (Unit × (Nat → Nat → Nat) × (Nat → Nat → Int32) × (Nat → Nat → Nat → Int32) × (Nat → Nat → Nat → Int64)) :=
  (e_Evening_isAnswered n P F A J 1 x1 x2).bind fun (v1, P2, F3, A4, J5) =>
  cond (g_cnd .eq v1 0)
  (e_Evening_seekForTwo_13 n P2 F3 A4 J5 x1 x2 ((-1)))
  (some ((), P2, F3, A4, J5))
set_option maxRecDepth 10000 in
theorem t_e_Evening_seekForTwo (ht : ∀ ci k, t.1 ci k = k_ty ci k) {n : Nat} {P : Nat → Nat → Nat} {F : Nat → Nat → Int32} {A : Nat → Nat → Nat → Int32} {J : Nat → Nat → Nat → Int64} {x1 : Int32} {x2 : Int32}  {w : Unit × (Nat → Nat → Nat) × (Nat → Nat → Int32) × (Nat → Nat → Nat → Int32) × (Nat → Nat → Nat → Int64)} : e_Evening_seekForTwo n P F A J x1 x2 = some w → k_run t lg (d + 6) 11 0 [(0, .ref (32 * 1024)), (1, .int x1), (2, .int x2)] [] (c_h c B P F A J) (none, c_h c B w.2.1 w.2.2.1 w.2.2.2.1 w.2.2.2.2) := by
  intro hD
  unfold e_Evening_seekForTwo at hD
  refine k_runB (pc' := 4) (loc' := [(0, .ref (32 * 1024)), (1, .int x1), (2, .int x2)]) (st' := [.int x2, .int x1, .int 1, .ref (32 * 1024)]) 4 rfl ?_
  obtain ⟨⟨v1, P2, F3, A4, J5⟩, hv1, hD⟩ := Option.bind_eq_some_iff.mp hD
  dsimp only at hD
  refine k_runV rfl rfl rfl (c_get (r := 32) (o := 0) (K := 7) rfl (by decide)) rfl rfl (t_e_Evening_isAnswered (d := d + 3) ht hv1) ?_
  refine k_if rfl (fun c7_5 => ?_) (fun c7_5 => ?_)
  · rw [c7_5, cond_true] at hD
    refine k_runB (pc' := 13) (loc' := [(0, .ref (32 * 1024)), (1, .int x1), (2, .int x2), (3, .int ((-1)))]) (st' := []) 2 rfl ?_
    refine k_wk [0, 1, 2, 3] (loc' := [(0, .ref (32 * 1024)), (1, .int x1), (2, .int x2), (3, .int ((-1)))]) rfl rfl ?_
    exact t_e_Evening_seekForTwo_13 ht   hD
  · rw [c7_5, cond_false] at hD
    cases hD
    exact k_vret rfl rfl
def e_Evening_seekHidingPlace_59 (K13 : (Nat → Nat → Nat) → (Nat → Nat → Int32) → (Nat → Nat → Nat → Int32) → (Nat → Nat → Nat → Int64) → Int32 → Int32 → Option (Unit × (Nat → Nat → Nat) × (Nat → Nat → Int32) × (Nat → Nat → Nat → Int32) × (Nat → Nat → Nat → Int64))) (n : Nat) (P : Nat → Nat → Nat) (F : Nat → Nat → Int32) (A : Nat → Nat → Nat → Int32) (J : Nat → Nat → Nat → Int64) (x1 : Int32) (x2 : Int32) (s0 : Int32) : Option (Unit × (Nat → Nat → Nat) × (Nat → Nat → Int32) × (Nat → Nat → Nat → Int32) × (Nat → Nat → Nat → Int64)) :=
    (e_State_copy P F A J 33 2).bind fun (_, P14, F15, A16, J17) =>
    (c_st A16 33 4 6 x1 s0).bind fun A18 =>
    (e_Evening_gainOfTrial n P14 F15 A18 J17).bind fun (v19, P20, F21, A22, J23) =>
    (e_Evening_offer P20 F21 A22 J23 v19 s0 ((-1))).bind fun (_, P25, F26, A27, J28) =>
    K13 P25 F26 A27 J28 x1 (x2 + 1)
set_option maxRecDepth 10000 in
theorem t_e_Evening_seekHidingPlace_59 (ht : ∀ ci k, t.1 ci k = k_ty ci k) {n : Nat} {K13 : (Nat → Nat → Nat) → (Nat → Nat → Int32) → (Nat → Nat → Nat → Int32) → (Nat → Nat → Nat → Int64) → Int32 → Int32 → Option (Unit × (Nat → Nat → Nat) × (Nat → Nat → Int32) × (Nat → Nat → Nat → Int32) × (Nat → Nat → Nat → Int64))} (hK13 : ∀ (P : Nat → Nat → Nat) (F : Nat → Nat → Int32) (A : Nat → Nat → Nat → Int32) (J : Nat → Nat → Nat → Int64) (x1 : Int32) (x2 : Int32) (w : Unit × (Nat → Nat → Nat) × (Nat → Nat → Int32) × (Nat → Nat → Nat → Int32) × (Nat → Nat → Nat → Int64)), K13 P F A J x1 x2 = some w → k_run t lg (d + 6) 12 13 [(0, .ref (32 * 1024)), (1, .int x1), (2, .int x2)] [] (c_h c B P F A J) (none, c_h c B w.2.1 w.2.2.1 w.2.2.2.1 w.2.2.2.2)) {P : Nat → Nat → Nat} {F : Nat → Nat → Int32} {A : Nat → Nat → Nat → Int32} {J : Nat → Nat → Nat → Int64} {x1 : Int32} {x2 : Int32} {s0 : Int32}  {w : Unit × (Nat → Nat → Nat) × (Nat → Nat → Int32) × (Nat → Nat → Nat → Int32) × (Nat → Nat → Nat → Int64)} : e_Evening_seekHidingPlace_59 K13 n P F A J x1 x2 s0 = some w → k_run t lg (d + 6) 12 59 [(0, .ref (32 * 1024)), (1, .int x1), (2, .int x2)] [.int s0] (c_h c B P F A J) (none, c_h c B w.2.1 w.2.2.1 w.2.2.2.1 w.2.2.2.2) := by
  intro hD
  unfold e_Evening_seekHidingPlace_59 at hD
  refine k_runB (pc' := 61) (loc' := [(0, .ref (32 * 1024)), (1, .int x1), (2, .int x2), (3, .int s0)]) (st' := [.ref (32 * 1024)]) 2 rfl ?_
  refine k_gf 32 0 (K := 7) rfl rfl rfl rfl rfl ?_
  refine k_runB (pc' := 65) (loc' := [(0, .ref (32 * 1024)), (1, .int x1), (2, .int x2), (3, .int s0)]) (st' := [.ref (32 * 1024), .ref (33 * 1024)]) 1 rfl ?_
  refine k_gf 32 0 (K := 7) rfl rfl rfl rfl rfl ?_
  obtain ⟨⟨v13, P14, F15, A16, J17⟩, hv13, hD⟩ := Option.bind_eq_some_iff.mp hD
  dsimp only at hD
  refine k_runV rfl rfl rfl (c_get (r := 33) (o := 0) (K := 2) rfl (by decide)) rfl rfl (t_e_State_copy (d := d + 5) ht rfl rfl hv13) ?_
  refine k_runB (pc' := 72) (loc' := [(0, .ref (32 * 1024)), (1, .int x1), (2, .int x2), (3, .int s0)]) (st' := [.ref (32 * 1024)]) 1 rfl ?_
  refine k_gf 32 0 (K := 7) rfl rfl rfl rfl rfl ?_
  refine k_gf 33 0 (K := 2) rfl rfl rfl rfl rfl ?_
  refine k_runB (pc' := 80) (loc' := [(0, .ref (32 * 1024)), (1, .int x1), (2, .int x2), (3, .int s0)]) (st' := [.int s0, .int x1, .ref (33 * 1024 + 4)]) 2 rfl ?_
  obtain ⟨A18, hA18, hD⟩ := Option.bind_eq_some_iff.mp hD
  refine k_cstI 33 4 (K := 2) rfl rfl rfl rfl (fun _ => rfl) hA18 ?_
  refine k_runB (pc' := 83) (loc' := [(0, .ref (32 * 1024)), (1, .int x1), (2, .int x2), (3, .int s0)]) (st' := [.ref (32 * 1024), .ref (32 * 1024)]) 2 rfl ?_
  obtain ⟨⟨v19, P20, F21, A22, J23⟩, hv19, hD⟩ := Option.bind_eq_some_iff.mp hD
  dsimp only at hD
  refine k_runV rfl rfl rfl (c_get (r := 32) (o := 0) (K := 7) rfl (by decide)) rfl rfl (t_e_Evening_gainOfTrial (d := d) ht hv19) ?_
  refine k_runB (pc' := 88) (loc' := [(0, .ref (32 * 1024)), (1, .int x1), (2, .int x2), (3, .int s0)]) (st' := [.int ((-1)), .int s0, .int v19, .ref (32 * 1024)]) 2 rfl ?_
  obtain ⟨⟨v24, P25, F26, A27, J28⟩, hv24, hD⟩ := Option.bind_eq_some_iff.mp hD
  dsimp only at hD
  refine k_runV rfl rfl rfl (c_get (r := 32) (o := 0) (K := 7) rfl (by decide)) rfl rfl (t_e_Evening_offer (d := d + 5) ht hv24) ?_
  refine k_runB (pc' := 13) (loc' := [(0, .ref (32 * 1024)), (1, .int x1), (2, .int (x2 + 1)), (3, .int s0)]) (st' := []) 2 rfl ?_
  refine k_wk [0, 1, 2] (loc' := [(0, .ref (32 * 1024)), (1, .int x1), (2, .int (x2 + 1))]) rfl rfl ?_
  exact hK13 _ _ _ _ _ _ _  hD
def e_Evening_seekHidingPlace_13 : Nat → (Nat → Nat → Nat) → (Nat → Nat → Int32) → (Nat → Nat → Nat → Int32) → (Nat → Nat → Nat → Int64) → Int32 → Int32 → Option (Unit × (Nat → Nat → Nat) × (Nat → Nat → Int32) × (Nat → Nat → Nat → Int32) × (Nat → Nat → Nat → Int64))
  | 0, _, _, _, _, _, _ => none
  | n + 1, P, F, A, J, x1, x2 => (c_chk 6 (P 32 4)).bind fun q7 =>
    (c_chk 6 (P 32 4)).bind fun q8 =>
    cond (g_cnd .ge x2 ((F q7 13) + (F q8 17)))
    (some ((), P, F, A, J))
    ((c_chk 6 (P 32 4)).bind fun q10 =>
    cond (g_cnd .ge x2 (F q10 13))
    ((c_chk 6 (P 32 4)).bind fun q12 =>
    e_Evening_seekHidingPlace_59 (e_Evening_seekHidingPlace_13 n) n P F A J x1 x2 ((100 + x2) - (F q12 13)))
    (e_Evening_seekHidingPlace_59 (e_Evening_seekHidingPlace_13 n) n P F A J x1 x2 x2))
set_option maxRecDepth 10000 in
theorem t_e_Evening_seekHidingPlace_13 (ht : ∀ ci k, t.1 ci k = k_ty ci k) {n : Nat}  {P : Nat → Nat → Nat} {F : Nat → Nat → Int32} {A : Nat → Nat → Nat → Int32} {J : Nat → Nat → Nat → Int64} {x1 : Int32} {x2 : Int32}  {w : Unit × (Nat → Nat → Nat) × (Nat → Nat → Int32) × (Nat → Nat → Nat → Int32) × (Nat → Nat → Nat → Int64)} : e_Evening_seekHidingPlace_13 n P F A J x1 x2 = some w → k_run t lg (d + 6) 12 13 [(0, .ref (32 * 1024)), (1, .int x1), (2, .int x2)] [] (c_h c B P F A J) (none, c_h c B w.2.1 w.2.2.1 w.2.2.2.1 w.2.2.2.2) := by
  induction n generalizing P F A J x1 x2 w with
  | zero => intro hD; cases hD
  | succ n ih =>
    intro hD
    have hK13 : ∀ (P : Nat → Nat → Nat) (F : Nat → Nat → Int32) (A : Nat → Nat → Nat → Int32) (J : Nat → Nat → Nat → Int64) (x1 : Int32) (x2 : Int32) (w : Unit × (Nat → Nat → Nat) × (Nat → Nat → Int32) × (Nat → Nat → Nat → Int32) × (Nat → Nat → Nat → Int64)), e_Evening_seekHidingPlace_13 n P F A J x1 x2 = some w → k_run t lg (d + 6) 12 13 [(0, .ref (32 * 1024)), (1, .int x1), (2, .int x2)] [] (c_h c B P F A J) (none, c_h c B w.2.1 w.2.2.1 w.2.2.2.1 w.2.2.2.2) := fun _ _ _ _ _ _ _  h => ih  h
    unfold e_Evening_seekHidingPlace_13 at hD
    refine k_runB (pc' := 15) (loc' := [(0, .ref (32 * 1024)), (1, .int x1), (2, .int x2)]) (st' := [.ref (32 * 1024), .int x2]) 2 rfl ?_
    obtain ⟨q7, hq7, hD⟩ := Option.bind_eq_some_iff.mp hD
    refine k_gq 32 0 (K := 7) (K2 := 6) (key := 4) rfl rfl rfl rfl rfl hq7 (fun kq7 => ?_)
    refine k_gf q7 0 (K := 6) kq7 rfl rfl rfl rfl ?_
    refine k_runB (pc' := 22) (loc' := [(0, .ref (32 * 1024)), (1, .int x1), (2, .int x2)]) (st' := [.ref (32 * 1024), .int (F q7 13), .int x2]) 1 rfl ?_
    obtain ⟨q8, hq8, hD⟩ := Option.bind_eq_some_iff.mp hD
    refine k_gq 32 0 (K := 7) (K2 := 6) (key := 4) rfl rfl rfl rfl rfl hq8 (fun kq8 => ?_)
    refine k_gf q8 0 (K := 6) kq8 rfl rfl rfl rfl ?_
    refine k_runB (pc' := 29) (loc' := [(0, .ref (32 * 1024)), (1, .int x1), (2, .int x2)]) (st' := [.int ((F q7 13) + (F q8 17)), .int x2]) 1 rfl ?_
    refine k_ic rfl (fun c29_8 => ?_) (fun c29_8 => ?_)
    · rw [c29_8, cond_true] at hD
      cases hD
      exact k_vret rfl rfl
    · rw [c29_8, cond_false] at hD
      refine k_runB (pc' := 34) (loc' := [(0, .ref (32 * 1024)), (1, .int x1), (2, .int x2)]) (st' := [.ref (32 * 1024), .int x2]) 2 rfl ?_
      obtain ⟨q10, hq10, hD⟩ := Option.bind_eq_some_iff.mp hD
      refine k_gq 32 0 (K := 7) (K2 := 6) (key := 4) rfl rfl rfl rfl rfl hq10 (fun kq10 => ?_)
      refine k_gf q10 0 (K := 6) kq10 rfl rfl rfl rfl ?_
      refine k_ic rfl (fun c40_10 => ?_) (fun c40_10 => ?_)
      · rw [c40_10, cond_true] at hD
        refine k_runB (pc' := 52) (loc' := [(0, .ref (32 * 1024)), (1, .int x1), (2, .int x2)]) (st' := [.ref (32 * 1024), .int (100 + x2)]) 4 rfl ?_
        obtain ⟨q12, hq12, hD⟩ := Option.bind_eq_some_iff.mp hD
        refine k_gq 32 0 (K := 7) (K2 := 6) (key := 4) rfl rfl rfl rfl rfl hq12 (fun kq12 => ?_)
        refine k_gf q12 0 (K := 6) kq12 rfl rfl rfl rfl ?_
        refine k_runB (pc' := 59) (loc' := [(0, .ref (32 * 1024)), (1, .int x1), (2, .int x2)]) (st' := [.int ((100 + x2) - (F q12 13))]) 1 rfl ?_
        refine k_wk [0, 1, 2] (loc' := [(0, .ref (32 * 1024)), (1, .int x1), (2, .int x2)]) rfl rfl ?_
        exact t_e_Evening_seekHidingPlace_59 ht hK13  hD
      · rw [c40_10, cond_false] at hD
        refine k_runB (pc' := 59) (loc' := [(0, .ref (32 * 1024)), (1, .int x1), (2, .int x2)]) (st' := [.int x2]) 2 rfl ?_
        refine k_wk [0, 1, 2] (loc' := [(0, .ref (32 * 1024)), (1, .int x1), (2, .int x2)]) rfl rfl ?_
        exact t_e_Evening_seekHidingPlace_59 ht hK13  hD
/-- SleepWork$Evening.seekHidingPlace(I)V  -/
def e_Evening_seekHidingPlace (n : Nat) (P : Nat → Nat → Nat) (F : Nat → Nat → Int32) (A : Nat → Nat → Nat → Int32) (J : Nat → Nat → Nat → Int64) (x1 : Int32) : Option (Unit × (Nat → Nat → Nat) × (Nat → Nat → Int32) × (Nat → Nat → Nat → Int32) × (Nat → Nat → Nat → Int64)) :=
  (e_Evening_isAnswered n P F A J 2 x1 ((-1))).bind fun (v1, P2, F3, A4, J5) =>
  cond (g_cnd .eq v1 0)
  (e_Evening_seekHidingPlace_13 n P2 F3 A4 J5 x1 0)
  (some ((), P2, F3, A4, J5))
set_option maxRecDepth 10000 in
theorem t_e_Evening_seekHidingPlace (ht : ∀ ci k, t.1 ci k = k_ty ci k) {n : Nat} {P : Nat → Nat → Nat} {F : Nat → Nat → Int32} {A : Nat → Nat → Nat → Int32} {J : Nat → Nat → Nat → Int64} {x1 : Int32}  {w : Unit × (Nat → Nat → Nat) × (Nat → Nat → Int32) × (Nat → Nat → Nat → Int32) × (Nat → Nat → Nat → Int64)} : e_Evening_seekHidingPlace n P F A J x1 = some w → k_run t lg (d + 6) 12 0 [(0, .ref (32 * 1024)), (1, .int x1)] [] (c_h c B P F A J) (none, c_h c B w.2.1 w.2.2.1 w.2.2.2.1 w.2.2.2.2) := by
  intro hD
  unfold e_Evening_seekHidingPlace at hD
  refine k_runB (pc' := 4) (loc' := [(0, .ref (32 * 1024)), (1, .int x1)]) (st' := [.int ((-1)), .int x1, .int 2, .ref (32 * 1024)]) 4 rfl ?_
  obtain ⟨⟨v1, P2, F3, A4, J5⟩, hv1, hD⟩ := Option.bind_eq_some_iff.mp hD
  dsimp only at hD
  refine k_runV rfl rfl rfl (c_get (r := 32) (o := 0) (K := 7) rfl (by decide)) rfl rfl (t_e_Evening_isAnswered (d := d + 3) ht hv1) ?_
  refine k_if rfl (fun c7_5 => ?_) (fun c7_5 => ?_)
  · rw [c7_5, cond_true] at hD
    refine k_runB (pc' := 13) (loc' := [(0, .ref (32 * 1024)), (1, .int x1), (2, .int 0)]) (st' := []) 2 rfl ?_
    refine k_wk [0, 1, 2] (loc' := [(0, .ref (32 * 1024)), (1, .int x1), (2, .int 0)]) rfl rfl ?_
    exact t_e_Evening_seekHidingPlace_13 ht   hD
  · rw [c7_5, cond_false] at hD
    cases hD
    exact k_vret rfl rfl
def e_Evening_arrivals_110 (K5 : (Nat → Nat → Nat) → (Nat → Nat → Int32) → (Nat → Nat → Nat → Int32) → (Nat → Nat → Nat → Int64) → Int32 → Int64 → Int32 → Option (Int64 × (Nat → Nat → Nat) × (Nat → Nat → Int32) × (Nat → Nat → Nat → Int32) × (Nat → Nat → Nat → Int64))) (n : Nat) (P : Nat → Nat → Nat) (F : Nat → Nat → Int32) (A : Nat → Nat → Nat → Int32) (J : Nat → Nat → Nat → Int64) (x1 : Int32) (x4 : Int32) (s0 : Int64) (s1 : Int32) : Option (Int64 × (Nat → Nat → Nat) × (Nat → Nat → Int32) × (Nat → Nat → Nat → Int32) × (Nat → Nat → Nat → Int64)) :=
    K5 P F A J x1 (s0 ||| s1.toInt64) (x4 + 1)
set_option maxRecDepth 10000 in
theorem t_e_Evening_arrivals_110 (ht : ∀ ci k, t.1 ci k = k_ty ci k) {n : Nat} {K5 : (Nat → Nat → Nat) → (Nat → Nat → Int32) → (Nat → Nat → Nat → Int32) → (Nat → Nat → Nat → Int64) → Int32 → Int64 → Int32 → Option (Int64 × (Nat → Nat → Nat) × (Nat → Nat → Int32) × (Nat → Nat → Nat → Int32) × (Nat → Nat → Nat → Int64))} (hK5 : ∀ (P : Nat → Nat → Nat) (F : Nat → Nat → Int32) (A : Nat → Nat → Nat → Int32) (J : Nat → Nat → Nat → Int64) (x1 : Int32) (x2 : Int64) (x4 : Int32) (w : Int64 × (Nat → Nat → Nat) × (Nat → Nat → Int32) × (Nat → Nat → Nat → Int32) × (Nat → Nat → Nat → Int64)), K5 P F A J x1 x2 x4 = some w → k_run t lg (d + 3) 14 5 [(0, .ref (32 * 1024)), (1, .int x1), (2, .long (x2)), (4, .int x4)] [] (c_h c B P F A J) (some (.long w.1), c_h c B w.2.1 w.2.2.1 w.2.2.2.1 w.2.2.2.2)) {P : Nat → Nat → Nat} {F : Nat → Nat → Int32} {A : Nat → Nat → Nat → Int32} {J : Nat → Nat → Nat → Int64} {x1 : Int32} {x4 : Int32} {s0 : Int64} {s1 : Int32}  {w : Int64 × (Nat → Nat → Nat) × (Nat → Nat → Int32) × (Nat → Nat → Nat → Int32) × (Nat → Nat → Nat → Int64)} : e_Evening_arrivals_110 K5 n P F A J x1 x4 s0 s1 = some w → k_run t lg (d + 3) 14 110 [(0, .ref (32 * 1024)), (1, .int x1), (4, .int x4)] [.int s1, .long (s0)] (c_h c B P F A J) (some (.long w.1), c_h c B w.2.1 w.2.2.1 w.2.2.2.1 w.2.2.2.2) := by
  intro hD
  unfold e_Evening_arrivals_110 at hD
  refine k_runB (pc' := 5) (loc' := [(0, .ref (32 * 1024)), (1, .int x1), (2, .long (s0 ||| s1.toInt64)), (4, .int (x4 + 1))]) (st' := []) 5 rfl ?_
  refine k_wk [0, 1, 2, 4] (loc' := [(0, .ref (32 * 1024)), (1, .int x1), (2, .long (s0 ||| s1.toInt64)), (4, .int (x4 + 1))]) rfl rfl ?_
  exact hK5 _ _ _ _ _ _ _ _  hD
def e_Evening_arrivals_82 (K5 : (Nat → Nat → Nat) → (Nat → Nat → Int32) → (Nat → Nat → Nat → Int32) → (Nat → Nat → Nat → Int64) → Int32 → Int64 → Int32 → Option (Int64 × (Nat → Nat → Nat) × (Nat → Nat → Int32) × (Nat → Nat → Nat → Int32) × (Nat → Nat → Nat → Int64))) (n : Nat) (P : Nat → Nat → Nat) (F : Nat → Nat → Int32) (A : Nat → Nat → Nat → Int32) (J : Nat → Nat → Nat → Int64) (x1 : Int32) (x2 : Int64) (x4 : Int32) (x6 : Int32) : Option (Int64 × (Nat → Nat → Nat) × (Nat → Nat → Int32) × (Nat → Nat → Nat → Int32) × (Nat → Nat → Nat → Int64)) :=
    (c_chk 6 (P 32 4)).bind fun q16 =>
    cond (g_cnd .lt x6 (F q16 18))
    (e_Evening_arrivals_110 K5 n P F A J x1 x4 (x2 <<< ((9 : Int32).toInt64 &&& 63)) (x6 &&& 511))
    (e_Evening_arrivals_110 K5 n P F A J x1 x4 (x2 <<< ((9 : Int32).toInt64 &&& 63)) 511)
set_option maxRecDepth 10000 in
theorem t_e_Evening_arrivals_82 (ht : ∀ ci k, t.1 ci k = k_ty ci k) {n : Nat} {K5 : (Nat → Nat → Nat) → (Nat → Nat → Int32) → (Nat → Nat → Nat → Int32) → (Nat → Nat → Nat → Int64) → Int32 → Int64 → Int32 → Option (Int64 × (Nat → Nat → Nat) × (Nat → Nat → Int32) × (Nat → Nat → Nat → Int32) × (Nat → Nat → Nat → Int64))} (hK5 : ∀ (P : Nat → Nat → Nat) (F : Nat → Nat → Int32) (A : Nat → Nat → Nat → Int32) (J : Nat → Nat → Nat → Int64) (x1 : Int32) (x2 : Int64) (x4 : Int32) (w : Int64 × (Nat → Nat → Nat) × (Nat → Nat → Int32) × (Nat → Nat → Nat → Int32) × (Nat → Nat → Nat → Int64)), K5 P F A J x1 x2 x4 = some w → k_run t lg (d + 3) 14 5 [(0, .ref (32 * 1024)), (1, .int x1), (2, .long (x2)), (4, .int x4)] [] (c_h c B P F A J) (some (.long w.1), c_h c B w.2.1 w.2.2.1 w.2.2.2.1 w.2.2.2.2)) {P : Nat → Nat → Nat} {F : Nat → Nat → Int32} {A : Nat → Nat → Nat → Int32} {J : Nat → Nat → Nat → Int64} {x1 : Int32} {x2 : Int64} {x4 : Int32} {x6 : Int32}  {w : Int64 × (Nat → Nat → Nat) × (Nat → Nat → Int32) × (Nat → Nat → Nat → Int32) × (Nat → Nat → Nat → Int64)} : e_Evening_arrivals_82 K5 n P F A J x1 x2 x4 x6 = some w → k_run t lg (d + 3) 14 82 [(0, .ref (32 * 1024)), (1, .int x1), (2, .long (x2)), (4, .int x4), (6, .int x6)] [] (c_h c B P F A J) (some (.long w.1), c_h c B w.2.1 w.2.2.1 w.2.2.2.1 w.2.2.2.2) := by
  intro hD
  unfold e_Evening_arrivals_82 at hD
  refine k_runB (pc' := 89) (loc' := [(0, .ref (32 * 1024)), (1, .int x1), (2, .long (x2)), (4, .int x4), (6, .int x6)]) (st' := [.ref (32 * 1024), .int x6, .long (x2 <<< ((9 : Int32).toInt64 &&& 63))]) 5 rfl ?_
  obtain ⟨q16, hq16, hD⟩ := Option.bind_eq_some_iff.mp hD
  refine k_gq 32 0 (K := 7) (K2 := 6) (key := 4) rfl rfl rfl rfl rfl hq16 (fun kq16 => ?_)
  refine k_gf q16 0 (K := 6) kq16 rfl rfl rfl rfl ?_
  refine k_ic rfl (fun c95_16 => ?_) (fun c95_16 => ?_)
  · rw [c95_16, cond_true] at hD
    refine k_runB (pc' := 110) (loc' := [(0, .ref (32 * 1024)), (1, .int x1), (2, .long (x2)), (4, .int x4), (6, .int x6)]) (st' := [.int (x6 &&& 511), .long (x2 <<< ((9 : Int32).toInt64 &&& 63))]) 3 rfl ?_
    refine k_wk [0, 1, 4] (loc' := [(0, .ref (32 * 1024)), (1, .int x1), (4, .int x4)]) rfl rfl ?_
    exact t_e_Evening_arrivals_110 ht hK5  hD
  · rw [c95_16, cond_false] at hD
    refine k_runB (pc' := 110) (loc' := [(0, .ref (32 * 1024)), (1, .int x1), (2, .long (x2)), (4, .int x4), (6, .int x6)]) (st' := [.int 511, .long (x2 <<< ((9 : Int32).toInt64 &&& 63))]) 2 rfl ?_
    refine k_wk [0, 1, 4] (loc' := [(0, .ref (32 * 1024)), (1, .int x1), (4, .int x4)]) rfl rfl ?_
    exact t_e_Evening_arrivals_110 ht hK5  hD
def e_Evening_arrivals_5 : Nat → (Nat → Nat → Nat) → (Nat → Nat → Int32) → (Nat → Nat → Nat → Int32) → (Nat → Nat → Nat → Int64) → Int32 → Int64 → Int32 → Option (Int64 × (Nat → Nat → Nat) × (Nat → Nat → Int32) × (Nat → Nat → Nat → Int32) × (Nat → Nat → Nat → Int64))
  | 0, _, _, _, _, _, _, _ => none
  | n + 1, P, F, A, J, x1, x2, x4 => (c_chk 6 (P 32 4)).bind fun q1 =>
    cond (g_cnd .ge x4 (F q1 17))
    (some (x2, P, F, A, J))
    ((m_ld (A 2 3) 6 x4).bind fun v3 =>
    cond (g_cnd .lt v3 0)
    (e_Evening_arrivals_82 (e_Evening_arrivals_5 n) n P F A J x1 x2 x4 1000000)
    ((c_chk 6 (P 32 4)).bind fun q5 =>
    (m_div v3 6).bind fun v6 =>
    (m_ld (A q5 4) 6 v6).bind fun v7 =>
    (c_chk 6 (P 32 4)).bind fun q8 =>
    (c_chk 6 (P 32 4)).bind fun q9 =>
    (m_ld (A q9 12) 6 x4).bind fun v10 =>
    (e_Ways_between n P F A J q8 x1 v10 v7).bind fun (v11, P12, F13, A14, J15) =>
    e_Evening_arrivals_82 (e_Evening_arrivals_5 n) n P12 F13 A14 J15 x1 x2 x4 v11))
set_option maxRecDepth 10000 in
theorem t_e_Evening_arrivals_5 (ht : ∀ ci k, t.1 ci k = k_ty ci k) {n : Nat}  {P : Nat → Nat → Nat} {F : Nat → Nat → Int32} {A : Nat → Nat → Nat → Int32} {J : Nat → Nat → Nat → Int64} {x1 : Int32} {x2 : Int64} {x4 : Int32}  {w : Int64 × (Nat → Nat → Nat) × (Nat → Nat → Int32) × (Nat → Nat → Nat → Int32) × (Nat → Nat → Nat → Int64)} : e_Evening_arrivals_5 n P F A J x1 x2 x4 = some w → k_run t lg (d + 3) 14 5 [(0, .ref (32 * 1024)), (1, .int x1), (2, .long (x2)), (4, .int x4)] [] (c_h c B P F A J) (some (.long w.1), c_h c B w.2.1 w.2.2.1 w.2.2.2.1 w.2.2.2.2) := by
  induction n generalizing P F A J x1 x2 x4 w with
  | zero => intro hD; cases hD
  | succ n ih =>
    intro hD
    have hK5 : ∀ (P : Nat → Nat → Nat) (F : Nat → Nat → Int32) (A : Nat → Nat → Nat → Int32) (J : Nat → Nat → Nat → Int64) (x1 : Int32) (x2 : Int64) (x4 : Int32) (w : Int64 × (Nat → Nat → Nat) × (Nat → Nat → Int32) × (Nat → Nat → Nat → Int32) × (Nat → Nat → Nat → Int64)), e_Evening_arrivals_5 n P F A J x1 x2 x4 = some w → k_run t lg (d + 3) 14 5 [(0, .ref (32 * 1024)), (1, .int x1), (2, .long (x2)), (4, .int x4)] [] (c_h c B P F A J) (some (.long w.1), c_h c B w.2.1 w.2.2.1 w.2.2.2.1 w.2.2.2.2) := fun _ _ _ _ _ _ _ _  h => ih  h
    unfold e_Evening_arrivals_5 at hD
    refine k_runB (pc' := 8) (loc' := [(0, .ref (32 * 1024)), (1, .int x1), (2, .long (x2)), (4, .int x4)]) (st' := [.ref (32 * 1024), .int x4]) 2 rfl ?_
    obtain ⟨q1, hq1, hD⟩ := Option.bind_eq_some_iff.mp hD
    refine k_gq 32 0 (K := 7) (K2 := 6) (key := 4) rfl rfl rfl rfl rfl hq1 (fun kq1 => ?_)
    refine k_gf q1 0 (K := 6) kq1 rfl rfl rfl rfl ?_
    refine k_ic rfl (fun c14_1 => ?_) (fun c14_1 => ?_)
    · rw [c14_1, cond_true] at hD
      refine k_runB (pc' := 120) (loc' := [(0, .ref (32 * 1024)), (1, .int x1), (2, .long (x2)), (4, .int x4)]) (st' := [.long (x2)]) 1 rfl ?_
      cases hD
      exact k_lret rfl rfl
    · rw [c14_1, cond_false] at hD
      refine k_runB (pc' := 18) (loc' := [(0, .ref (32 * 1024)), (1, .int x1), (2, .long (x2)), (4, .int x4)]) (st' := [.ref (32 * 1024)]) 1 rfl ?_
      refine k_gf 32 0 (K := 7) rfl rfl rfl rfl rfl ?_
      refine k_gf 2 0 (K := 2) rfl rfl rfl rfl rfl ?_
      refine k_runB (pc' := 26) (loc' := [(0, .ref (32 * 1024)), (1, .int x1), (2, .long (x2)), (4, .int x4)]) (st' := [.int x4, .ref (2 * 1024 + 3)]) 1 rfl ?_
      obtain ⟨v3, hv3, hD⟩ := Option.bind_eq_some_iff.mp hD
      refine k_ldI rfl (c_get (r := 2) (o := 3) (K := 2) rfl (by decide)) hv3 ?_
      refine k_runB (pc' := 35) (loc' := [(0, .ref (32 * 1024)), (1, .int x1), (2, .long (x2)), (4, .int x4), (5, .int v3), (6, .int 1000000)]) (st' := [.int v3]) 4 rfl ?_
      refine k_if rfl (fun c35_3 => ?_) (fun c35_3 => ?_)
      · rw [c35_3, cond_true] at hD
        refine k_wk [0, 1, 2, 4, 6] (loc' := [(0, .ref (32 * 1024)), (1, .int x1), (2, .long (x2)), (4, .int x4), (6, .int 1000000)]) rfl rfl ?_
        exact t_e_Evening_arrivals_82 ht hK5  hD
      · rw [c35_3, cond_false] at hD
        refine k_runB (pc' := 39) (loc' := [(0, .ref (32 * 1024)), (1, .int x1), (2, .long (x2)), (4, .int x4), (5, .int v3), (6, .int 1000000)]) (st' := [.ref (32 * 1024)]) 1 rfl ?_
        obtain ⟨q5, hq5, hD⟩ := Option.bind_eq_some_iff.mp hD
        refine k_gq 32 0 (K := 7) (K2 := 6) (key := 4) rfl rfl rfl rfl rfl hq5 (fun kq5 => ?_)
        refine k_gf q5 0 (K := 6) kq5 rfl rfl rfl rfl ?_
        refine k_runB (pc' := 49) (loc' := [(0, .ref (32 * 1024)), (1, .int x1), (2, .long (x2)), (4, .int x4), (5, .int v3), (6, .int 1000000)]) (st' := [.int 6, .int v3, .ref (q5 * 1024 + 4)]) 2 rfl ?_
        obtain ⟨v6, hv6, hD⟩ := Option.bind_eq_some_iff.mp hD
        refine k_dvI rfl hv6 ?_
        obtain ⟨v7, hv7, hD⟩ := Option.bind_eq_some_iff.mp hD
        refine k_ldI rfl (c_get (r := q5) (o := 4) (K := 6) kq5 (by decide)) hv7 ?_
        refine k_runB (pc' := 54) (loc' := [(0, .ref (32 * 1024)), (1, .int x1), (2, .long (x2)), (4, .int x4), (5, .int v3), (6, .int 1000000), (7, .int v7)]) (st' := [.ref (32 * 1024)]) 2 rfl ?_
        refine k_gf 32 0 (K := 7) rfl rfl rfl rfl rfl ?_
        refine k_gf 36 0 (K := 10) rfl rfl rfl rfl rfl ?_
        refine k_runB (pc' := 61) (loc' := [(0, .ref (32 * 1024)), (1, .int x1), (2, .long (x2)), (4, .int x4), (5, .int v3), (6, .int 1000000), (7, .int v7)]) (st' := [.ref (32 * 1024), .ref (36 * 1024 + 1)]) 1 rfl ?_
        obtain ⟨q8, hq8, hD⟩ := Option.bind_eq_some_iff.mp hD
        refine k_gq 32 0 (K := 7) (K2 := 6) (key := 4) rfl rfl rfl rfl rfl hq8 (fun kq8 => ?_)
        refine k_runB (pc' := 66) (loc' := [(0, .ref (32 * 1024)), (1, .int x1), (2, .long (x2)), (4, .int x4), (5, .int v3), (6, .int 1000000), (7, .int v7)]) (st' := [.ref (32 * 1024), .int x1, .ref (q8 * 1024), .ref (36 * 1024 + 1)]) 2 rfl ?_
        obtain ⟨q9, hq9, hD⟩ := Option.bind_eq_some_iff.mp hD
        refine k_gq 32 0 (K := 7) (K2 := 6) (key := 4) rfl rfl rfl rfl rfl hq9 (fun kq9 => ?_)
        refine k_gf q9 0 (K := 6) kq9 rfl rfl rfl rfl ?_
        refine k_runB (pc' := 74) (loc' := [(0, .ref (32 * 1024)), (1, .int x1), (2, .long (x2)), (4, .int x4), (5, .int v3), (6, .int 1000000), (7, .int v7)]) (st' := [.int x4, .ref (q9 * 1024 + 12), .int x1, .ref (q8 * 1024), .ref (36 * 1024 + 1)]) 1 rfl ?_
        obtain ⟨v10, hv10, hD⟩ := Option.bind_eq_some_iff.mp hD
        refine k_ldI rfl (c_get (r := q9) (o := 12) (K := 6) kq9 (by decide)) hv10 ?_
        refine k_runB (pc' := 77) (loc' := [(0, .ref (32 * 1024)), (1, .int x1), (2, .long (x2)), (4, .int x4), (5, .int v3), (6, .int 1000000), (7, .int v7)]) (st' := [.int v7, .int v10, .int x1, .ref (q8 * 1024), .ref (36 * 1024 + 1)]) 1 rfl ?_
        obtain ⟨⟨v11, P12, F13, A14, J15⟩, hv11, hD⟩ := Option.bind_eq_some_iff.mp hD
        dsimp only at hD
        refine k_runV rfl rfl rfl (c_get (r := 36) (o := 1) (K := 10) rfl (by decide)) rfl rfl (t_e_Ways_between (d := d) ht kq8 hv11) ?_
        refine k_runB (pc' := 82) (loc' := [(0, .ref (32 * 1024)), (1, .int x1), (2, .long (x2)), (4, .int x4), (5, .int v3), (6, .int v11), (7, .int v7)]) (st' := []) 1 rfl ?_
        refine k_wk [0, 1, 2, 4, 6] (loc' := [(0, .ref (32 * 1024)), (1, .int x1), (2, .long (x2)), (4, .int x4), (6, .int v11)]) rfl rfl ?_
        exact t_e_Evening_arrivals_82 ht hK5  hD
/-- SleepWork$Evening.arrivals(I)J  -/
def e_Evening_arrivals (n : Nat) (P : Nat → Nat → Nat) (F : Nat → Nat → Int32) (A : Nat → Nat → Nat → Int32) (J : Nat → Nat → Nat → Int64) (x1 : Int32) : Option (Int64 × (Nat → Nat → Nat) × (Nat → Nat → Int32) × (Nat → Nat → Nat → Int32) × (Nat → Nat → Nat → Int64)) :=
  e_Evening_arrivals_5 n P F A J x1 0 0
set_option maxRecDepth 10000 in
theorem t_e_Evening_arrivals (ht : ∀ ci k, t.1 ci k = k_ty ci k) {n : Nat} {P : Nat → Nat → Nat} {F : Nat → Nat → Int32} {A : Nat → Nat → Nat → Int32} {J : Nat → Nat → Nat → Int64} {x1 : Int32}  {w : Int64 × (Nat → Nat → Nat) × (Nat → Nat → Int32) × (Nat → Nat → Nat → Int32) × (Nat → Nat → Nat → Int64)} : e_Evening_arrivals n P F A J x1 = some w → k_run t lg (d + 3) 14 0 [(0, .ref (32 * 1024)), (1, .int x1)] [] (c_h c B P F A J) (some (.long w.1), c_h c B w.2.1 w.2.2.1 w.2.2.2.1 w.2.2.2.2) := by
  intro hD
  unfold e_Evening_arrivals at hD
  refine k_runB (pc' := 5) (loc' := [(0, .ref (32 * 1024)), (1, .int x1), (2, .long (0)), (4, .int 0)]) (st' := []) 4 rfl ?_
  refine k_wk [0, 1, 2, 4] (loc' := [(0, .ref (32 * 1024)), (1, .int x1), (2, .long (0)), (4, .int 0)]) rfl rfl ?_
  exact t_e_Evening_arrivals_5 ht   hD
def e_Told_isSoIn_2 : Nat → (Nat → Nat → Nat) → (Nat → Nat → Int32) → (Nat → Nat → Nat → Int32) → (Nat → Nat → Nat → Int64) → Nat → Int32 → Int32 → Option (Int32)
  | 0, _, _, _, _, _, _, _ => none
  | n + 1, P, F, A, J, r1, x2, x3 => cond (g_cnd .ge x3 x2)
    (some (1))
    (cond (g_cnd .ge x3 (F 25 2))
    (some (1))
    ((m_ld (A 25 1) 30 x3).bind fun v3 =>
    (m_ld (A r1 1) 36 v3).bind fun v4 =>
    (m_ld (A 25 2) 30 x3).bind fun v5 =>
    cond (g_cnd .eq v4 v5)
    ((e_Told_isSoIn_2 n) P F A J r1 x2 (x3 + 1))
    (some (0))))
set_option maxRecDepth 10000 in
theorem t_e_Told_isSoIn_2 {n : Nat}  {P : Nat → Nat → Nat} {F : Nat → Nat → Int32} {A : Nat → Nat → Nat → Int32} {J : Nat → Nat → Nat → Int64} {r1 : Nat} {x2 : Int32} {x3 : Int32} (hr1 : c_kind r1 = 2) {w : Int32} : e_Told_isSoIn_2 n P F A J r1 x2 x3 = some w → k_run t lg (d) 92 2 [(0, .ref (25 * 1024)), (1, .ref (r1 * 1024)), (2, .int x2), (3, .int x3)] [] (c_h c B P F A J) (some (.int w), c_h c B P F A J) := by
  induction n generalizing P F A J r1 x2 x3 w with
  | zero => intro hD; cases hD
  | succ n ih =>
    intro hD
    have hK2 : ∀ (P : Nat → Nat → Nat) (F : Nat → Nat → Int32) (A : Nat → Nat → Nat → Int32) (J : Nat → Nat → Nat → Int64) (r1 : Nat) (x2 : Int32) (x3 : Int32) (w : Int32), c_kind r1 = 2 → e_Told_isSoIn_2 n P F A J r1 x2 x3 = some w → k_run t lg (d) 92 2 [(0, .ref (25 * 1024)), (1, .ref (r1 * 1024)), (2, .int x2), (3, .int x3)] [] (c_h c B P F A J) (some (.int w), c_h c B P F A J) := fun _ _ _ _ _ _ _ _ kr1 h => ih kr1 h
    unfold e_Told_isSoIn_2 at hD
    refine k_runB (pc' := 4) (loc' := [(0, .ref (25 * 1024)), (1, .ref (r1 * 1024)), (2, .int x2), (3, .int x3)]) (st' := [.int x2, .int x3]) 2 rfl ?_
    refine k_ic rfl (fun c4_0 => ?_) (fun c4_0 => ?_)
    · rw [c4_0, cond_true] at hD
      refine k_runB (pc' := 44) (loc' := [(0, .ref (25 * 1024)), (1, .ref (r1 * 1024)), (2, .int x2), (3, .int x3)]) (st' := [.int 1]) 1 rfl ?_
      cases hD
      exact k_zret rfl rfl (Or.inr rfl)
    · rw [c4_0, cond_false] at hD
      refine k_runB (pc' := 9) (loc' := [(0, .ref (25 * 1024)), (1, .ref (r1 * 1024)), (2, .int x2), (3, .int x3)]) (st' := [.ref (25 * 1024), .int x3]) 2 rfl ?_
      refine k_gf 25 0 (K := 4) rfl rfl rfl rfl rfl ?_
      refine k_ic rfl (fun c12_1 => ?_) (fun c12_1 => ?_)
      · rw [c12_1, cond_true] at hD
        refine k_runB (pc' := 44) (loc' := [(0, .ref (25 * 1024)), (1, .ref (r1 * 1024)), (2, .int x2), (3, .int x3)]) (st' := [.int 1]) 1 rfl ?_
        cases hD
        exact k_zret rfl rfl (Or.inr rfl)
      · rw [c12_1, cond_false] at hD
        refine k_runB (pc' := 16) (loc' := [(0, .ref (25 * 1024)), (1, .ref (r1 * 1024)), (2, .int x2), (3, .int x3)]) (st' := [.ref (r1 * 1024)]) 1 rfl ?_
        refine k_gf r1 0 (K := 2) hr1 rfl rfl rfl rfl ?_
        refine k_runB (pc' := 20) (loc' := [(0, .ref (25 * 1024)), (1, .ref (r1 * 1024)), (2, .int x2), (3, .int x3)]) (st' := [.ref (25 * 1024), .ref (r1 * 1024 + 1)]) 1 rfl ?_
        refine k_gf 25 0 (K := 4) rfl rfl rfl rfl rfl ?_
        refine k_runB (pc' := 24) (loc' := [(0, .ref (25 * 1024)), (1, .ref (r1 * 1024)), (2, .int x2), (3, .int x3)]) (st' := [.int x3, .ref (25 * 1024 + 1), .ref (r1 * 1024 + 1)]) 1 rfl ?_
        obtain ⟨v3, hv3, hD⟩ := Option.bind_eq_some_iff.mp hD
        refine k_ldI rfl (c_get (r := 25) (o := 1) (K := 4) rfl (by decide)) hv3 ?_
        obtain ⟨v4, hv4, hD⟩ := Option.bind_eq_some_iff.mp hD
        refine k_ldI rfl (c_get (r := r1) (o := 1) (K := 2) hr1 (by decide)) hv4 ?_
        refine k_runB (pc' := 27) (loc' := [(0, .ref (25 * 1024)), (1, .ref (r1 * 1024)), (2, .int x2), (3, .int x3)]) (st' := [.ref (25 * 1024), .int v4]) 1 rfl ?_
        refine k_gf 25 0 (K := 4) rfl rfl rfl rfl rfl ?_
        refine k_runB (pc' := 31) (loc' := [(0, .ref (25 * 1024)), (1, .ref (r1 * 1024)), (2, .int x2), (3, .int x3)]) (st' := [.int x3, .ref (25 * 1024 + 2), .int v4]) 1 rfl ?_
        obtain ⟨v5, hv5, hD⟩ := Option.bind_eq_some_iff.mp hD
        refine k_ldI rfl (c_get (r := 25) (o := 2) (K := 4) rfl (by decide)) hv5 ?_
        refine k_ic rfl (fun c32_5 => ?_) (fun c32_5 => ?_)
        · rw [c32_5, cond_true] at hD
          refine k_runB (pc' := 2) (loc' := [(0, .ref (25 * 1024)), (1, .ref (r1 * 1024)), (2, .int x2), (3, .int (x3 + 1))]) (st' := []) 2 rfl ?_
          refine k_wk [0, 1, 2, 3] (loc' := [(0, .ref (25 * 1024)), (1, .ref (r1 * 1024)), (2, .int x2), (3, .int (x3 + 1))]) rfl rfl ?_
          exact hK2 _ _ _ _ _ _ _ _ hr1 hD
        · rw [c32_5, cond_false] at hD
          refine k_runB (pc' := 36) (loc' := [(0, .ref (25 * 1024)), (1, .ref (r1 * 1024)), (2, .int x2), (3, .int x3)]) (st' := [.int 0]) 1 rfl ?_
          cases hD
          exact k_zret rfl rfl (Or.inl rfl)
/-- SleepWork$Told.isSoIn(LSleepWork$State;I)Z  -/
def e_Told_isSoIn (n : Nat) (P : Nat → Nat → Nat) (F : Nat → Nat → Int32) (A : Nat → Nat → Nat → Int32) (J : Nat → Nat → Nat → Int64) (r1 : Nat) (x2 : Int32) : Option (Int32) :=
  e_Told_isSoIn_2 n P F A J r1 x2 0
set_option maxRecDepth 10000 in
theorem t_e_Told_isSoIn {n : Nat} {P : Nat → Nat → Nat} {F : Nat → Nat → Int32} {A : Nat → Nat → Nat → Int32} {J : Nat → Nat → Nat → Int64} {r1 : Nat} {x2 : Int32} (hr1 : c_kind r1 = 2) {w : Int32} : e_Told_isSoIn n P F A J r1 x2 = some w → k_run t lg (d) 92 0 [(0, .ref (25 * 1024)), (1, .ref (r1 * 1024)), (2, .int x2)] [] (c_h c B P F A J) (some (.int w), c_h c B P F A J) := by
  intro hD
  unfold e_Told_isSoIn at hD
  refine k_runB (pc' := 2) (loc' := [(0, .ref (25 * 1024)), (1, .ref (r1 * 1024)), (2, .int x2), (3, .int 0)]) (st' := []) 2 rfl ?_
  refine k_wk [0, 1, 2, 3] (loc' := [(0, .ref (25 * 1024)), (1, .ref (r1 * 1024)), (2, .int x2), (3, .int 0)]) rfl rfl ?_
  exact t_e_Told_isSoIn_2  hr1 hD
def e_Evening_seekFits_113 (K18 : (Nat → Nat → Nat) → (Nat → Nat → Int32) → (Nat → Nat → Nat → Int32) → (Nat → Nat → Nat → Int64) → Int32 → Int32 → Int32 → Option (Unit × (Nat → Nat → Nat) × (Nat → Nat → Int32) × (Nat → Nat → Nat → Int32) × (Nat → Nat → Nat → Int64))) (n : Nat) (P : Nat → Nat → Nat) (F : Nat → Nat → Int32) (A : Nat → Nat → Nat → Int32) (J : Nat → Nat → Nat → Int64) (x1 : Int32) (x2 : Int32) (x3 : Int32) : Option (Unit × (Nat → Nat → Nat) × (Nat → Nat → Int32) × (Nat → Nat → Nat → Int32) × (Nat → Nat → Nat → Int64)) :=
    K18 P F A J x1 x2 (x3 + 1)
set_option maxRecDepth 10000 in
theorem t_e_Evening_seekFits_113 (ht : ∀ ci k, t.1 ci k = k_ty ci k) {n : Nat} {K18 : (Nat → Nat → Nat) → (Nat → Nat → Int32) → (Nat → Nat → Nat → Int32) → (Nat → Nat → Nat → Int64) → Int32 → Int32 → Int32 → Option (Unit × (Nat → Nat → Nat) × (Nat → Nat → Int32) × (Nat → Nat → Nat → Int32) × (Nat → Nat → Nat → Int64))} (hK18 : ∀ (P : Nat → Nat → Nat) (F : Nat → Nat → Int32) (A : Nat → Nat → Nat → Int32) (J : Nat → Nat → Nat → Int64) (x1 : Int32) (x2 : Int32) (x3 : Int32) (w : Unit × (Nat → Nat → Nat) × (Nat → Nat → Int32) × (Nat → Nat → Nat → Int32) × (Nat → Nat → Nat → Int64)), K18 P F A J x1 x2 x3 = some w → k_run t lg (d + 5) 17 18 [(0, .ref (32 * 1024)), (1, .int x1), (2, .int x2), (3, .int x3)] [] (c_h c B P F A J) (none, c_h c B w.2.1 w.2.2.1 w.2.2.2.1 w.2.2.2.2)) {P : Nat → Nat → Nat} {F : Nat → Nat → Int32} {A : Nat → Nat → Nat → Int32} {J : Nat → Nat → Nat → Int64} {x1 : Int32} {x2 : Int32} {x3 : Int32}  {w : Unit × (Nat → Nat → Nat) × (Nat → Nat → Int32) × (Nat → Nat → Nat → Int32) × (Nat → Nat → Nat → Int64)} : e_Evening_seekFits_113 K18 n P F A J x1 x2 x3 = some w → k_run t lg (d + 5) 17 113 [(0, .ref (32 * 1024)), (1, .int x1), (2, .int x2), (3, .int x3)] [] (c_h c B P F A J) (none, c_h c B w.2.1 w.2.2.1 w.2.2.2.1 w.2.2.2.2) := by
  intro hD
  unfold e_Evening_seekFits_113 at hD
  refine k_runB (pc' := 18) (loc' := [(0, .ref (32 * 1024)), (1, .int x1), (2, .int x2), (3, .int (x3 + 1))]) (st' := []) 2 rfl ?_
  refine k_wk [0, 1, 2, 3] (loc' := [(0, .ref (32 * 1024)), (1, .int x1), (2, .int x2), (3, .int (x3 + 1))]) rfl rfl ?_
  exact hK18 _ _ _ _ _ _ _ _  hD
def e_Evening_seekFits_18 : Nat → (Nat → Nat → Nat) → (Nat → Nat → Int32) → (Nat → Nat → Nat → Int32) → (Nat → Nat → Nat → Int64) → Int32 → Int32 → Int32 → Option (Unit × (Nat → Nat → Nat) × (Nat → Nat → Int32) × (Nat → Nat → Nat → Int32) × (Nat → Nat → Nat → Int64))
  | 0, _, _, _, _, _, _, _ => none
  | n + 1, P, F, A, J, x1, x2, x3 => cond (g_cnd .ge x3 36)
    (some ((), P, F, A, J))
    ((c_chk 6 (P 32 4)).bind fun q9 =>
    (e_House_mayBeLeft P F A J q9 x3).bind fun v10 =>
    cond (g_cnd .eq v10 0)
    (e_Evening_seekFits_113 (e_Evening_seekFits_18 n) n P F A J x1 x2 x3)
    ((e_State_copy P F A J 33 2).bind fun (_, P13, F14, A15, J16) =>
    (c_st A15 33 3 6 x1 x3).bind fun A17 =>
    (c_chk 6 (P13 32 4)).bind fun q18 =>
    (c_chk 6 (P13 32 4)).bind fun q19 =>
    (e_Sleep_goTill n P13 F14 A17 J16 (F14 q18 18) q19 33).bind fun (_, P21, F22, A23, J24) =>
    (e_Told_isSoIn n P21 F22 A23 J24 33 x2).bind fun v25 =>
    cond (g_cnd .eq v25 0)
    (e_Evening_seekFits_113 (e_Evening_seekFits_18 n) n P21 F22 A23 J24 x1 x2 x3)
    ((c_st A23 35 0 37 (F22 32 15) x3).bind fun A27 =>
    (c_pf F22 32 15 ((F22 32 15) + 1)).bind fun F28 =>
    (e_Evening_seekFits_18 n) P21 F28 A27 J24 x1 x2 (x3 + 1))))
set_option maxRecDepth 10000 in
theorem t_e_Evening_seekFits_18 (ht : ∀ ci k, t.1 ci k = k_ty ci k) {n : Nat}  {P : Nat → Nat → Nat} {F : Nat → Nat → Int32} {A : Nat → Nat → Nat → Int32} {J : Nat → Nat → Nat → Int64} {x1 : Int32} {x2 : Int32} {x3 : Int32}  {w : Unit × (Nat → Nat → Nat) × (Nat → Nat → Int32) × (Nat → Nat → Nat → Int32) × (Nat → Nat → Nat → Int64)} : e_Evening_seekFits_18 n P F A J x1 x2 x3 = some w → k_run t lg (d + 5) 17 18 [(0, .ref (32 * 1024)), (1, .int x1), (2, .int x2), (3, .int x3)] [] (c_h c B P F A J) (none, c_h c B w.2.1 w.2.2.1 w.2.2.2.1 w.2.2.2.2) := by
  induction n generalizing P F A J x1 x2 x3 w with
  | zero => intro hD; cases hD
  | succ n ih =>
    intro hD
    have hK18 : ∀ (P : Nat → Nat → Nat) (F : Nat → Nat → Int32) (A : Nat → Nat → Nat → Int32) (J : Nat → Nat → Nat → Int64) (x1 : Int32) (x2 : Int32) (x3 : Int32) (w : Unit × (Nat → Nat → Nat) × (Nat → Nat → Int32) × (Nat → Nat → Nat → Int32) × (Nat → Nat → Nat → Int64)), e_Evening_seekFits_18 n P F A J x1 x2 x3 = some w → k_run t lg (d + 5) 17 18 [(0, .ref (32 * 1024)), (1, .int x1), (2, .int x2), (3, .int x3)] [] (c_h c B P F A J) (none, c_h c B w.2.1 w.2.2.1 w.2.2.2.1 w.2.2.2.2) := fun _ _ _ _ _ _ _ _  h => ih  h
    unfold e_Evening_seekFits_18 at hD
    refine k_runB (pc' := 21) (loc' := [(0, .ref (32 * 1024)), (1, .int x1), (2, .int x2), (3, .int x3)]) (st' := [.int 36, .int x3]) 2 rfl ?_
    refine k_ic rfl (fun c21_7 => ?_) (fun c21_7 => ?_)
    · rw [c21_7, cond_true] at hD
      cases hD
      exact k_vret rfl rfl
    · rw [c21_7, cond_false] at hD
      refine k_runB (pc' := 25) (loc' := [(0, .ref (32 * 1024)), (1, .int x1), (2, .int x2), (3, .int x3)]) (st' := [.ref (32 * 1024)]) 1 rfl ?_
      obtain ⟨q9, hq9, hD⟩ := Option.bind_eq_some_iff.mp hD
      refine k_gq 32 0 (K := 7) (K2 := 6) (key := 4) rfl rfl rfl rfl rfl hq9 (fun kq9 => ?_)
      refine k_runB (pc' := 29) (loc' := [(0, .ref (32 * 1024)), (1, .int x1), (2, .int x2), (3, .int x3)]) (st' := [.int x3, .ref (q9 * 1024)]) 1 rfl ?_
      obtain ⟨v10, hv10, hD⟩ := Option.bind_eq_some_iff.mp hD
      refine k_runV rfl rfl rfl (c_get (r := q9) (o := 0) (K := 6) kq9 (by decide)) rfl rfl (t_e_House_mayBeLeft (d := d + 4) kq9 hv10) ?_
      refine k_if rfl (fun c32_10 => ?_) (fun c32_10 => ?_)
      · rw [c32_10, cond_true] at hD
        refine k_wk [0, 1, 2, 3] (loc' := [(0, .ref (32 * 1024)), (1, .int x1), (2, .int x2), (3, .int x3)]) rfl rfl ?_
        exact t_e_Evening_seekFits_113 ht hK18  hD
      · rw [c32_10, cond_false] at hD
        refine k_runB (pc' := 36) (loc' := [(0, .ref (32 * 1024)), (1, .int x1), (2, .int x2), (3, .int x3)]) (st' := [.ref (32 * 1024)]) 1 rfl ?_
        refine k_gf 32 0 (K := 7) rfl rfl rfl rfl rfl ?_
        refine k_runB (pc' := 40) (loc' := [(0, .ref (32 * 1024)), (1, .int x1), (2, .int x2), (3, .int x3)]) (st' := [.ref (32 * 1024), .ref (33 * 1024)]) 1 rfl ?_
        refine k_gf 32 0 (K := 7) rfl rfl rfl rfl rfl ?_
        obtain ⟨⟨v12, P13, F14, A15, J16⟩, hv12, hD⟩ := Option.bind_eq_some_iff.mp hD
        dsimp only at hD
        refine k_runV rfl rfl rfl (c_get (r := 33) (o := 0) (K := 2) rfl (by decide)) rfl rfl (t_e_State_copy (d := d + 4) ht rfl rfl hv12) ?_
        refine k_runB (pc' := 47) (loc' := [(0, .ref (32 * 1024)), (1, .int x1), (2, .int x2), (3, .int x3)]) (st' := [.ref (32 * 1024)]) 1 rfl ?_
        refine k_gf 32 0 (K := 7) rfl rfl rfl rfl rfl ?_
        refine k_gf 33 0 (K := 2) rfl rfl rfl rfl rfl ?_
        refine k_runB (pc' := 55) (loc' := [(0, .ref (32 * 1024)), (1, .int x1), (2, .int x2), (3, .int x3)]) (st' := [.int x3, .int x1, .ref (33 * 1024 + 3)]) 2 rfl ?_
        obtain ⟨A17, hA17, hD⟩ := Option.bind_eq_some_iff.mp hD
        refine k_cstI 33 3 (K := 2) rfl rfl rfl rfl (fun _ => rfl) hA17 ?_
        refine k_runB (pc' := 57) (loc' := [(0, .ref (32 * 1024)), (1, .int x1), (2, .int x2), (3, .int x3)]) (st' := [.ref (32 * 1024)]) 1 rfl ?_
        refine k_gf 32 0 (K := 7) rfl rfl rfl rfl rfl ?_
        refine k_runB (pc' := 61) (loc' := [(0, .ref (32 * 1024)), (1, .int x1), (2, .int x2), (3, .int x3)]) (st' := [.ref (32 * 1024), .ref (36 * 1024)]) 1 rfl ?_
        obtain ⟨q18, hq18, hD⟩ := Option.bind_eq_some_iff.mp hD
        refine k_gq 32 0 (K := 7) (K2 := 6) (key := 4) rfl rfl rfl rfl rfl hq18 (fun kq18 => ?_)
        refine k_gf q18 0 (K := 6) kq18 rfl rfl rfl rfl ?_
        refine k_runB (pc' := 68) (loc' := [(0, .ref (32 * 1024)), (1, .int x1), (2, .int x2), (3, .int x3)]) (st' := [.ref (32 * 1024), .int (F14 q18 18), .ref (36 * 1024)]) 1 rfl ?_
        obtain ⟨q19, hq19, hD⟩ := Option.bind_eq_some_iff.mp hD
        refine k_gq 32 0 (K := 7) (K2 := 6) (key := 4) rfl rfl rfl rfl rfl hq19 (fun kq19 => ?_)
        refine k_runB (pc' := 72) (loc' := [(0, .ref (32 * 1024)), (1, .int x1), (2, .int x2), (3, .int x3)]) (st' := [.ref (32 * 1024), .ref (q19 * 1024), .int (F14 q18 18), .ref (36 * 1024)]) 1 rfl ?_
        refine k_gf 32 0 (K := 7) rfl rfl rfl rfl rfl ?_
        obtain ⟨⟨v20, P21, F22, A23, J24⟩, hv20, hD⟩ := Option.bind_eq_some_iff.mp hD
        dsimp only at hD
        refine k_runV rfl rfl rfl (c_get (r := 36) (o := 0) (K := 10) rfl (by decide)) rfl rfl (t_e_Sleep_goTill (d := d) ht kq19 rfl hv20) ?_
        refine k_runB (pc' := 79) (loc' := [(0, .ref (32 * 1024)), (1, .int x1), (2, .int x2), (3, .int x3)]) (st' := [.ref (32 * 1024)]) 1 rfl ?_
        refine k_gf 32 0 (K := 7) rfl rfl rfl rfl rfl ?_
        refine k_runB (pc' := 83) (loc' := [(0, .ref (32 * 1024)), (1, .int x1), (2, .int x2), (3, .int x3)]) (st' := [.ref (32 * 1024), .ref (25 * 1024)]) 1 rfl ?_
        refine k_gf 32 0 (K := 7) rfl rfl rfl rfl rfl ?_
        refine k_runB (pc' := 87) (loc' := [(0, .ref (32 * 1024)), (1, .int x1), (2, .int x2), (3, .int x3)]) (st' := [.int x2, .ref (33 * 1024), .ref (25 * 1024)]) 1 rfl ?_
        obtain ⟨v25, hv25, hD⟩ := Option.bind_eq_some_iff.mp hD
        refine k_runV rfl rfl rfl (c_get (r := 25) (o := 0) (K := 4) rfl (by decide)) rfl rfl (t_e_Told_isSoIn (d := d + 4) rfl hv25) ?_
        refine k_if rfl (fun c90_25 => ?_) (fun c90_25 => ?_)
        · rw [c90_25, cond_true] at hD
          refine k_wk [0, 1, 2, 3] (loc' := [(0, .ref (32 * 1024)), (1, .int x1), (2, .int x2), (3, .int x3)]) rfl rfl ?_
          exact t_e_Evening_seekFits_113 ht hK18  hD
        · rw [c90_25, cond_false] at hD
          refine k_runB (pc' := 94) (loc' := [(0, .ref (32 * 1024)), (1, .int x1), (2, .int x2), (3, .int x3)]) (st' := [.ref (32 * 1024)]) 1 rfl ?_
          refine k_gf 32 0 (K := 7) rfl rfl rfl rfl rfl ?_
          refine k_runB (pc' := 98) (loc' := [(0, .ref (32 * 1024)), (1, .int x1), (2, .int x2), (3, .int x3)]) (st' := [.ref (32 * 1024), .ref (35 * 1024 + 0)]) 1 rfl ?_
          refine k_gf 32 0 (K := 7) rfl rfl rfl rfl rfl ?_
          refine k_runB (pc' := 102) (loc' := [(0, .ref (32 * 1024)), (1, .int x1), (2, .int x2), (3, .int x3)]) (st' := [.int x3, .int (F22 32 15), .ref (35 * 1024 + 0)]) 1 rfl ?_
          obtain ⟨A27, hA27, hD⟩ := Option.bind_eq_some_iff.mp hD
          refine k_cstI 35 0 (K := 9) rfl rfl rfl rfl (fun _ => rfl) hA27 ?_
          refine k_runB (pc' := 105) (loc' := [(0, .ref (32 * 1024)), (1, .int x1), (2, .int x2), (3, .int x3)]) (st' := [.ref (32 * 1024), .ref (32 * 1024)]) 2 rfl ?_
          refine k_gf 32 0 (K := 7) rfl rfl rfl rfl rfl ?_
          refine k_runB (pc' := 110) (loc' := [(0, .ref (32 * 1024)), (1, .int x1), (2, .int x2), (3, .int x3)]) (st' := [.int ((F22 32 15) + 1), .ref (32 * 1024)]) 2 rfl ?_
          obtain ⟨F28, hF28, hD⟩ := Option.bind_eq_some_iff.mp hD
          refine k_cpt 32 0 (K := 7) (key := 15) rfl rfl (ht 0 15) rfl rfl rfl hF28 ?_
          refine k_runB (pc' := 18) (loc' := [(0, .ref (32 * 1024)), (1, .int x1), (2, .int x2), (3, .int (x3 + 1))]) (st' := []) 2 rfl ?_
          refine k_wk [0, 1, 2, 3] (loc' := [(0, .ref (32 * 1024)), (1, .int x1), (2, .int x2), (3, .int (x3 + 1))]) rfl rfl ?_
          exact hK18 _ _ _ _ _ _ _ _  hD
/-- SleepWork$Evening.seekFits(II)V  -/
def e_Evening_seekFits (n : Nat) (P : Nat → Nat → Nat) (F : Nat → Nat → Int32) (A : Nat → Nat → Nat → Int32) (J : Nat → Nat → Nat → Int64) (x1 : Int32) (x2 : Int32) : Option (Unit × (Nat → Nat → Nat) × (Nat → Nat → Int32) × (Nat → Nat → Nat → Int32) × (Nat → Nat → Nat → Int64)) :=
  (e_Evening_isAnswered n P F A J 4 x1 x2).bind fun (v1, P2, F3, A4, J5) =>
  cond (g_cnd .eq v1 0)
  ((c_pf F3 32 15 0).bind fun F7 =>
  e_Evening_seekFits_18 n P2 F7 A4 J5 x1 x2 ((-1)))
  (some ((), P2, F3, A4, J5))
set_option maxRecDepth 10000 in
theorem t_e_Evening_seekFits (ht : ∀ ci k, t.1 ci k = k_ty ci k) {n : Nat} {P : Nat → Nat → Nat} {F : Nat → Nat → Int32} {A : Nat → Nat → Nat → Int32} {J : Nat → Nat → Nat → Int64} {x1 : Int32} {x2 : Int32}  {w : Unit × (Nat → Nat → Nat) × (Nat → Nat → Int32) × (Nat → Nat → Nat → Int32) × (Nat → Nat → Nat → Int64)} : e_Evening_seekFits n P F A J x1 x2 = some w → k_run t lg (d + 5) 17 0 [(0, .ref (32 * 1024)), (1, .int x1), (2, .int x2)] [] (c_h c B P F A J) (none, c_h c B w.2.1 w.2.2.1 w.2.2.2.1 w.2.2.2.2) := by
  intro hD
  unfold e_Evening_seekFits at hD
  refine k_runB (pc' := 4) (loc' := [(0, .ref (32 * 1024)), (1, .int x1), (2, .int x2)]) (st' := [.int x2, .int x1, .int 4, .ref (32 * 1024)]) 4 rfl ?_
  obtain ⟨⟨v1, P2, F3, A4, J5⟩, hv1, hD⟩ := Option.bind_eq_some_iff.mp hD
  dsimp only at hD
  refine k_runV rfl rfl rfl (c_get (r := 32) (o := 0) (K := 7) rfl (by decide)) rfl rfl (t_e_Evening_isAnswered (d := d + 2) ht hv1) ?_
  refine k_if rfl (fun c7_5 => ?_) (fun c7_5 => ?_)
  · rw [c7_5, cond_true] at hD
    refine k_runB (pc' := 13) (loc' := [(0, .ref (32 * 1024)), (1, .int x1), (2, .int x2)]) (st' := [.int 0, .ref (32 * 1024)]) 2 rfl ?_
    obtain ⟨F7, hF7, hD⟩ := Option.bind_eq_some_iff.mp hD
    refine k_cpt 32 0 (K := 7) (key := 15) rfl rfl (ht 0 15) rfl rfl rfl hF7 ?_
    refine k_runB (pc' := 18) (loc' := [(0, .ref (32 * 1024)), (1, .int x1), (2, .int x2), (3, .int ((-1)))]) (st' := []) 2 rfl ?_
    refine k_wk [0, 1, 2, 3] (loc' := [(0, .ref (32 * 1024)), (1, .int x1), (2, .int x2), (3, .int ((-1)))]) rfl rfl ?_
    exact t_e_Evening_seekFits_18 ht   hD
  · rw [c7_5, cond_false] at hD
    cases hD
    exact k_vret rfl rfl
end MC
