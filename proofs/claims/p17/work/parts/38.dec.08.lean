/-! the class's methods as functions (printed by wip/dec2.py) -/
section MC
variable {t : gT} {lg : Nat → Nat} {d : Nat} {c : Nat × Nat} {B : Nat → List gE}
def e_Scanner_scanLetters_121 (n : Nat) (P : Nat → Nat → Nat) (F : Nat → Nat → Int32) (A : Nat → Nat → Nat → Int32) (J : Nat → Nat → Nat → Int64) (x1 : Int32) (x3 : Int64) (x5 : Int32) : Option (Unit × (Nat → Nat → Nat) × (Nat → Nat → Int32) × (Nat → Nat → Nat → Int32) × (Nat → Nat → Nat → Int64)) :=
    (c_stJ J 37 5 401 x1 x3).bind fun J13 =>
    (c_st A 37 2 401 x1 x5).bind fun A14 =>
    some ((), P, F, A14, J13)
set_option maxRecDepth 10000 in
theorem t_e_Scanner_scanLetters_121 (ht : ∀ ci k, t.1 ci k = k_ty ci k) {n : Nat}  {P : Nat → Nat → Nat} {F : Nat → Nat → Int32} {A : Nat → Nat → Nat → Int32} {J : Nat → Nat → Nat → Int64} {x1 : Int32} {x3 : Int64} {x5 : Int32}  {w : Unit × (Nat → Nat → Nat) × (Nat → Nat → Int32) × (Nat → Nat → Nat → Int32) × (Nat → Nat → Nat → Int64)} : e_Scanner_scanLetters_121 n P F A J x1 x3 x5 = some w → k_run t lg (d + 1) 69 121 [(0, .ref (37 * 1024 + 1)), (1, .int x1), (3, .long (x3)), (5, .int x5)] [] (c_h c B P F A J) (none, c_h c B w.2.1 w.2.2.1 w.2.2.2.1 w.2.2.2.2) := by
  intro hD
  unfold e_Scanner_scanLetters_121 at hD
  refine k_runB (pc' := 122) (loc' := [(0, .ref (37 * 1024 + 1)), (1, .int x1), (3, .long (x3)), (5, .int x5)]) (st' := [.ref (37 * 1024 + 1)]) 1 rfl ?_
  refine k_gf 37 1 (K := 11) rfl rfl rfl rfl rfl ?_
  refine k_runB (pc' := 127) (loc' := [(0, .ref (37 * 1024 + 1)), (1, .int x1), (3, .long (x3)), (5, .int x5)]) (st' := [.long (x3), .int x1, .ref (37 * 1024 + 5)]) 2 rfl ?_
  obtain ⟨J13, hJ13, hD⟩ := Option.bind_eq_some_iff.mp hD
  refine k_cstL 37 5 (K := 11) rfl rfl rfl rfl (fun _ => rfl) hJ13 ?_
  refine k_runB (pc' := 129) (loc' := [(0, .ref (37 * 1024 + 1)), (1, .int x1), (3, .long (x3)), (5, .int x5)]) (st' := [.ref (37 * 1024 + 1)]) 1 rfl ?_
  refine k_gf 37 1 (K := 11) rfl rfl rfl rfl rfl ?_
  refine k_runB (pc' := 135) (loc' := [(0, .ref (37 * 1024 + 1)), (1, .int x1), (3, .long (x3)), (5, .int x5)]) (st' := [.int x5, .int x1, .ref (37 * 1024 + 2)]) 2 rfl ?_
  obtain ⟨A14, hA14, hD⟩ := Option.bind_eq_some_iff.mp hD
  refine k_cstI 37 2 (K := 11) rfl rfl rfl rfl (fun _ => rfl) hA14 ?_
  cases hD
  exact k_vret rfl rfl
def e_Scanner_scanLetters_115 (K85 : (Nat → Nat → Nat) → (Nat → Nat → Int32) → (Nat → Nat → Nat → Int32) → (Nat → Nat → Nat → Int64) → Int32 → Int64 → Int32 → Int32 → Option (Unit × (Nat → Nat → Nat) × (Nat → Nat → Int32) × (Nat → Nat → Nat → Int32) × (Nat → Nat → Nat → Int64))) (n : Nat) (P : Nat → Nat → Nat) (F : Nat → Nat → Int32) (A : Nat → Nat → Nat → Int32) (J : Nat → Nat → Nat → Int64) (x1 : Int32) (x3 : Int64) (x5 : Int32) (x6 : Int32) : Option (Unit × (Nat → Nat → Nat) × (Nat → Nat → Int32) × (Nat → Nat → Nat → Int32) × (Nat → Nat → Nat → Int64)) :=
    K85 P F A J x1 x3 x5 (x6 + 1)
set_option maxRecDepth 10000 in
theorem t_e_Scanner_scanLetters_115 (ht : ∀ ci k, t.1 ci k = k_ty ci k) {n : Nat} {K85 : (Nat → Nat → Nat) → (Nat → Nat → Int32) → (Nat → Nat → Nat → Int32) → (Nat → Nat → Nat → Int64) → Int32 → Int64 → Int32 → Int32 → Option (Unit × (Nat → Nat → Nat) × (Nat → Nat → Int32) × (Nat → Nat → Nat → Int32) × (Nat → Nat → Nat → Int64))} (hK85 : ∀ (P : Nat → Nat → Nat) (F : Nat → Nat → Int32) (A : Nat → Nat → Nat → Int32) (J : Nat → Nat → Nat → Int64) (x1 : Int32) (x3 : Int64) (x5 : Int32) (x6 : Int32) (w : Unit × (Nat → Nat → Nat) × (Nat → Nat → Int32) × (Nat → Nat → Nat → Int32) × (Nat → Nat → Nat → Int64)), K85 P F A J x1 x3 x5 x6 = some w → k_run t lg (d + 1) 69 85 [(0, .ref (37 * 1024 + 1)), (1, .int x1), (3, .long (x3)), (5, .int x5), (6, .int x6)] [] (c_h c B P F A J) (none, c_h c B w.2.1 w.2.2.1 w.2.2.2.1 w.2.2.2.2)) {P : Nat → Nat → Nat} {F : Nat → Nat → Int32} {A : Nat → Nat → Nat → Int32} {J : Nat → Nat → Nat → Int64} {x1 : Int32} {x3 : Int64} {x5 : Int32} {x6 : Int32}  {w : Unit × (Nat → Nat → Nat) × (Nat → Nat → Int32) × (Nat → Nat → Nat → Int32) × (Nat → Nat → Nat → Int64)} : e_Scanner_scanLetters_115 K85 n P F A J x1 x3 x5 x6 = some w → k_run t lg (d + 1) 69 115 [(0, .ref (37 * 1024 + 1)), (1, .int x1), (3, .long (x3)), (5, .int x5), (6, .int x6)] [] (c_h c B P F A J) (none, c_h c B w.2.1 w.2.2.1 w.2.2.2.1 w.2.2.2.2) := by
  intro hD
  unfold e_Scanner_scanLetters_115 at hD
  refine k_runB (pc' := 85) (loc' := [(0, .ref (37 * 1024 + 1)), (1, .int x1), (3, .long (x3)), (5, .int x5), (6, .int (x6 + 1))]) (st' := []) 2 rfl ?_
  refine k_wk [0, 1, 3, 5, 6] (loc' := [(0, .ref (37 * 1024 + 1)), (1, .int x1), (3, .long (x3)), (5, .int x5), (6, .int (x6 + 1))]) rfl rfl ?_
  exact hK85 _ _ _ _ _ _ _ _ _  hD
def e_Scanner_scanLetters_85 : Nat → (Nat → Nat → Nat) → (Nat → Nat → Int32) → (Nat → Nat → Nat → Int32) → (Nat → Nat → Nat → Int64) → Int32 → Int64 → Int32 → Int32 → Option (Unit × (Nat → Nat → Nat) × (Nat → Nat → Int32) × (Nat → Nat → Nat → Int32) × (Nat → Nat → Nat → Int64))
  | 0, _, _, _, _, _, _, _, _ => none
  | n + 1, P, F, A, J, x1, x3, x5, x6 => cond (g_cnd .ge x6 21)
    (e_Scanner_scanLetters_121 n P F A J x1 x3 x5)
    (cond (g_cnd .ne x5 100)
    (e_Scanner_scanLetters_121 n P F A J x1 x3 x5)
    ((m_ldJ (J 37 6) 21 x6).bind fun v11 =>
    cond (g_cnd .ne (lg_cmp v11 x3) 0)
    (e_Scanner_scanLetters_115 (e_Scanner_scanLetters_85 n) n P F A J x1 x3 x5 x6)
    (e_Scanner_scanLetters_115 (e_Scanner_scanLetters_85 n) n P F A J x1 x3 x6 x6)))
set_option maxRecDepth 10000 in
theorem t_e_Scanner_scanLetters_85 (ht : ∀ ci k, t.1 ci k = k_ty ci k) {n : Nat}  {P : Nat → Nat → Nat} {F : Nat → Nat → Int32} {A : Nat → Nat → Nat → Int32} {J : Nat → Nat → Nat → Int64} {x1 : Int32} {x3 : Int64} {x5 : Int32} {x6 : Int32}  {w : Unit × (Nat → Nat → Nat) × (Nat → Nat → Int32) × (Nat → Nat → Nat → Int32) × (Nat → Nat → Nat → Int64)} : e_Scanner_scanLetters_85 n P F A J x1 x3 x5 x6 = some w → k_run t lg (d + 1) 69 85 [(0, .ref (37 * 1024 + 1)), (1, .int x1), (3, .long (x3)), (5, .int x5), (6, .int x6)] [] (c_h c B P F A J) (none, c_h c B w.2.1 w.2.2.1 w.2.2.2.1 w.2.2.2.2) := by
  induction n generalizing P F A J x1 x3 x5 x6 w with
  | zero => intro hD; cases hD
  | succ n ih =>
    intro hD
    have hK85 : ∀ (P : Nat → Nat → Nat) (F : Nat → Nat → Int32) (A : Nat → Nat → Nat → Int32) (J : Nat → Nat → Nat → Int64) (x1 : Int32) (x3 : Int64) (x5 : Int32) (x6 : Int32) (w : Unit × (Nat → Nat → Nat) × (Nat → Nat → Int32) × (Nat → Nat → Nat → Int32) × (Nat → Nat → Nat → Int64)), e_Scanner_scanLetters_85 n P F A J x1 x3 x5 x6 = some w → k_run t lg (d + 1) 69 85 [(0, .ref (37 * 1024 + 1)), (1, .int x1), (3, .long (x3)), (5, .int x5), (6, .int x6)] [] (c_h c B P F A J) (none, c_h c B w.2.1 w.2.2.1 w.2.2.2.1 w.2.2.2.2) := fun _ _ _ _ _ _ _ _ _  h => ih  h
    unfold e_Scanner_scanLetters_85 at hD
    refine k_runB (pc' := 89) (loc' := [(0, .ref (37 * 1024 + 1)), (1, .int x1), (3, .long (x3)), (5, .int x5), (6, .int x6)]) (st' := [.int 21, .int x6]) 2 rfl ?_
    refine k_ic rfl (fun c89_8 => ?_) (fun c89_8 => ?_)
    · rw [c89_8, cond_true] at hD
      refine k_wk [0, 1, 3, 5] (loc' := [(0, .ref (37 * 1024 + 1)), (1, .int x1), (3, .long (x3)), (5, .int x5)]) rfl rfl ?_
      exact t_e_Scanner_scanLetters_121 ht   hD
    · rw [c89_8, cond_false] at hD
      refine k_runB (pc' := 96) (loc' := [(0, .ref (37 * 1024 + 1)), (1, .int x1), (3, .long (x3)), (5, .int x5), (6, .int x6)]) (st' := [.int 100, .int x5]) 2 rfl ?_
      refine k_ic rfl (fun c96_9 => ?_) (fun c96_9 => ?_)
      · rw [c96_9, cond_true] at hD
        refine k_wk [0, 1, 3, 5] (loc' := [(0, .ref (37 * 1024 + 1)), (1, .int x1), (3, .long (x3)), (5, .int x5)]) rfl rfl ?_
        exact t_e_Scanner_scanLetters_121 ht   hD
      · rw [c96_9, cond_false] at hD
        refine k_runB (pc' := 100) (loc' := [(0, .ref (37 * 1024 + 1)), (1, .int x1), (3, .long (x3)), (5, .int x5), (6, .int x6)]) (st' := [.ref (37 * 1024 + 1)]) 1 rfl ?_
        refine k_gf 37 1 (K := 11) rfl rfl rfl rfl rfl ?_
        refine k_runB (pc' := 105) (loc' := [(0, .ref (37 * 1024 + 1)), (1, .int x1), (3, .long (x3)), (5, .int x5), (6, .int x6)]) (st' := [.int x6, .ref (37 * 1024 + 6)]) 1 rfl ?_
        obtain ⟨v11, hv11, hD⟩ := Option.bind_eq_some_iff.mp hD
        refine k_ldL rfl (c_get (r := 37) (o := 6) (K := 11) rfl (by decide)) hv11 ?_
        refine k_runB (pc' := 108) (loc' := [(0, .ref (37 * 1024 + 1)), (1, .int x1), (3, .long (x3)), (5, .int x5), (6, .int x6)]) (st' := [.int (lg_cmp v11 x3)]) 2 rfl ?_
        refine k_if rfl (fun c108_11 => ?_) (fun c108_11 => ?_)
        · rw [c108_11, cond_true] at hD
          refine k_wk [0, 1, 3, 5, 6] (loc' := [(0, .ref (37 * 1024 + 1)), (1, .int x1), (3, .long (x3)), (5, .int x5), (6, .int x6)]) rfl rfl ?_
          exact t_e_Scanner_scanLetters_115 ht hK85  hD
        · rw [c108_11, cond_false] at hD
          refine k_runB (pc' := 115) (loc' := [(0, .ref (37 * 1024 + 1)), (1, .int x1), (3, .long (x3)), (5, .int x6), (6, .int x6)]) (st' := []) 2 rfl ?_
          refine k_wk [0, 1, 3, 5, 6] (loc' := [(0, .ref (37 * 1024 + 1)), (1, .int x1), (3, .long (x3)), (5, .int x6), (6, .int x6)]) rfl rfl ?_
          exact t_e_Scanner_scanLetters_115 ht hK85  hD
def e_Scanner_scanLetters_80 (n : Nat) (P : Nat → Nat → Nat) (F : Nat → Nat → Int32) (A : Nat → Nat → Nat → Int32) (J : Nat → Nat → Nat → Int64) (x1 : Int32) (x3 : Int64) (s0 : Int32) : Option (Unit × (Nat → Nat → Nat) × (Nat → Nat → Int32) × (Nat → Nat → Nat → Int32) × (Nat → Nat → Nat → Int64)) :=
    e_Scanner_scanLetters_85 n P F A J x1 x3 s0 0
set_option maxRecDepth 10000 in
theorem t_e_Scanner_scanLetters_80 (ht : ∀ ci k, t.1 ci k = k_ty ci k) {n : Nat}  {P : Nat → Nat → Nat} {F : Nat → Nat → Int32} {A : Nat → Nat → Nat → Int32} {J : Nat → Nat → Nat → Int64} {x1 : Int32} {x3 : Int64} {s0 : Int32}  {w : Unit × (Nat → Nat → Nat) × (Nat → Nat → Int32) × (Nat → Nat → Nat → Int32) × (Nat → Nat → Nat → Int64)} : e_Scanner_scanLetters_80 n P F A J x1 x3 s0 = some w → k_run t lg (d + 1) 69 80 [(0, .ref (37 * 1024 + 1)), (1, .int x1), (3, .long (x3))] [.int s0] (c_h c B P F A J) (none, c_h c B w.2.1 w.2.2.1 w.2.2.2.1 w.2.2.2.2) := by
  intro hD
  unfold e_Scanner_scanLetters_80 at hD
  refine k_runB (pc' := 85) (loc' := [(0, .ref (37 * 1024 + 1)), (1, .int x1), (3, .long (x3)), (5, .int s0), (6, .int 0)]) (st' := []) 3 rfl ?_
  refine k_wk [0, 1, 3, 5, 6] (loc' := [(0, .ref (37 * 1024 + 1)), (1, .int x1), (3, .long (x3)), (5, .int s0), (6, .int 0)]) rfl rfl ?_
  exact t_e_Scanner_scanLetters_85 ht   hD
def e_Scanner_scanLetters_57 (n : Nat) (P : Nat → Nat → Nat) (F : Nat → Nat → Int32) (A : Nat → Nat → Nat → Int32) (J : Nat → Nat → Nat → Int64) (x1 : Int32) (x3 : Int64) : Option (Unit × (Nat → Nat → Nat) × (Nat → Nat → Int32) × (Nat → Nat → Nat → Int32) × (Nat → Nat → Nat → Int64)) :=
    (m_ld (A 37 3) 401 x1).bind fun v7 =>
    cond (g_cnd .le ((F 37 105) - v7) 8)
    (e_Scanner_scanLetters_80 n P F A J x1 x3 100)
    (e_Scanner_scanLetters_80 n P F A J x1 x3 103)
set_option maxRecDepth 10000 in
theorem t_e_Scanner_scanLetters_57 (ht : ∀ ci k, t.1 ci k = k_ty ci k) {n : Nat}  {P : Nat → Nat → Nat} {F : Nat → Nat → Int32} {A : Nat → Nat → Nat → Int32} {J : Nat → Nat → Nat → Int64} {x1 : Int32} {x3 : Int64}  {w : Unit × (Nat → Nat → Nat) × (Nat → Nat → Int32) × (Nat → Nat → Nat → Int32) × (Nat → Nat → Nat → Int64)} : e_Scanner_scanLetters_57 n P F A J x1 x3 = some w → k_run t lg (d + 1) 69 57 [(0, .ref (37 * 1024 + 1)), (1, .int x1), (3, .long (x3))] [] (c_h c B P F A J) (none, c_h c B w.2.1 w.2.2.1 w.2.2.2.1 w.2.2.2.2) := by
  intro hD
  unfold e_Scanner_scanLetters_57 at hD
  refine k_runB (pc' := 58) (loc' := [(0, .ref (37 * 1024 + 1)), (1, .int x1), (3, .long (x3))]) (st' := [.ref (37 * 1024 + 1)]) 1 rfl ?_
  refine k_gf 37 1 (K := 11) rfl rfl rfl rfl rfl ?_
  refine k_runB (pc' := 62) (loc' := [(0, .ref (37 * 1024 + 1)), (1, .int x1), (3, .long (x3))]) (st' := [.ref (37 * 1024 + 1), .int (F 37 105)]) 1 rfl ?_
  refine k_gf 37 1 (K := 11) rfl rfl rfl rfl rfl ?_
  refine k_runB (pc' := 66) (loc' := [(0, .ref (37 * 1024 + 1)), (1, .int x1), (3, .long (x3))]) (st' := [.int x1, .ref (37 * 1024 + 3), .int (F 37 105)]) 1 rfl ?_
  obtain ⟨v7, hv7, hD⟩ := Option.bind_eq_some_iff.mp hD
  refine k_ldI rfl (c_get (r := 37) (o := 3) (K := 11) rfl (by decide)) hv7 ?_
  refine k_runB (pc' := 70) (loc' := [(0, .ref (37 * 1024 + 1)), (1, .int x1), (3, .long (x3))]) (st' := [.int 8, .int ((F 37 105) - v7)]) 2 rfl ?_
  refine k_ic rfl (fun c70_7 => ?_) (fun c70_7 => ?_)
  · rw [c70_7, cond_true] at hD
    refine k_runB (pc' := 80) (loc' := [(0, .ref (37 * 1024 + 1)), (1, .int x1), (3, .long (x3))]) (st' := [.int 100]) 1 rfl ?_
    refine k_wk [0, 1, 3] (loc' := [(0, .ref (37 * 1024 + 1)), (1, .int x1), (3, .long (x3))]) rfl rfl ?_
    exact t_e_Scanner_scanLetters_80 ht   hD
  · rw [c70_7, cond_false] at hD
    refine k_runB (pc' := 80) (loc' := [(0, .ref (37 * 1024 + 1)), (1, .int x1), (3, .long (x3))]) (st' := [.int 103]) 2 rfl ?_
    refine k_wk [0, 1, 3] (loc' := [(0, .ref (37 * 1024 + 1)), (1, .int x1), (3, .long (x3))]) rfl rfl ?_
    exact t_e_Scanner_scanLetters_80 ht   hD
def e_Scanner_scanLetters_2 : Nat → (Nat → Nat → Nat) → (Nat → Nat → Int32) → (Nat → Nat → Nat → Int32) → (Nat → Nat → Nat → Int64) → Int32 → Int64 → Option (Unit × (Nat → Nat → Nat) × (Nat → Nat → Int32) × (Nat → Nat → Nat → Int32) × (Nat → Nat → Nat → Int64))
  | 0, _, _, _, _, _, _ => none
  | n + 1, P, F, A, J, x1, x3 => cond (g_cnd .ge (F 37 105) (F 1 1))
    (e_Scanner_scanLetters_57 n P F A J x1 x3)
    ((m_ld (A 1 1) 2000 (F 37 105)).bind fun v2 =>
    (e_Scanner_isLetter P F A J v2).bind fun v3 =>
    cond (g_cnd .eq v3 0)
    (e_Scanner_scanLetters_57 n P F A J x1 x3)
    ((m_ld (A 1 1) 2000 (F 37 105)).bind fun v5 =>
    (c_pf F 37 105 ((F 37 105) + 1)).bind fun F6 =>
    (e_Scanner_scanLetters_2 n) P F6 A J x1 ((x3 <<< ((8 : Int32).toInt64 &&& 63)) ||| v5.toInt64)))
set_option maxRecDepth 10000 in
theorem t_e_Scanner_scanLetters_2 (ht : ∀ ci k, t.1 ci k = k_ty ci k) {n : Nat}  {P : Nat → Nat → Nat} {F : Nat → Nat → Int32} {A : Nat → Nat → Nat → Int32} {J : Nat → Nat → Nat → Int64} {x1 : Int32} {x3 : Int64}  {w : Unit × (Nat → Nat → Nat) × (Nat → Nat → Int32) × (Nat → Nat → Nat → Int32) × (Nat → Nat → Nat → Int64)} : e_Scanner_scanLetters_2 n P F A J x1 x3 = some w → k_run t lg (d + 1) 69 2 [(0, .ref (37 * 1024 + 1)), (1, .int x1), (2, .ref (1 * 1024)), (3, .long (x3))] [] (c_h c B P F A J) (none, c_h c B w.2.1 w.2.2.1 w.2.2.2.1 w.2.2.2.2) := by
  induction n generalizing P F A J x1 x3 w with
  | zero => intro hD; cases hD
  | succ n ih =>
    intro hD
    have hK2 : ∀ (P : Nat → Nat → Nat) (F : Nat → Nat → Int32) (A : Nat → Nat → Nat → Int32) (J : Nat → Nat → Nat → Int64) (x1 : Int32) (x3 : Int64) (w : Unit × (Nat → Nat → Nat) × (Nat → Nat → Int32) × (Nat → Nat → Nat → Int32) × (Nat → Nat → Nat → Int64)), e_Scanner_scanLetters_2 n P F A J x1 x3 = some w → k_run t lg (d + 1) 69 2 [(0, .ref (37 * 1024 + 1)), (1, .int x1), (2, .ref (1 * 1024)), (3, .long (x3))] [] (c_h c B P F A J) (none, c_h c B w.2.1 w.2.2.1 w.2.2.2.1 w.2.2.2.2) := fun _ _ _ _ _ _ _  h => ih  h
    unfold e_Scanner_scanLetters_2 at hD
    refine k_runB (pc' := 3) (loc' := [(0, .ref (37 * 1024 + 1)), (1, .int x1), (2, .ref (1 * 1024)), (3, .long (x3))]) (st' := [.ref (37 * 1024 + 1)]) 1 rfl ?_
    refine k_gf 37 1 (K := 11) rfl rfl rfl rfl rfl ?_
    refine k_runB (pc' := 7) (loc' := [(0, .ref (37 * 1024 + 1)), (1, .int x1), (2, .ref (1 * 1024)), (3, .long (x3))]) (st' := [.ref (1 * 1024), .int (F 37 105)]) 1 rfl ?_
    refine k_gf 1 0 (K := 1) rfl rfl rfl rfl rfl ?_
    refine k_ic rfl (fun c10_0 => ?_) (fun c10_0 => ?_)
    · rw [c10_0, cond_true] at hD
      refine k_wk [0, 1, 3] (loc' := [(0, .ref (37 * 1024 + 1)), (1, .int x1), (3, .long (x3))]) rfl rfl ?_
      exact t_e_Scanner_scanLetters_57 ht   hD
    · rw [c10_0, cond_false] at hD
      refine k_runB (pc' := 14) (loc' := [(0, .ref (37 * 1024 + 1)), (1, .int x1), (2, .ref (1 * 1024)), (3, .long (x3))]) (st' := [.ref (1 * 1024)]) 1 rfl ?_
      refine k_gf 1 0 (K := 1) rfl rfl rfl rfl rfl ?_
      refine k_runB (pc' := 18) (loc' := [(0, .ref (37 * 1024 + 1)), (1, .int x1), (2, .ref (1 * 1024)), (3, .long (x3))]) (st' := [.ref (37 * 1024 + 1), .ref (1 * 1024 + 1)]) 1 rfl ?_
      refine k_gf 37 1 (K := 11) rfl rfl rfl rfl rfl ?_
      obtain ⟨v2, hv2, hD⟩ := Option.bind_eq_some_iff.mp hD
      refine k_ldB rfl (c_get (r := 1) (o := 1) (K := 1) rfl (by decide)) hv2 ?_
      obtain ⟨v3, hv3, hD⟩ := Option.bind_eq_some_iff.mp hD
      refine k_runC rfl rfl rfl rfl (t_e_Scanner_isLetter (d := d) hv3) ?_
      refine k_if rfl (fun c25_3 => ?_) (fun c25_3 => ?_)
      · rw [c25_3, cond_true] at hD
        refine k_wk [0, 1, 3] (loc' := [(0, .ref (37 * 1024 + 1)), (1, .int x1), (3, .long (x3))]) rfl rfl ?_
        exact t_e_Scanner_scanLetters_57 ht   hD
      · rw [c25_3, cond_false] at hD
        refine k_runB (pc' := 33) (loc' := [(0, .ref (37 * 1024 + 1)), (1, .int x1), (2, .ref (1 * 1024)), (3, .long (x3))]) (st' := [.ref (1 * 1024), .long (x3 <<< ((8 : Int32).toInt64 &&& 63))]) 4 rfl ?_
        refine k_gf 1 0 (K := 1) rfl rfl rfl rfl rfl ?_
        refine k_runB (pc' := 37) (loc' := [(0, .ref (37 * 1024 + 1)), (1, .int x1), (2, .ref (1 * 1024)), (3, .long (x3))]) (st' := [.ref (37 * 1024 + 1), .ref (1 * 1024 + 1), .long (x3 <<< ((8 : Int32).toInt64 &&& 63))]) 1 rfl ?_
        refine k_gf 37 1 (K := 11) rfl rfl rfl rfl rfl ?_
        obtain ⟨v5, hv5, hD⟩ := Option.bind_eq_some_iff.mp hD
        refine k_ldB rfl (c_get (r := 1) (o := 1) (K := 1) rfl (by decide)) hv5 ?_
        refine k_runB (pc' := 46) (loc' := [(0, .ref (37 * 1024 + 1)), (1, .int x1), (2, .ref (1 * 1024)), (3, .long ((x3 <<< ((8 : Int32).toInt64 &&& 63)) ||| v5.toInt64))]) (st' := [.ref (37 * 1024 + 1), .ref (37 * 1024 + 1)]) 5 rfl ?_
        refine k_gf 37 1 (K := 11) rfl rfl rfl rfl rfl ?_
        refine k_runB (pc' := 51) (loc' := [(0, .ref (37 * 1024 + 1)), (1, .int x1), (2, .ref (1 * 1024)), (3, .long ((x3 <<< ((8 : Int32).toInt64 &&& 63)) ||| v5.toInt64))]) (st' := [.int ((F 37 105) + 1), .ref (37 * 1024 + 1)]) 2 rfl ?_
        obtain ⟨F6, hF6, hD⟩ := Option.bind_eq_some_iff.mp hD
        refine k_cpt 37 1 (K := 11) (key := 105) rfl rfl (ht 5 5) rfl rfl rfl hF6 ?_
        refine k_runB (pc' := 2) (loc' := [(0, .ref (37 * 1024 + 1)), (1, .int x1), (2, .ref (1 * 1024)), (3, .long ((x3 <<< ((8 : Int32).toInt64 &&& 63)) ||| v5.toInt64))]) (st' := []) 1 rfl ?_
        refine k_wk [0, 1, 2, 3] (loc' := [(0, .ref (37 * 1024 + 1)), (1, .int x1), (2, .ref (1 * 1024)), (3, .long ((x3 <<< ((8 : Int32).toInt64 &&& 63)) ||| v5.toInt64))]) rfl rfl ?_
        exact hK2 _ _ _ _ _ _ _  hD
/-- SleepWork$Scanner.scanLetters(ILSleepWork$Tape;)V  -/
def e_Scanner_scanLetters (n : Nat) (P : Nat → Nat → Nat) (F : Nat → Nat → Int32) (A : Nat → Nat → Nat → Int32) (J : Nat → Nat → Nat → Int64) (x1 : Int32) : Option (Unit × (Nat → Nat → Nat) × (Nat → Nat → Int32) × (Nat → Nat → Nat → Int32) × (Nat → Nat → Nat → Int64)) :=
  e_Scanner_scanLetters_2 n P F A J x1 0
set_option maxRecDepth 10000 in
theorem t_e_Scanner_scanLetters (ht : ∀ ci k, t.1 ci k = k_ty ci k) {n : Nat} {P : Nat → Nat → Nat} {F : Nat → Nat → Int32} {A : Nat → Nat → Nat → Int32} {J : Nat → Nat → Nat → Int64} {x1 : Int32}  {w : Unit × (Nat → Nat → Nat) × (Nat → Nat → Int32) × (Nat → Nat → Nat → Int32) × (Nat → Nat → Nat → Int64)} : e_Scanner_scanLetters n P F A J x1 = some w → k_run t lg (d + 1) 69 0 [(0, .ref (37 * 1024 + 1)), (1, .int x1), (2, .ref (1 * 1024))] [] (c_h c B P F A J) (none, c_h c B w.2.1 w.2.2.1 w.2.2.2.1 w.2.2.2.2) := by
  intro hD
  unfold e_Scanner_scanLetters at hD
  refine k_runB (pc' := 2) (loc' := [(0, .ref (37 * 1024 + 1)), (1, .int x1), (2, .ref (1 * 1024)), (3, .long (0))]) (st' := []) 2 rfl ?_
  refine k_wk [0, 1, 2, 3] (loc' := [(0, .ref (37 * 1024 + 1)), (1, .int x1), (2, .ref (1 * 1024)), (3, .long (0))]) rfl rfl ?_
  exact t_e_Scanner_scanLetters_2 ht   hD
def e_Scanner_scanNext_136 (n : Nat) (P : Nat → Nat → Nat) (F : Nat → Nat → Int32) (A : Nat → Nat → Nat → Int32) (J : Nat → Nat → Nat → Int64) (s1 : Int32) (s2 : Int32) : Option (Unit × (Nat → Nat → Nat) × (Nat → Nat → Int32) × (Nat → Nat → Nat → Int32) × (Nat → Nat → Nat → Int64)) :=
    (c_st A 37 2 401 s1 s2).bind fun A27 =>
    (c_pf F 37 105 ((F 37 105) + 1)).bind fun F28 =>
    some ((), P, F28, A27, J)
set_option maxRecDepth 10000 in
theorem t_e_Scanner_scanNext_136 (ht : ∀ ci k, t.1 ci k = k_ty ci k) {n : Nat}  {P : Nat → Nat → Nat} {F : Nat → Nat → Int32} {A : Nat → Nat → Nat → Int32} {J : Nat → Nat → Nat → Int64} {s1 : Int32} {s2 : Int32}  {w : Unit × (Nat → Nat → Nat) × (Nat → Nat → Int32) × (Nat → Nat → Nat → Int32) × (Nat → Nat → Nat → Int64)} : e_Scanner_scanNext_136 n P F A J s1 s2 = some w → k_run t lg (d + 4) 68 136 [(0, .ref (37 * 1024 + 1))] [.int s2, .int s1, .ref (37 * 1024 + 2)] (c_h c B P F A J) (none, c_h c B w.2.1 w.2.2.1 w.2.2.2.1 w.2.2.2.2) := by
  intro hD
  unfold e_Scanner_scanNext_136 at hD
  obtain ⟨A27, hA27, hD⟩ := Option.bind_eq_some_iff.mp hD
  refine k_cstI 37 2 (K := 11) rfl rfl rfl rfl (fun _ => rfl) hA27 ?_
  refine k_runB (pc' := 139) (loc' := [(0, .ref (37 * 1024 + 1))]) (st' := [.ref (37 * 1024 + 1), .ref (37 * 1024 + 1)]) 2 rfl ?_
  refine k_gf 37 1 (K := 11) rfl rfl rfl rfl rfl ?_
  refine k_runB (pc' := 144) (loc' := [(0, .ref (37 * 1024 + 1))]) (st' := [.int ((F 37 105) + 1), .ref (37 * 1024 + 1)]) 2 rfl ?_
  obtain ⟨F28, hF28, hD⟩ := Option.bind_eq_some_iff.mp hD
  refine k_cpt 37 1 (K := 11) (key := 105) rfl rfl (ht 5 5) rfl rfl rfl hF28 ?_
  cases hD
  exact k_vret rfl rfl
def e_Scanner_scanNext_134 (n : Nat) (P : Nat → Nat → Nat) (F : Nat → Nat → Int32) (A : Nat → Nat → Nat → Int32) (J : Nat → Nat → Nat → Int64) (s1 : Int32) : Option (Unit × (Nat → Nat → Nat) × (Nat → Nat → Int32) × (Nat → Nat → Nat → Int32) × (Nat → Nat → Nat → Int64)) :=
    e_Scanner_scanNext_136 n P F A J s1 103
set_option maxRecDepth 10000 in
theorem t_e_Scanner_scanNext_134 (ht : ∀ ci k, t.1 ci k = k_ty ci k) {n : Nat}  {P : Nat → Nat → Nat} {F : Nat → Nat → Int32} {A : Nat → Nat → Nat → Int32} {J : Nat → Nat → Nat → Int64} {s1 : Int32}  {w : Unit × (Nat → Nat → Nat) × (Nat → Nat → Int32) × (Nat → Nat → Nat → Int32) × (Nat → Nat → Nat → Int64)} : e_Scanner_scanNext_134 n P F A J s1 = some w → k_run t lg (d + 4) 68 134 [(0, .ref (37 * 1024 + 1))] [.int s1, .ref (37 * 1024 + 2)] (c_h c B P F A J) (none, c_h c B w.2.1 w.2.2.1 w.2.2.2.1 w.2.2.2.2) := by
  intro hD
  unfold e_Scanner_scanNext_134 at hD
  refine k_runB (pc' := 136) (loc' := [(0, .ref (37 * 1024 + 1))]) (st' := [.int 103, .int s1, .ref (37 * 1024 + 2)]) 1 rfl ?_
  refine k_wk [0] (loc' := [(0, .ref (37 * 1024 + 1))]) rfl rfl ?_
  exact t_e_Scanner_scanNext_136 ht   hD
def e_Scanner_scanNext_39 (n : Nat) (P : Nat → Nat → Nat) (F : Nat → Nat → Int32) (A : Nat → Nat → Nat → Int32) (J : Nat → Nat → Nat → Int64) (x1 : Int32) : Option (Unit × (Nat → Nat → Nat) × (Nat → Nat → Int32) × (Nat → Nat → Nat → Int32) × (Nat → Nat → Nat → Int64)) :=
    (c_st A 37 3 401 x1 (F 37 105)).bind fun A6 =>
    cond (g_cnd .lt (F 37 105) (F 1 1))
    ((m_ld (A6 1 1) 2000 (F 37 105)).bind fun v8 =>
    (e_Scanner_isLetter P F A6 J v8).bind fun v9 =>
    cond (g_cnd .eq v9 0)
    ((e_Scanner_isDigit P F A6 J v8).bind fun v11 =>
    cond (g_cnd .eq v11 0)
    (cond (g_cnd .le v8 0)
    (e_Scanner_scanNext_134 n P F A6 J x1)
    ((e_String_indexOf n P F A6 J ((v8.toUInt32 % 65536).toInt32)).bind fun v14 =>
    cond (g_cnd .lt v14 0)
    (e_Scanner_scanNext_134 n P F A6 J x1)
    (e_Scanner_scanNext_136 n P F A6 J x1 v8)))
    ((e_Scanner_scanDigits n P F A6 J x1).bind fun (_, P17, F18, A19, J20) =>
    some ((), P17, F18, A19, J20)))
    ((e_Scanner_scanLetters n P F A6 J x1).bind fun (_, P22, F23, A24, J25) =>
    some ((), P22, F23, A24, J25)))
    ((c_st A6 37 2 401 x1 102).bind fun A26 =>
    some ((), P, F, A26, J))
set_option maxRecDepth 10000 in
theorem t_e_Scanner_scanNext_39 (ht : ∀ ci k, t.1 ci k = k_ty ci k) {n : Nat}  {P : Nat → Nat → Nat} {F : Nat → Nat → Int32} {A : Nat → Nat → Nat → Int32} {J : Nat → Nat → Nat → Int64} {x1 : Int32}  {w : Unit × (Nat → Nat → Nat) × (Nat → Nat → Int32) × (Nat → Nat → Nat → Int32) × (Nat → Nat → Nat → Int64)} : e_Scanner_scanNext_39 n P F A J x1 = some w → k_run t lg (d + 4) 68 39 [(0, .ref (37 * 1024 + 1)), (1, .int x1), (2, .ref (1 * 1024))] [] (c_h c B P F A J) (none, c_h c B w.2.1 w.2.2.1 w.2.2.2.1 w.2.2.2.2) := by
  intro hD
  unfold e_Scanner_scanNext_39 at hD
  refine k_runB (pc' := 40) (loc' := [(0, .ref (37 * 1024 + 1)), (1, .int x1), (2, .ref (1 * 1024))]) (st' := [.ref (37 * 1024 + 1)]) 1 rfl ?_
  refine k_gf 37 1 (K := 11) rfl rfl rfl rfl rfl ?_
  refine k_runB (pc' := 45) (loc' := [(0, .ref (37 * 1024 + 1)), (1, .int x1), (2, .ref (1 * 1024))]) (st' := [.ref (37 * 1024 + 1), .int x1, .ref (37 * 1024 + 3)]) 2 rfl ?_
  refine k_gf 37 1 (K := 11) rfl rfl rfl rfl rfl ?_
  obtain ⟨A6, hA6, hD⟩ := Option.bind_eq_some_iff.mp hD
  refine k_cstI 37 3 (K := 11) rfl rfl rfl rfl (fun _ => rfl) hA6 ?_
  refine k_runB (pc' := 50) (loc' := [(0, .ref (37 * 1024 + 1)), (1, .int x1), (2, .ref (1 * 1024))]) (st' := [.ref (37 * 1024 + 1)]) 1 rfl ?_
  refine k_gf 37 1 (K := 11) rfl rfl rfl rfl rfl ?_
  refine k_runB (pc' := 54) (loc' := [(0, .ref (37 * 1024 + 1)), (1, .int x1), (2, .ref (1 * 1024))]) (st' := [.ref (1 * 1024), .int (F 37 105)]) 1 rfl ?_
  refine k_gf 1 0 (K := 1) rfl rfl rfl rfl rfl ?_
  refine k_ic rfl (fun c57_6 => ?_) (fun c57_6 => ?_)
  · rw [c57_6, cond_true] at hD
    refine k_runB (pc' := 70) (loc' := [(0, .ref (37 * 1024 + 1)), (1, .int x1), (2, .ref (1 * 1024))]) (st' := [.ref (1 * 1024)]) 1 rfl ?_
    refine k_gf 1 0 (K := 1) rfl rfl rfl rfl rfl ?_
    refine k_runB (pc' := 74) (loc' := [(0, .ref (37 * 1024 + 1)), (1, .int x1), (2, .ref (1 * 1024))]) (st' := [.ref (37 * 1024 + 1), .ref (1 * 1024 + 1)]) 1 rfl ?_
    refine k_gf 37 1 (K := 11) rfl rfl rfl rfl rfl ?_
    obtain ⟨v8, hv8, hD⟩ := Option.bind_eq_some_iff.mp hD
    refine k_ldB rfl (c_get (r := 1) (o := 1) (K := 1) rfl (by decide)) hv8 ?_
    refine k_runB (pc' := 80) (loc' := [(0, .ref (37 * 1024 + 1)), (1, .int x1), (2, .ref (1 * 1024)), (3, .int v8)]) (st' := [.int v8]) 2 rfl ?_
    obtain ⟨v9, hv9, hD⟩ := Option.bind_eq_some_iff.mp hD
    refine k_runC rfl rfl rfl rfl (t_e_Scanner_isLetter (d := d + 3) hv9) ?_
    refine k_if rfl (fun c83_9 => ?_) (fun c83_9 => ?_)
    · rw [c83_9, cond_true] at hD
      refine k_runB (pc' := 96) (loc' := [(0, .ref (37 * 1024 + 1)), (1, .int x1), (2, .ref (1 * 1024)), (3, .int v8)]) (st' := [.int v8]) 1 rfl ?_
      obtain ⟨v11, hv11, hD⟩ := Option.bind_eq_some_iff.mp hD
      refine k_runC rfl rfl rfl rfl (t_e_Scanner_isDigit (d := d + 3) hv11) ?_
      refine k_if rfl (fun c99_11 => ?_) (fun c99_11 => ?_)
      · rw [c99_11, cond_true] at hD
        refine k_runB (pc' := 112) (loc' := [(0, .ref (37 * 1024 + 1)), (1, .int x1), (2, .ref (1 * 1024)), (3, .int v8)]) (st' := [.ref (37 * 1024 + 1)]) 1 rfl ?_
        refine k_gf 37 1 (K := 11) rfl rfl rfl rfl rfl ?_
        refine k_runB (pc' := 117) (loc' := [(0, .ref (37 * 1024 + 1)), (1, .int x1), (2, .ref (1 * 1024)), (3, .int v8)]) (st' := [.int v8, .int x1, .ref (37 * 1024 + 2)]) 2 rfl ?_
        refine k_if rfl (fun c117_12 => ?_) (fun c117_12 => ?_)
        · rw [c117_12, cond_true] at hD
          refine k_wk [0] (loc' := [(0, .ref (37 * 1024 + 1))]) rfl rfl ?_
          exact t_e_Scanner_scanNext_134 ht   hD
        · rw [c117_12, cond_false] at hD
          refine k_runB (pc' := 124) (loc' := [(0, .ref (37 * 1024 + 1)), (1, .int x1), (2, .ref (1 * 1024)), (3, .int v8)]) (st' := [.int ((v8.toUInt32 % 65536).toInt32), .float 2, .int x1, .ref (37 * 1024 + 2)]) 3 rfl ?_
          obtain ⟨v14, hv14, hD⟩ := Option.bind_eq_some_iff.mp hD
          refine k_runC rfl rfl rfl rfl (t_e_String_indexOf (d := d) hv14) ?_
          refine k_if rfl (fun c127_14 => ?_) (fun c127_14 => ?_)
          · rw [c127_14, cond_true] at hD
            refine k_wk [0] (loc' := [(0, .ref (37 * 1024 + 1))]) rfl rfl ?_
            exact t_e_Scanner_scanNext_134 ht   hD
          · rw [c127_14, cond_false] at hD
            refine k_runB (pc' := 136) (loc' := [(0, .ref (37 * 1024 + 1)), (1, .int x1), (2, .ref (1 * 1024)), (3, .int v8)]) (st' := [.int v8, .int x1, .ref (37 * 1024 + 2)]) 2 rfl ?_
            refine k_wk [0] (loc' := [(0, .ref (37 * 1024 + 1))]) rfl rfl ?_
            exact t_e_Scanner_scanNext_136 ht   hD
      · rw [c99_11, cond_false] at hD
        refine k_runB (pc' := 105) (loc' := [(0, .ref (37 * 1024 + 1)), (1, .int x1), (2, .ref (1 * 1024)), (3, .int v8)]) (st' := [.ref (1 * 1024), .int x1, .ref (37 * 1024 + 1)]) 3 rfl ?_
        obtain ⟨⟨v16, P17, F18, A19, J20⟩, hv16, hD⟩ := Option.bind_eq_some_iff.mp hD
        dsimp only at hD
        refine k_runV rfl rfl rfl (c_get (r := 37) (o := 1) (K := 11) rfl (by decide)) rfl rfl (t_e_Scanner_scanDigits (d := d + 2) ht hv16) ?_
        refine k_runB (pc' := 147) (loc' := [(0, .ref (37 * 1024 + 1)), (1, .int x1), (2, .ref (1 * 1024)), (3, .int v8)]) (st' := []) 1 rfl ?_
        cases hD
        exact k_vret rfl rfl
    · rw [c83_9, cond_false] at hD
      refine k_runB (pc' := 89) (loc' := [(0, .ref (37 * 1024 + 1)), (1, .int x1), (2, .ref (1 * 1024)), (3, .int v8)]) (st' := [.ref (1 * 1024), .int x1, .ref (37 * 1024 + 1)]) 3 rfl ?_
      obtain ⟨⟨v21, P22, F23, A24, J25⟩, hv21, hD⟩ := Option.bind_eq_some_iff.mp hD
      dsimp only at hD
      refine k_runV rfl rfl rfl (c_get (r := 37) (o := 1) (K := 11) rfl (by decide)) rfl rfl (t_e_Scanner_scanLetters (d := d + 2) ht hv21) ?_
      refine k_runB (pc' := 147) (loc' := [(0, .ref (37 * 1024 + 1)), (1, .int x1), (2, .ref (1 * 1024)), (3, .int v8)]) (st' := []) 1 rfl ?_
      cases hD
      exact k_vret rfl rfl
  · rw [c57_6, cond_false] at hD
    refine k_runB (pc' := 61) (loc' := [(0, .ref (37 * 1024 + 1)), (1, .int x1), (2, .ref (1 * 1024))]) (st' := [.ref (37 * 1024 + 1)]) 1 rfl ?_
    refine k_gf 37 1 (K := 11) rfl rfl rfl rfl rfl ?_
    refine k_runB (pc' := 67) (loc' := [(0, .ref (37 * 1024 + 1)), (1, .int x1), (2, .ref (1 * 1024))]) (st' := [.int 102, .int x1, .ref (37 * 1024 + 2)]) 2 rfl ?_
    obtain ⟨A26, hA26, hD⟩ := Option.bind_eq_some_iff.mp hD
    refine k_cstI 37 2 (K := 11) rfl rfl rfl rfl (fun _ => rfl) hA26 ?_
    cases hD
    exact k_vret rfl rfl
def e_Scanner_scanNext_0 : Nat → (Nat → Nat → Nat) → (Nat → Nat → Int32) → (Nat → Nat → Nat → Int32) → (Nat → Nat → Nat → Int64) → Int32 → Option (Unit × (Nat → Nat → Nat) × (Nat → Nat → Int32) × (Nat → Nat → Nat → Int32) × (Nat → Nat → Nat → Int64))
  | 0, _, _, _, _, _ => none
  | n + 1, P, F, A, J, x1 => cond (g_cnd .ge (F 37 105) (F 1 1))
    (e_Scanner_scanNext_39 n P F A J x1)
    ((m_ld (A 1 1) 2000 (F 37 105)).bind fun v2 =>
    (e_Scanner_isBlank P F A J v2).bind fun v3 =>
    cond (g_cnd .eq v3 0)
    (e_Scanner_scanNext_39 n P F A J x1)
    ((c_pf F 37 105 ((F 37 105) + 1)).bind fun F5 =>
    (e_Scanner_scanNext_0 n) P F5 A J x1))
set_option maxRecDepth 10000 in
theorem t_e_Scanner_scanNext_0 (ht : ∀ ci k, t.1 ci k = k_ty ci k) {n : Nat}  {P : Nat → Nat → Nat} {F : Nat → Nat → Int32} {A : Nat → Nat → Nat → Int32} {J : Nat → Nat → Nat → Int64} {x1 : Int32}  {w : Unit × (Nat → Nat → Nat) × (Nat → Nat → Int32) × (Nat → Nat → Nat → Int32) × (Nat → Nat → Nat → Int64)} : e_Scanner_scanNext_0 n P F A J x1 = some w → k_run t lg (d + 4) 68 0 [(0, .ref (37 * 1024 + 1)), (1, .int x1), (2, .ref (1 * 1024))] [] (c_h c B P F A J) (none, c_h c B w.2.1 w.2.2.1 w.2.2.2.1 w.2.2.2.2) := by
  induction n generalizing P F A J x1 w with
  | zero => intro hD; cases hD
  | succ n ih =>
    intro hD
    have hK0 : ∀ (P : Nat → Nat → Nat) (F : Nat → Nat → Int32) (A : Nat → Nat → Nat → Int32) (J : Nat → Nat → Nat → Int64) (x1 : Int32) (w : Unit × (Nat → Nat → Nat) × (Nat → Nat → Int32) × (Nat → Nat → Nat → Int32) × (Nat → Nat → Nat → Int64)), e_Scanner_scanNext_0 n P F A J x1 = some w → k_run t lg (d + 4) 68 0 [(0, .ref (37 * 1024 + 1)), (1, .int x1), (2, .ref (1 * 1024))] [] (c_h c B P F A J) (none, c_h c B w.2.1 w.2.2.1 w.2.2.2.1 w.2.2.2.2) := fun _ _ _ _ _ _  h => ih  h
    unfold e_Scanner_scanNext_0 at hD
    refine k_runB (pc' := 1) (loc' := [(0, .ref (37 * 1024 + 1)), (1, .int x1), (2, .ref (1 * 1024))]) (st' := [.ref (37 * 1024 + 1)]) 1 rfl ?_
    refine k_gf 37 1 (K := 11) rfl rfl rfl rfl rfl ?_
    refine k_runB (pc' := 5) (loc' := [(0, .ref (37 * 1024 + 1)), (1, .int x1), (2, .ref (1 * 1024))]) (st' := [.ref (1 * 1024), .int (F 37 105)]) 1 rfl ?_
    refine k_gf 1 0 (K := 1) rfl rfl rfl rfl rfl ?_
    refine k_ic rfl (fun c8_0 => ?_) (fun c8_0 => ?_)
    · rw [c8_0, cond_true] at hD
      refine k_wk [0, 1, 2] (loc' := [(0, .ref (37 * 1024 + 1)), (1, .int x1), (2, .ref (1 * 1024))]) rfl rfl ?_
      exact t_e_Scanner_scanNext_39 ht   hD
    · rw [c8_0, cond_false] at hD
      refine k_runB (pc' := 12) (loc' := [(0, .ref (37 * 1024 + 1)), (1, .int x1), (2, .ref (1 * 1024))]) (st' := [.ref (1 * 1024)]) 1 rfl ?_
      refine k_gf 1 0 (K := 1) rfl rfl rfl rfl rfl ?_
      refine k_runB (pc' := 16) (loc' := [(0, .ref (37 * 1024 + 1)), (1, .int x1), (2, .ref (1 * 1024))]) (st' := [.ref (37 * 1024 + 1), .ref (1 * 1024 + 1)]) 1 rfl ?_
      refine k_gf 37 1 (K := 11) rfl rfl rfl rfl rfl ?_
      obtain ⟨v2, hv2, hD⟩ := Option.bind_eq_some_iff.mp hD
      refine k_ldB rfl (c_get (r := 1) (o := 1) (K := 1) rfl (by decide)) hv2 ?_
      obtain ⟨v3, hv3, hD⟩ := Option.bind_eq_some_iff.mp hD
      refine k_runC rfl rfl rfl rfl (t_e_Scanner_isBlank (d := d + 3) hv3) ?_
      refine k_if rfl (fun c23_3 => ?_) (fun c23_3 => ?_)
      · rw [c23_3, cond_true] at hD
        refine k_wk [0, 1, 2] (loc' := [(0, .ref (37 * 1024 + 1)), (1, .int x1), (2, .ref (1 * 1024))]) rfl rfl ?_
        exact t_e_Scanner_scanNext_39 ht   hD
      · rw [c23_3, cond_false] at hD
        refine k_runB (pc' := 28) (loc' := [(0, .ref (37 * 1024 + 1)), (1, .int x1), (2, .ref (1 * 1024))]) (st' := [.ref (37 * 1024 + 1), .ref (37 * 1024 + 1)]) 2 rfl ?_
        refine k_gf 37 1 (K := 11) rfl rfl rfl rfl rfl ?_
        refine k_runB (pc' := 33) (loc' := [(0, .ref (37 * 1024 + 1)), (1, .int x1), (2, .ref (1 * 1024))]) (st' := [.int ((F 37 105) + 1), .ref (37 * 1024 + 1)]) 2 rfl ?_
        obtain ⟨F5, hF5, hD⟩ := Option.bind_eq_some_iff.mp hD
        refine k_cpt 37 1 (K := 11) (key := 105) rfl rfl (ht 5 5) rfl rfl rfl hF5 ?_
        refine k_runB (pc' := 0) (loc' := [(0, .ref (37 * 1024 + 1)), (1, .int x1), (2, .ref (1 * 1024))]) (st' := []) 1 rfl ?_
        refine k_wk [0, 1, 2] (loc' := [(0, .ref (37 * 1024 + 1)), (1, .int x1), (2, .ref (1 * 1024))]) rfl rfl ?_
        exact hK0 _ _ _ _ _ _  hD
/-- SleepWork$Scanner.scanNext(ILSleepWork$Tape;)V  -/
def e_Scanner_scanNext (n : Nat) (P : Nat → Nat → Nat) (F : Nat → Nat → Int32) (A : Nat → Nat → Nat → Int32) (J : Nat → Nat → Nat → Int64) (x1 : Int32) : Option (Unit × (Nat → Nat → Nat) × (Nat → Nat → Int32) × (Nat → Nat → Nat → Int32) × (Nat → Nat → Nat → Int64)) :=
  e_Scanner_scanNext_0 n P F A J x1
set_option maxRecDepth 10000 in
theorem t_e_Scanner_scanNext (ht : ∀ ci k, t.1 ci k = k_ty ci k) {n : Nat} {P : Nat → Nat → Nat} {F : Nat → Nat → Int32} {A : Nat → Nat → Nat → Int32} {J : Nat → Nat → Nat → Int64} {x1 : Int32}  {w : Unit × (Nat → Nat → Nat) × (Nat → Nat → Int32) × (Nat → Nat → Nat → Int32) × (Nat → Nat → Nat → Int64)} : e_Scanner_scanNext n P F A J x1 = some w → k_run t lg (d + 4) 68 0 [(0, .ref (37 * 1024 + 1)), (1, .int x1), (2, .ref (1 * 1024))] [] (c_h c B P F A J) (none, c_h c B w.2.1 w.2.2.1 w.2.2.2.1 w.2.2.2.2) := by
  intro hD
  unfold e_Scanner_scanNext at hD
  refine k_wk [0, 1, 2] (loc' := [(0, .ref (37 * 1024 + 1)), (1, .int x1), (2, .ref (1 * 1024))]) rfl rfl ?_
  exact t_e_Scanner_scanNext_0 ht   hD
def e_Scanner_scanAll_53 (K9 : (Nat → Nat → Nat) → (Nat → Nat → Int32) → (Nat → Nat → Nat → Int32) → (Nat → Nat → Nat → Int64) → Int32 → Int32 → Option (Unit × (Nat → Nat → Nat) × (Nat → Nat → Int32) × (Nat → Nat → Nat → Int32) × (Nat → Nat → Nat → Int64))) (n : Nat) (P : Nat → Nat → Nat) (F : Nat → Nat → Int32) (A : Nat → Nat → Nat → Int32) (J : Nat → Nat → Nat → Int64) (x3 : Int32) (s0 : Int32) : Option (Unit × (Nat → Nat → Nat) × (Nat → Nat → Int32) × (Nat → Nat → Nat → Int32) × (Nat → Nat → Nat → Int64)) :=
    K9 P F A J s0 (x3 + 1)
set_option maxRecDepth 10000 in
theorem t_e_Scanner_scanAll_53 (ht : ∀ ci k, t.1 ci k = k_ty ci k) {n : Nat} {K9 : (Nat → Nat → Nat) → (Nat → Nat → Int32) → (Nat → Nat → Nat → Int32) → (Nat → Nat → Nat → Int64) → Int32 → Int32 → Option (Unit × (Nat → Nat → Nat) × (Nat → Nat → Int32) × (Nat → Nat → Nat → Int32) × (Nat → Nat → Nat → Int64))} (hK9 : ∀ (P : Nat → Nat → Nat) (F : Nat → Nat → Int32) (A : Nat → Nat → Nat → Int32) (J : Nat → Nat → Nat → Int64) (x2 : Int32) (x3 : Int32) (w : Unit × (Nat → Nat → Nat) × (Nat → Nat → Int32) × (Nat → Nat → Nat → Int32) × (Nat → Nat → Nat → Int64)), K9 P F A J x2 x3 = some w → k_run t lg (d + 5) 67 9 [(0, .ref (37 * 1024 + 1)), (1, .ref (1 * 1024)), (2, .int x2), (3, .int x3)] [] (c_h c B P F A J) (none, c_h c B w.2.1 w.2.2.1 w.2.2.2.1 w.2.2.2.2)) {P : Nat → Nat → Nat} {F : Nat → Nat → Int32} {A : Nat → Nat → Nat → Int32} {J : Nat → Nat → Nat → Int64} {x3 : Int32} {s0 : Int32}  {w : Unit × (Nat → Nat → Nat) × (Nat → Nat → Int32) × (Nat → Nat → Nat → Int32) × (Nat → Nat → Nat → Int64)} : e_Scanner_scanAll_53 K9 n P F A J x3 s0 = some w → k_run t lg (d + 5) 67 53 [(0, .ref (37 * 1024 + 1)), (1, .ref (1 * 1024)), (3, .int x3)] [.int s0] (c_h c B P F A J) (none, c_h c B w.2.1 w.2.2.1 w.2.2.2.1 w.2.2.2.2) := by
  intro hD
  unfold e_Scanner_scanAll_53 at hD
  refine k_runB (pc' := 9) (loc' := [(0, .ref (37 * 1024 + 1)), (1, .ref (1 * 1024)), (2, .int s0), (3, .int (x3 + 1))]) (st' := []) 3 rfl ?_
  refine k_wk [0, 1, 2, 3] (loc' := [(0, .ref (37 * 1024 + 1)), (1, .ref (1 * 1024)), (2, .int s0), (3, .int (x3 + 1))]) rfl rfl ?_
  exact hK9 _ _ _ _ _ _ _  hD
def e_Scanner_scanAll_52 (K9 : (Nat → Nat → Nat) → (Nat → Nat → Int32) → (Nat → Nat → Nat → Int32) → (Nat → Nat → Nat → Int64) → Int32 → Int32 → Option (Unit × (Nat → Nat → Nat) × (Nat → Nat → Int32) × (Nat → Nat → Nat → Int32) × (Nat → Nat → Nat → Int64))) (n : Nat) (P : Nat → Nat → Nat) (F : Nat → Nat → Int32) (A : Nat → Nat → Nat → Int32) (J : Nat → Nat → Nat → Int64) (x3 : Int32) : Option (Unit × (Nat → Nat → Nat) × (Nat → Nat → Int32) × (Nat → Nat → Nat → Int32) × (Nat → Nat → Nat → Int64)) :=
    e_Scanner_scanAll_53 K9 n P F A J x3 0
set_option maxRecDepth 10000 in
theorem t_e_Scanner_scanAll_52 (ht : ∀ ci k, t.1 ci k = k_ty ci k) {n : Nat} {K9 : (Nat → Nat → Nat) → (Nat → Nat → Int32) → (Nat → Nat → Nat → Int32) → (Nat → Nat → Nat → Int64) → Int32 → Int32 → Option (Unit × (Nat → Nat → Nat) × (Nat → Nat → Int32) × (Nat → Nat → Nat → Int32) × (Nat → Nat → Nat → Int64))} (hK9 : ∀ (P : Nat → Nat → Nat) (F : Nat → Nat → Int32) (A : Nat → Nat → Nat → Int32) (J : Nat → Nat → Nat → Int64) (x2 : Int32) (x3 : Int32) (w : Unit × (Nat → Nat → Nat) × (Nat → Nat → Int32) × (Nat → Nat → Nat → Int32) × (Nat → Nat → Nat → Int64)), K9 P F A J x2 x3 = some w → k_run t lg (d + 5) 67 9 [(0, .ref (37 * 1024 + 1)), (1, .ref (1 * 1024)), (2, .int x2), (3, .int x3)] [] (c_h c B P F A J) (none, c_h c B w.2.1 w.2.2.1 w.2.2.2.1 w.2.2.2.2)) {P : Nat → Nat → Nat} {F : Nat → Nat → Int32} {A : Nat → Nat → Nat → Int32} {J : Nat → Nat → Nat → Int64} {x3 : Int32}  {w : Unit × (Nat → Nat → Nat) × (Nat → Nat → Int32) × (Nat → Nat → Nat → Int32) × (Nat → Nat → Nat → Int64)} : e_Scanner_scanAll_52 K9 n P F A J x3 = some w → k_run t lg (d + 5) 67 52 [(0, .ref (37 * 1024 + 1)), (1, .ref (1 * 1024)), (3, .int x3)] [] (c_h c B P F A J) (none, c_h c B w.2.1 w.2.2.1 w.2.2.2.1 w.2.2.2.2) := by
  intro hD
  unfold e_Scanner_scanAll_52 at hD
  refine k_runB (pc' := 53) (loc' := [(0, .ref (37 * 1024 + 1)), (1, .ref (1 * 1024)), (3, .int x3)]) (st' := [.int 0]) 1 rfl ?_
  refine k_wk [0, 1, 3] (loc' := [(0, .ref (37 * 1024 + 1)), (1, .ref (1 * 1024)), (3, .int x3)]) rfl rfl ?_
  exact t_e_Scanner_scanAll_53 ht hK9  hD
def e_Scanner_scanAll_9 : Nat → (Nat → Nat → Nat) → (Nat → Nat → Int32) → (Nat → Nat → Nat → Int32) → (Nat → Nat → Nat → Int64) → Int32 → Int32 → Option (Unit × (Nat → Nat → Nat) × (Nat → Nat → Int32) × (Nat → Nat → Nat → Int32) × (Nat → Nat → Nat → Int64))
  | 0, _, _, _, _, _, _ => none
  | n + 1, P, F, A, J, x2, x3 => cond (g_cnd .gt x3 400)
    (some ((), P, F, A, J))
    (cond (g_cnd .eq x2 0)
    (some ((), P, F, A, J))
    ((e_Scanner_scanNext n P F A J x3).bind fun (_, P5, F6, A7, J8) =>
    (m_ld (A7 37 2) 401 x3).bind fun v9 =>
    cond (g_cnd .eq v9 102)
    (e_Scanner_scanAll_52 (e_Scanner_scanAll_9 n) n P5 F6 A7 J8 x3)
    ((m_ld (A7 37 2) 401 x3).bind fun v11 =>
    cond (g_cnd .eq v11 103)
    (e_Scanner_scanAll_52 (e_Scanner_scanAll_9 n) n P5 F6 A7 J8 x3)
    (e_Scanner_scanAll_53 (e_Scanner_scanAll_9 n) n P5 F6 A7 J8 x3 1))))
set_option maxRecDepth 10000 in
theorem t_e_Scanner_scanAll_9 (ht : ∀ ci k, t.1 ci k = k_ty ci k) {n : Nat}  {P : Nat → Nat → Nat} {F : Nat → Nat → Int32} {A : Nat → Nat → Nat → Int32} {J : Nat → Nat → Nat → Int64} {x2 : Int32} {x3 : Int32}  {w : Unit × (Nat → Nat → Nat) × (Nat → Nat → Int32) × (Nat → Nat → Nat → Int32) × (Nat → Nat → Nat → Int64)} : e_Scanner_scanAll_9 n P F A J x2 x3 = some w → k_run t lg (d + 5) 67 9 [(0, .ref (37 * 1024 + 1)), (1, .ref (1 * 1024)), (2, .int x2), (3, .int x3)] [] (c_h c B P F A J) (none, c_h c B w.2.1 w.2.2.1 w.2.2.2.1 w.2.2.2.2) := by
  induction n generalizing P F A J x2 x3 w with
  | zero => intro hD; cases hD
  | succ n ih =>
    intro hD
    have hK9 : ∀ (P : Nat → Nat → Nat) (F : Nat → Nat → Int32) (A : Nat → Nat → Nat → Int32) (J : Nat → Nat → Nat → Int64) (x2 : Int32) (x3 : Int32) (w : Unit × (Nat → Nat → Nat) × (Nat → Nat → Int32) × (Nat → Nat → Nat → Int32) × (Nat → Nat → Nat → Int64)), e_Scanner_scanAll_9 n P F A J x2 x3 = some w → k_run t lg (d + 5) 67 9 [(0, .ref (37 * 1024 + 1)), (1, .ref (1 * 1024)), (2, .int x2), (3, .int x3)] [] (c_h c B P F A J) (none, c_h c B w.2.1 w.2.2.1 w.2.2.2.1 w.2.2.2.2) := fun _ _ _ _ _ _ _  h => ih  h
    unfold e_Scanner_scanAll_9 at hD
    refine k_runB (pc' := 13) (loc' := [(0, .ref (37 * 1024 + 1)), (1, .ref (1 * 1024)), (2, .int x2), (3, .int x3)]) (st' := [.int 400, .int x3]) 2 rfl ?_
    refine k_ic rfl (fun c13_1 => ?_) (fun c13_1 => ?_)
    · rw [c13_1, cond_true] at hD
      cases hD
      exact k_vret rfl rfl
    · rw [c13_1, cond_false] at hD
      refine k_runB (pc' := 17) (loc' := [(0, .ref (37 * 1024 + 1)), (1, .ref (1 * 1024)), (2, .int x2), (3, .int x3)]) (st' := [.int x2]) 1 rfl ?_
      refine k_if rfl (fun c17_2 => ?_) (fun c17_2 => ?_)
      · rw [c17_2, cond_true] at hD
        cases hD
        exact k_vret rfl rfl
      · rw [c17_2, cond_false] at hD
        refine k_runB (pc' := 23) (loc' := [(0, .ref (37 * 1024 + 1)), (1, .ref (1 * 1024)), (2, .int x2), (3, .int x3)]) (st' := [.ref (1 * 1024), .int x3, .ref (37 * 1024 + 1)]) 3 rfl ?_
        obtain ⟨⟨v4, P5, F6, A7, J8⟩, hv4, hD⟩ := Option.bind_eq_some_iff.mp hD
        dsimp only at hD
        refine k_runV rfl rfl rfl (c_get (r := 37) (o := 1) (K := 11) rfl (by decide)) rfl rfl (t_e_Scanner_scanNext (d := d) ht hv4) ?_
        refine k_runB (pc' := 27) (loc' := [(0, .ref (37 * 1024 + 1)), (1, .ref (1 * 1024)), (2, .int x2), (3, .int x3)]) (st' := [.ref (37 * 1024 + 1)]) 1 rfl ?_
        refine k_gf 37 1 (K := 11) rfl rfl rfl rfl rfl ?_
        refine k_runB (pc' := 31) (loc' := [(0, .ref (37 * 1024 + 1)), (1, .ref (1 * 1024)), (2, .int x2), (3, .int x3)]) (st' := [.int x3, .ref (37 * 1024 + 2)]) 1 rfl ?_
        obtain ⟨v9, hv9, hD⟩ := Option.bind_eq_some_iff.mp hD
        refine k_ldI rfl (c_get (r := 37) (o := 2) (K := 11) rfl (by decide)) hv9 ?_
        refine k_runB (pc' := 34) (loc' := [(0, .ref (37 * 1024 + 1)), (1, .ref (1 * 1024)), (2, .int x2), (3, .int x3)]) (st' := [.int 102, .int v9]) 1 rfl ?_
        refine k_ic rfl (fun c34_9 => ?_) (fun c34_9 => ?_)
        · rw [c34_9, cond_true] at hD
          refine k_wk [0, 1, 3] (loc' := [(0, .ref (37 * 1024 + 1)), (1, .ref (1 * 1024)), (3, .int x3)]) rfl rfl ?_
          exact t_e_Scanner_scanAll_52 ht hK9  hD
        · rw [c34_9, cond_false] at hD
          refine k_runB (pc' := 38) (loc' := [(0, .ref (37 * 1024 + 1)), (1, .ref (1 * 1024)), (2, .int x2), (3, .int x3)]) (st' := [.ref (37 * 1024 + 1)]) 1 rfl ?_
          refine k_gf 37 1 (K := 11) rfl rfl rfl rfl rfl ?_
          refine k_runB (pc' := 42) (loc' := [(0, .ref (37 * 1024 + 1)), (1, .ref (1 * 1024)), (2, .int x2), (3, .int x3)]) (st' := [.int x3, .ref (37 * 1024 + 2)]) 1 rfl ?_
          obtain ⟨v11, hv11, hD⟩ := Option.bind_eq_some_iff.mp hD
          refine k_ldI rfl (c_get (r := 37) (o := 2) (K := 11) rfl (by decide)) hv11 ?_
          refine k_runB (pc' := 45) (loc' := [(0, .ref (37 * 1024 + 1)), (1, .ref (1 * 1024)), (2, .int x2), (3, .int x3)]) (st' := [.int 103, .int v11]) 1 rfl ?_
          refine k_ic rfl (fun c45_11 => ?_) (fun c45_11 => ?_)
          · rw [c45_11, cond_true] at hD
            refine k_wk [0, 1, 3] (loc' := [(0, .ref (37 * 1024 + 1)), (1, .ref (1 * 1024)), (3, .int x3)]) rfl rfl ?_
            exact t_e_Scanner_scanAll_52 ht hK9  hD
          · rw [c45_11, cond_false] at hD
            refine k_runB (pc' := 53) (loc' := [(0, .ref (37 * 1024 + 1)), (1, .ref (1 * 1024)), (2, .int x2), (3, .int x3)]) (st' := [.int 1]) 2 rfl ?_
            refine k_wk [0, 1, 3] (loc' := [(0, .ref (37 * 1024 + 1)), (1, .ref (1 * 1024)), (3, .int x3)]) rfl rfl ?_
            exact t_e_Scanner_scanAll_53 ht hK9  hD
/-- SleepWork$Scanner.scanAll(LSleepWork$Tape;)V  -/
def e_Scanner_scanAll (n : Nat) (P : Nat → Nat → Nat) (F : Nat → Nat → Int32) (A : Nat → Nat → Nat → Int32) (J : Nat → Nat → Nat → Int64) : Option (Unit × (Nat → Nat → Nat) × (Nat → Nat → Int32) × (Nat → Nat → Nat → Int32) × (Nat → Nat → Nat → Int64)) :=
  (c_pf F 37 105 0).bind fun F1 =>
  e_Scanner_scanAll_9 n P F1 A J 1 0
set_option maxRecDepth 10000 in
theorem t_e_Scanner_scanAll (ht : ∀ ci k, t.1 ci k = k_ty ci k) {n : Nat} {P : Nat → Nat → Nat} {F : Nat → Nat → Int32} {A : Nat → Nat → Nat → Int32} {J : Nat → Nat → Nat → Int64}   {w : Unit × (Nat → Nat → Nat) × (Nat → Nat → Int32) × (Nat → Nat → Nat → Int32) × (Nat → Nat → Nat → Int64)} : e_Scanner_scanAll n P F A J = some w → k_run t lg (d + 5) 67 0 [(0, .ref (37 * 1024 + 1)), (1, .ref (1 * 1024))] [] (c_h c B P F A J) (none, c_h c B w.2.1 w.2.2.1 w.2.2.2.1 w.2.2.2.2) := by
  intro hD
  unfold e_Scanner_scanAll at hD
  refine k_runB (pc' := 2) (loc' := [(0, .ref (37 * 1024 + 1)), (1, .ref (1 * 1024))]) (st' := [.int 0, .ref (37 * 1024 + 1)]) 2 rfl ?_
  obtain ⟨F1, hF1, hD⟩ := Option.bind_eq_some_iff.mp hD
  refine k_cpt 37 1 (K := 11) (key := 105) rfl rfl (ht 5 5) rfl rfl rfl hF1 ?_
  refine k_runB (pc' := 9) (loc' := [(0, .ref (37 * 1024 + 1)), (1, .ref (1 * 1024)), (2, .int 1), (3, .int 0)]) (st' := []) 4 rfl ?_
  refine k_wk [0, 1, 2, 3] (loc' := [(0, .ref (37 * 1024 + 1)), (1, .ref (1 * 1024)), (2, .int 1), (3, .int 0)]) rfl rfl ?_
  exact t_e_Scanner_scanAll_9 ht   hD
/-- SleepWork$Reader.open(LSleepWork$Tape;LSleepWork$House;LSleepWork$State;)V  -/
def e_Reader_open (n : Nat) (P : Nat → Nat → Nat) (F : Nat → Nat → Int32) (A : Nat → Nat → Nat → Int32) (J : Nat → Nat → Nat → Int64) (r2 : Nat) (r3 : Nat) : Option (Unit × (Nat → Nat → Nat) × (Nat → Nat → Int32) × (Nat → Nat → Nat → Int32) × (Nat → Nat → Nat → Int64)) :=
  (c_pp P 37 5 r2).bind fun P1 =>
  (c_pp P1 37 6 r3).bind fun P2 =>
  (c_chk 6 (P2 37 5)).bind fun q3 =>
  (e_House_clear P2 F A J q3).bind fun (_, P5, F6, A7, J8) =>
  (c_chk 2 (P5 37 6)).bind fun q9 =>
  (e_State_clear P5 F6 A7 J8 q9).bind fun (_, P11, F12, A13, J14) =>
  (c_pf F12 37 7 0).bind fun F15 =>
  (c_pf F15 37 8 0).bind fun F16 =>
  (c_pf F16 37 9 0).bind fun F17 =>
  (c_pf F17 37 10 0).bind fun F18 =>
  (c_pf F18 37 12 0).bind fun F19 =>
  (e_Scanner_scanAll n P11 F19 A13 J14).bind fun (_, P21, F22, A23, J24) =>
  some ((), P21, F22, A23, J24)
set_option maxRecDepth 10000 in
theorem t_e_Reader_open (ht : ∀ ci k, t.1 ci k = k_ty ci k) {n : Nat} {P : Nat → Nat → Nat} {F : Nat → Nat → Int32} {A : Nat → Nat → Nat → Int32} {J : Nat → Nat → Nat → Int64} {r2 : Nat} {r3 : Nat} (hr2 : c_kind r2 = 6) (hr3 : c_kind r3 = 2) {w : Unit × (Nat → Nat → Nat) × (Nat → Nat → Int32) × (Nat → Nat → Nat → Int32) × (Nat → Nat → Nat → Int64)} : e_Reader_open n P F A J r2 r3 = some w → k_run t lg (d + 6) 41 0 [(0, .ref (37 * 1024)), (1, .ref (1 * 1024)), (2, .ref (r2 * 1024)), (3, .ref (r3 * 1024))] [] (c_h c B P F A J) (none, c_h c B w.2.1 w.2.2.1 w.2.2.2.1 w.2.2.2.2) := by
  intro hD
  unfold e_Reader_open at hD
  refine k_runB (pc' := 2) (loc' := [(0, .ref (37 * 1024)), (1, .ref (1 * 1024)), (2, .ref (r2 * 1024)), (3, .ref (r3 * 1024))]) (st' := [.ref (r2 * 1024), .ref (37 * 1024)]) 2 rfl ?_
  obtain ⟨P1, hP1, hD⟩ := Option.bind_eq_some_iff.mp hD
  refine k_cpp 37 0 (K := 11) (key := 5) (C := "SleepWork$House") (q := r2) rfl rfl (ht 4 5) rfl rfl rfl hP1 ?_
  refine k_runB (pc' := 7) (loc' := [(0, .ref (37 * 1024)), (1, .ref (1 * 1024)), (2, .ref (r2 * 1024)), (3, .ref (r3 * 1024))]) (st' := [.ref (r3 * 1024), .ref (37 * 1024)]) 2 rfl ?_
  obtain ⟨P2, hP2, hD⟩ := Option.bind_eq_some_iff.mp hD
  refine k_cpp 37 0 (K := 11) (key := 6) (C := "SleepWork$State") (q := r3) rfl rfl (ht 4 6) rfl rfl rfl hP2 ?_
  refine k_runB (pc' := 11) (loc' := [(0, .ref (37 * 1024)), (1, .ref (1 * 1024)), (2, .ref (r2 * 1024)), (3, .ref (r3 * 1024))]) (st' := [.ref (37 * 1024)]) 1 rfl ?_
  obtain ⟨q3, hq3, hD⟩ := Option.bind_eq_some_iff.mp hD
  refine k_gq 37 0 (K := 11) (K2 := 6) (key := 5) rfl rfl rfl rfl rfl hq3 (fun kq3 => ?_)
  obtain ⟨⟨v4, P5, F6, A7, J8⟩, hv4, hD⟩ := Option.bind_eq_some_iff.mp hD
  dsimp only at hD
  refine k_runV rfl rfl rfl (c_get (r := q3) (o := 0) (K := 6) kq3 (by decide)) rfl rfl (t_e_House_clear (d := d + 3) ht kq3 hv4) ?_
  refine k_runB (pc' := 18) (loc' := [(0, .ref (37 * 1024)), (1, .ref (1 * 1024)), (2, .ref (r2 * 1024)), (3, .ref (r3 * 1024))]) (st' := [.ref (37 * 1024)]) 1 rfl ?_
  obtain ⟨q9, hq9, hD⟩ := Option.bind_eq_some_iff.mp hD
  refine k_gq 37 0 (K := 11) (K2 := 2) (key := 6) rfl rfl rfl rfl rfl hq9 (fun kq9 => ?_)
  obtain ⟨⟨v10, P11, F12, A13, J14⟩, hv10, hD⟩ := Option.bind_eq_some_iff.mp hD
  dsimp only at hD
  refine k_runV rfl rfl rfl (c_get (r := q9) (o := 0) (K := 2) kq9 (by decide)) rfl rfl (t_e_State_clear (d := d + 4) ht kq9 hv10) ?_
  refine k_runB (pc' := 26) (loc' := [(0, .ref (37 * 1024)), (1, .ref (1 * 1024)), (2, .ref (r2 * 1024)), (3, .ref (r3 * 1024))]) (st' := [.int 0, .ref (37 * 1024)]) 2 rfl ?_
  obtain ⟨F15, hF15, hD⟩ := Option.bind_eq_some_iff.mp hD
  refine k_cpt 37 0 (K := 11) (key := 7) rfl rfl (ht 4 7) rfl rfl rfl hF15 ?_
  refine k_runB (pc' := 31) (loc' := [(0, .ref (37 * 1024)), (1, .ref (1 * 1024)), (2, .ref (r2 * 1024)), (3, .ref (r3 * 1024))]) (st' := [.int 0, .ref (37 * 1024)]) 2 rfl ?_
  obtain ⟨F16, hF16, hD⟩ := Option.bind_eq_some_iff.mp hD
  refine k_cpt 37 0 (K := 11) (key := 8) rfl rfl (ht 4 8) rfl rfl rfl hF16 ?_
  refine k_runB (pc' := 36) (loc' := [(0, .ref (37 * 1024)), (1, .ref (1 * 1024)), (2, .ref (r2 * 1024)), (3, .ref (r3 * 1024))]) (st' := [.int 0, .ref (37 * 1024)]) 2 rfl ?_
  obtain ⟨F17, hF17, hD⟩ := Option.bind_eq_some_iff.mp hD
  refine k_cpt 37 0 (K := 11) (key := 9) rfl rfl (ht 4 9) rfl rfl rfl hF17 ?_
  refine k_runB (pc' := 41) (loc' := [(0, .ref (37 * 1024)), (1, .ref (1 * 1024)), (2, .ref (r2 * 1024)), (3, .ref (r3 * 1024))]) (st' := [.int 0, .ref (37 * 1024)]) 2 rfl ?_
  obtain ⟨F18, hF18, hD⟩ := Option.bind_eq_some_iff.mp hD
  refine k_cpt 37 0 (K := 11) (key := 10) rfl rfl (ht 4 10) rfl rfl rfl hF18 ?_
  refine k_runB (pc' := 46) (loc' := [(0, .ref (37 * 1024)), (1, .ref (1 * 1024)), (2, .ref (r2 * 1024)), (3, .ref (r3 * 1024))]) (st' := [.int 0, .ref (37 * 1024)]) 2 rfl ?_
  obtain ⟨F19, hF19, hD⟩ := Option.bind_eq_some_iff.mp hD
  refine k_cpt 37 0 (K := 11) (key := 12) rfl rfl (ht 4 12) rfl rfl rfl hF19 ?_
  refine k_runB (pc' := 50) (loc' := [(0, .ref (37 * 1024)), (1, .ref (1 * 1024)), (2, .ref (r2 * 1024)), (3, .ref (r3 * 1024))]) (st' := [.ref (37 * 1024)]) 1 rfl ?_
  refine k_gf 37 0 (K := 11) rfl rfl rfl rfl rfl ?_
  refine k_runB (pc' := 54) (loc' := [(0, .ref (37 * 1024)), (1, .ref (1 * 1024)), (2, .ref (r2 * 1024)), (3, .ref (r3 * 1024))]) (st' := [.ref (1 * 1024), .ref (37 * 1024 + 1)]) 1 rfl ?_
  obtain ⟨⟨v20, P21, F22, A23, J24⟩, hv20, hD⟩ := Option.bind_eq_some_iff.mp hD
  dsimp only at hD
  refine k_runV rfl rfl rfl (c_get (r := 37) (o := 1) (K := 11) rfl (by decide)) rfl rfl (t_e_Scanner_scanAll (d := d) ht hv20) ?_
  cases hD
  exact k_vret rfl rfl
end MC
