/-! the class's methods as functions (printed by wip/dec2.py) -/
section MC
variable {t : gT} {lg : Nat → Nat} {d : Nat} {c : Nat × Nat} {B : Nat → List gE}
def e_Scanner_scanLetters_121 (n : Nat) (P : Nat → Nat → Nat) (F : Nat → Nat → Int32) (A : Nat → Nat → Nat → Int32) (J : Nat → Nat → Nat → Int64) (x1 : Int32) (x3 : Int64) (x5 : Int32) : Option (Unit × (Nat → Nat → Nat) × (Nat → Nat → Int32) × (Nat → Nat → Nat → Int32) × (Nat → Nat → Nat → Int64)) :=
    (c_stJ J 37 5 401 x1 x3).bind fun J13 =>
    (c_st A 37 2 401 x1 x5).bind fun A14 =>
    some ((), P, F, A14, J13)
set_option maxRecDepth 10000 in
theorem t_e_Scanner_scanLetters_121 (ht : ∀ ci k, t.1 ci k = k_ty ci k) {n : Nat}  {P : Nat → Nat → Nat} {F : Nat → Nat → Int32} {A : Nat → Nat → Nat → Int32} {J : Nat → Nat → Nat → Int64} {x1 : Int32} {x3 : Int64} {x5 : Int32}  {w : Unit × (Nat → Nat → Nat) × (Nat → Nat → Int32) × (Nat → Nat → Nat → Int32) × (Nat → Nat → Nat → Int64)} : e_Scanner_scanLetters_121 n P F A J x1 x3 x5 = some w → k_run t lg (d + 1) 69 121 [(0, .ref (37 * 1024 + 1)), (1, .int x1), (3, .long (x3)), (5, .int x5)] [] (c_h c B P F A J) (none, c_h c B w.2.1 w.2.2.1 w.2.2.2.1 w.2.2.2.2) := by
  intro hD
  unfold e_Scanner_scanLetters_121 at hD
  refine k_runB (pc' := 122) (loc' := [(0, .ref (37 * 1024 + 1)), (1, .int x1), (3, .long (x3)), (5, .int x5)]) (st' := [.ref (37 * 1024 + 1)]) 1 rfl ?_
  refine k_gf 37 1 (K := 11) rfl rfl rfl rfl rfl ?_
  refine k_runB (pc' := 127) (loc' := [(0, .ref (37 * 1024 + 1)), (1, .int x1), (3, .long (x3)), (5, .int x5)]) (st' := [.long (x3), .int x1, .ref (37 * 1024 + 5)]) 2 rfl ?_
  obtain ⟨J13, hJ13, hD⟩ := Option.bind_eq_some_iff.mp hD
  refine k_cstL 37 5 (K := 11) rfl rfl rfl rfl (fun _ => rfl) hJ13 ?_
  refine k_runB (pc' := 129) (loc' := [(0, .ref (37 * 1024 + 1)), (1, .int x1), (3, .long (x3)), (5, .int x5)]) (st' := [.ref (37 * 1024 + 1)]) 1 rfl ?_
  refine k_gf 37 1 (K := 11) rfl rfl rfl rfl rfl ?_
  refine k_runB (pc' := 135) (loc' := [(0, .ref (37 * 1024 + 1)), (1, .int x1), (3, .long (x3)), (5, .int x5)]) (st' := [.int x5, .int x1, .ref (37 * 1024 + 2)]) 2 rfl ?_
  obtain ⟨A14, hA14, hD⟩ := Option.bind_eq_some_iff.mp hD
  refine k_cstI 37 2 (K := 11) rfl rfl rfl rfl (fun _ => rfl) hA14 ?_
  cases hD
  exact k_vret rfl rfl
def e_Scanner_scanLetters_115 (K85 : (Nat → Nat → Nat) → (Nat → Nat → Int32) → (Nat → Nat → Nat → Int32) → (Nat → Nat → Nat → Int64) → Int32 → Int64 → Int32 → Int32 → Option (Unit × (Nat → Nat → Nat) × (Nat → Nat → Int32) × (Nat → Nat → Nat → Int32) × (Nat → Nat → Nat → Int64))) (n : Nat) (P : Nat → Nat → Nat) (F : Nat → Nat → Int32) (A : Nat → Nat → Nat → Int32) (J : Nat → Nat → Nat → Int64) (x1 : Int32) (x3 : Int64) (x5 : Int32) (x6 : Int32) : Option (Unit × (Nat → Nat → Nat) × (Nat → Nat → Int32) × (Nat → Nat → Nat → Int32) × (Nat → Nat → Nat → Int64)) :=
    K85 P F A J x1 x3 x5 (x6 + 1)
set_option maxRecDepth 10000 in
theorem t_e_Scanner_scanLetters_115 (ht : ∀ ci k, t.1 ci k = k_ty ci k) {n : Nat} {K85 : (Nat → Nat → Nat) → (Nat → Nat → Int32) → (Nat → Nat → Nat → Int32) → (Nat → Nat → Nat → Int64) → Int32 → Int64 → Int32 → Int32 → Option (Unit × (Nat → Nat → Nat) × (Nat → Nat → Int32) × (Nat → Nat → Nat → Int32) × (Nat → Nat → Nat → Int64))} (hK85 : ∀ (P : Nat → Nat → Nat) (F : Nat → Nat → Int32) (A : Nat → Nat → Nat → Int32) (J : Nat → Nat → Nat → Int64) (x1 : Int32) (x3 : Int64) (x5 : Int32) (x6 : Int32) (w : Unit × (Nat → Nat → Nat) × (Nat → Nat → Int32) × (Nat → Nat → Nat → Int32) × (Nat → Nat → Nat → Int64)), K85 P F A J x1 x3 x5 x6 = some w → k_run t lg (d + 1) 69 85 [(0, .ref (37 * 1024 + 1)), (1, .int x1), (3, .long (x3)), (5, .int x5), (6, .int x6)] [] (c_h c B P F A J) (none, c_h c B w.2.1 w.2.2.1 w.2.2.2.1 w.2.2.2.2)) {P : Nat → Nat → Nat} {F : Nat → Nat → Int32} {A : Nat → Nat → Nat → Int32} {J : Nat → Nat → Nat → Int64} {x1 : Int32} {x3 : Int64} {x5 : Int32} {x6 : Int32}  {w : Unit × (Nat → Nat → Nat) × (Nat → Nat → Int32) × (Nat → Nat → Nat → Int32) × (Nat → Nat → Nat → Int64)} : e_Scanner_scanLetters_115 K85 n P F A J x1 x3 x5 x6 = some w → k_run t lg (d + 1) 69 115 [(0, .ref (37 * 1024 + 1)), (1, .int x1), (3, .long (x3)), (5, .int x5), (6, .int x6)] [] (c_h c B P F A J) (none, c_h c B w.2.1 w.2.2.1 w.2.2.2.1 w.2.2.2.2) := by
  intro hD
  unfold e_Scanner_scanLetters_115 at hD
  refine k_runB (pc' := 85) (loc' := [(0, .ref (37 * 1024 + 1)), (1, .int x1), (3, .long (x3)), (5, .int x5), (6, .int (x6 + 1))]) (st' := []) 2 rfl ?_
  refine k_wk [0, 1, 3, 5, 6] (loc' := [(0, .ref (37 * 1024 + 1)), (1, .int x1), (3, .long (x3)), (5, .int x5), (6, .int (x6 + 1))]) rfl rfl ?_
  exact hK85 _ _ _ _ _ _ _ _ _  hD
def e_Scanner_scanLetters_85 : Nat → (Nat → Nat → Nat) → (Nat → Nat → Int32) → (Nat → Nat → Nat → Int32) → (Nat → Nat → Nat → Int64) → Int32 → Int64 → Int32 → Int32 → Option (Unit × (Nat → Nat → Nat) × (Nat → Nat → Int32) × (Nat → Nat → Nat → Int32) × (Nat → Nat → Nat → Int64))
  | 0, _, _, _, _, _, _, _, _ => none
  | n + 1, P, F, A, J, x1, x3, x5, x6 => cond (g_cnd .ge x6 21)
    (e_Scanner_scanLetters_121 n P F A J x1 x3 x5)
    (cond (g_cnd .ne x5 100)
    (e_Scanner_scanLetters_121 n P F A J x1 x3 x5)
    ((m_ldJ (J 37 6) 21 x6).bind fun v11 =>
    cond (g_cnd .ne (lg_cmp v11 x3) 0)
    (e_Scanner_scanLetters_115 (e_Scanner_scanLetters_85 n) n P F A J x1 x3 x5 x6)
    (e_Scanner_scanLetters_115 (e_Scanner_scanLetters_85 n) n P F A J x1 x3 x6 x6)))
set_option maxRecDepth 10000 in
theorem t_e_Scanner_scanLetters_85 (ht : ∀ ci k, t.1 ci k = k_ty ci k) {n : Nat}  {P : Nat → Nat → Nat} {F : Nat → Nat → Int32} {A : Nat → Nat → Nat → Int32} {J : Nat → Nat → Nat → Int64} {x1 : Int32} {x3 : Int64} {x5 : Int32} {x6 : Int32}  {w : Unit × (Nat → Nat → Nat) × (Nat → Nat → Int32) × (Nat → Nat → Nat → Int32) × (Nat → Nat → Nat → Int64)} : e_Scanner_scanLetters_85 n P F A J x1 x3 x5 x6 = some w → k_run t lg (d + 1) 69 85 [(0, .ref (37 * 1024 + 1)), (1, .int x1), (3, .long (x3)), (5, .int x5), (6, .int x6)] [] (c_h c B P F A J) (none, c_h c B w.2.1 w.2.2.1 w.2.2.2.1 w.2.2.2.2) := by
  induction n generalizing P F A J x1 x3 x5 x6 w with
  | zero => intro hD; cases hD
  | succ n ih =>
    intro hD
    have hK85 : ∀ (P : Nat → Nat → Nat) (F : Nat → Nat → Int32) (A : Nat → Nat → Nat → Int32) (J : Nat → Nat → Nat → Int64) (x1 : Int32) (x3 : Int64) (x5 : Int32) (x6 : Int32) (w : Unit × (Nat → Nat → Nat) × (Nat → Nat → Int32) × (Nat → Nat → Nat → Int32) × (Nat → Nat → Nat → Int64)), e_Scanner_scanLetters_85 n P F A J x1 x3 x5 x6 = some w → k_run t lg (d + 1) 69 85 [(0, .ref (37 * 1024 + 1)), (1, .int x1), (3, .long (x3)), (5, .int x5), (6, .int x6)] [] (c_h c B P F A J) (none, c_h c B w.2.1 w.2.2.1 w.2.2.2.1 w.2.2.2.2) := fun _ _ _ _ _ _ _ _ _  h => ih  h
    unfold e_Scanner_scanLetters_85 at hD
    refine k_runB (pc' := 89) (loc' := [(0, .ref (37 * 1024 + 1)), (1, .int x1), (3, .long (x3)), (5, .int x5), (6, .int x6)]) (st' := [.int 21, .int x6]) 2 rfl ?_
    refine k_ic rfl (fun c89_8 => ?_) (fun c89_8 => ?_)
    · rw [c89_8, cond_true] at hD
      refine k_wk [0, 1, 3, 5] (loc' := [(0, .ref (37 * 1024 + 1)), (1, .int x1), (3, .long (x3)), (5, .int x5)]) rfl rfl ?_
      exact t_e_Scanner_scanLetters_121 ht   hD
    · rw [c89_8, cond_false] at hD
      refine k_runB (pc' := 96) (loc' := [(0, .ref (37 * 1024 + 1)), (1, .int x1), (3, .long (x3)), (5, .int x5), (6, .int x6)]) (st' := [.int 100, .int x5]) 2 rfl ?_
      refine k_ic rfl (fun c96_9 => ?_) (fun c96_9 => ?_)
      · rw [c96_9, cond_true] at hD
        refine k_wk [0, 1, 3, 5] (loc' := [(0, .ref (37 * 1024 + 1)), (1, .int x1), (3, .long (x3)), (5, .int x5)]) rfl rfl ?_
        exact t_e_Scanner_scanLetters_121 ht   hD
      · rw [c96_9, cond_false] at hD
        refine k_runB (pc' := 100) (loc' := [(0, .ref (37 * 1024 + 1)), (1, .int x1), (3, .long (x3)), (5, .int x5), (6, .int x6)]) (st' := [.ref (37 * 1024 + 1)]) 1 rfl ?_
        refine k_gf 37 1 (K := 11) rfl rfl rfl rfl rfl ?_
        refine k_runB (pc' := 105) (loc' := [(0, .ref (37 * 1024 + 1)), (1, .int x1), (3, .long (x3)), (5, .int x5), (6, .int x6)]) (st' := [.int x6, .ref (37 * 1024 + 6)]) 1 rfl ?_
        obtain ⟨v11, hv11, hD⟩ := Option.bind_eq_some_iff.mp hD
        refine k_ldL rfl (c_get (r := 37) (o := 6) (K := 11) rfl (by decide)) hv11 ?_
        refine k_runB (pc' := 108) (loc' := [(0, .ref (37 * 1024 + 1)), (1, .int x1), (3, .long (x3)), (5, .int x5), (6, .int x6)]) (st' := [.int (lg_cmp v11 x3)]) 2 rfl ?_
        refine k_if rfl (fun c108_11 => ?_) (fun c108_11 => ?_)
        · rw [c108_11, cond_true] at hD
          refine k_wk [0, 1, 3, 5, 6] (loc' := [(0, .ref (37 * 1024 + 1)), (1, .int x1), (3, .long (x3)), (5, .int x5), (6, .int x6)]) rfl rfl ?_
          exact t_e_Scanner_scanLetters_115 ht hK85  hD
        · rw [c108_11, cond_false] at hD
          refine k_runB (pc' := 115) (loc' := [(0, .ref (37 * 1024 + 1)), (1, .int x1), (3, .long (x3)), (5, .int x6), (6, .int x6)]) (st' := []) 2 rfl ?_
          refine k_wk [0, 1, 3, 5, 6] (loc' := [(0, .ref (37 * 1024 + 1)), (1, .int x1), (3, .long (x3)), (5, .int x6), (6, .int x6)]) rfl rfl ?_
          exact t_e_Scanner_scanLetters_115 ht hK85  hD
def e_Scanner_scanLetters_80 (n : Nat) (P : Nat → Nat → Nat) (F : Nat → Nat → Int32) (A : Nat → Nat → Nat → Int32) (J : Nat → Nat → Nat → Int64) (x1 : Int32) (x3 : Int64) (s0 : Int32) : Option (Unit × (Nat → Nat → Nat) × (Nat → Nat → Int32) × (Nat → Nat → Nat → Int32) × (Nat → Nat → Nat → Int64)) :=
    e_Scanner_scanLetters_85 n P F A J x1 x3 s0 0
set_option maxRecDepth 10000 in
theorem t_e_Scanner_scanLetters_80 (ht : ∀ ci k, t.1 ci k = k_ty ci k) {n : Nat}  {P : Nat → Nat → Nat} {F : Nat → Nat → Int32} {A : Nat → Nat → Nat → Int32} {J : Nat → Nat → Nat → Int64} {x1 : Int32} {x3 : Int64} {s0 : Int32}  {w : Unit × (Nat → Nat → Nat) × (Nat → Nat → Int32) × (Nat → Nat → Nat → Int32) × (Nat → Nat → Nat → Int64)} : e_Scanner_scanLetters_80 n P F A J x1 x3 s0 = some w → k_run t lg (d + 1) 69 80 [(0, .ref (37 * 1024 + 1)), (1, .int x1), (3, .long (x3))] [.int s0] (c_h c B P F A J) (none, c_h c B w.2.1 w.2.2.1 w.2.2.2.1 w.2.2.2.2) := by
  intro hD
  unfold e_Scanner_scanLetters_80 at hD
  refine k_runB (pc' := 85) (loc' := [(0, .ref (37 * 1024 + 1)), (1, .int x1), (3, .long (x3)), (5, .int s0), (6, .int 0)]) (st' := []) 3 rfl ?_
  refine k_wk [0, 1, 3, 5, 6] (loc' := [(0, .ref (37 * 1024 + 1)), (1, .int x1), (3, .long (x3)), (5, .int s0), (6, .int 0)]) rfl rfl ?_
  exact t_e_Scanner_scanLetters_85 ht   hD
def e_Scanner_scanLetters_57 (n : Nat) (P : Nat → Nat → Nat) (F : Nat → Nat → Int32) (A : Nat → Nat → Nat → Int32) (J : Nat → Nat → Nat → Int64) (x1 : Int32) (x3 : Int64) : Option (Unit × (Nat → Nat → Nat) × (Nat → Nat → Int32) × (Nat → Nat → Nat → Int32) × (Nat → Nat → Nat → Int64)) :=
    (m_ld (A 37 3) 401 x1).bind fun v7 =>
    cond (g_cnd .le ((F 37 105) - v7) 8)
    (e_Scanner_scanLetters_80 n P F A J x1 x3 100)
    (e_Scanner_scanLetters_80 n P F A J x1 x3 103)
set_option maxRecDepth 10000 in
theorem t_e_Scanner_scanLetters_57 (ht : ∀ ci k, t.1 ci k = k_ty ci k) {n : Nat}  {P : Nat → Nat → Nat} {F : Nat → Nat → Int32} {A : Nat → Nat → Nat → Int32} {J : Nat → Nat → Nat → Int64} {x1 : Int32} {x3 : Int64}  {w : Unit × (Nat → Nat → Nat) × (Nat → Nat → Int32) × (Nat → Nat → Nat → Int32) × (Nat → Nat → Nat → Int64)} : e_Scanner_scanLetters_57 n P F A J x1 x3 = some w → k_run t lg (d + 1) 69 57 [(0, .ref (37 * 1024 + 1)), (1, .int x1), (3, .long (x3))] [] (c_h c B P F A J) (none, c_h c B w.2.1 w.2.2.1 w.2.2.2.1 w.2.2.2.2) := by
  intro hD
  unfold e_Scanner_scanLetters_57 at hD
  refine k_runB (pc' := 58) (loc' := [(0, .ref (37 * 1024 + 1)), (1, .int x1), (3, .long (x3))]) (st' := [.ref (37 * 1024 + 1)]) 1 rfl ?_
  refine k_gf 37 1 (K := 11) rfl rfl rfl rfl rfl ?_
  refine k_runB (pc' := 62) (loc' := [(0, .ref (37 * 1024 + 1)), (1, .int x1), (3, .long (x3))]) (st' := [.ref (37 * 1024 + 1), .int (F 37 105)]) 1 rfl ?_
  refine k_gf 37 1 (K := 11) rfl rfl rfl rfl rfl ?_
  refine k_runB (pc' := 66) (loc' := [(0, .ref (37 * 1024 + 1)), (1, .int x1), (3, .long (x3))]) (st' := [.int x1, .ref (37 * 1024 + 3), .int (F 37 105)]) 1 rfl ?_
  obtain ⟨v7, hv7, hD⟩ := Option.bind_eq_some_iff.mp hD
  refine k_ldI rfl (c_get (r := 37) (o := 3) (K := 11) rfl (by decide)) hv7 ?_
  refine k_runB (pc' := 70) (loc' := [(0, .ref (37 * 1024 + 1)), (1, .int x1), (3, .long (x3))]) (st' := [.int 8, .int ((F 37 105) - v7)]) 2 rfl ?_
  refine k_ic rfl (fun c70_7 => ?_) (fun c70_7 => ?_)
  · rw [c70_7, cond_true] at hD
    refine k_runB (pc' := 80) (loc' := [(0, .ref (37 * 1024 + 1)), (1, .int x1), (3, .long (x3))]) (st' := [.int 100]) 1 rfl ?_
    refine k_wk [0, 1, 3] (loc' := [(0, .ref (37 * 1024 + 1)), (1, .int x1), (3, .long (x3))]) rfl rfl ?_
    exact t_e_Scanner_scanLetters_80 ht   hD
  · rw [c70_7, cond_false] at hD
    refine k_runB (pc' := 80) (loc' := [(0, .ref (37 * 1024 + 1)), (1, .int x1), (3, .long (x3))]) (st' := [.int 103]) 2 rfl ?_
    refine k_wk [0, 1, 3] (loc' := [(0, .ref (37 * 1024 + 1)), (1, .int x1), (3, .long (x3))]) rfl rfl ?_
    exact t_e_Scanner_scanLetters_80 ht   hD
def e_Scanner_scanLetters_2 : Nat → (Nat → Nat → Nat) → (Nat → Nat → Int32) → (Nat → Nat → Nat → Int32) → (Nat → Nat → Nat → Int64) → Int32 → Int64 → Option (Unit × (Nat → Nat → Nat) × (Nat → Nat → Int32) × (Nat → Nat → Nat → Int32) × (Nat → Nat → Nat → Int64))
  | 0, _, _, _, _, _, _ => none
  | n + 1, P, F, A, J, x1, x3 => cond (g_cnd .ge (F 37 105) (F 1 1))
    (e_Scanner_scanLetters_57 n P F A J x1 x3)
    ((m_ld (A 1 1) 2000 (F 37 105)).bind fun v2 =>
    (e_Scanner_isLetter P F A J v2).bind fun v3 =>
    cond (g_cnd .eq v3 0)
    (e_Scanner_scanLetters_57 n P F A J x1 x3)
    ((m_ld (A 1 1) 2000 (F 37 105)).bind fun v5 =>
    (c_pf F 37 105 ((F 37 105) + 1)).bind fun F6 =>
    (e_Scanner_scanLetters_2 n) P F6 A J x1 ((x3 <<< ((8 : Int32).toInt64 &&& 63)) ||| v5.toInt64)))
set_option maxRecDepth 10000 in
theorem t_e_Scanner_scanLetters_2 (ht : ∀ ci k, t.1 ci k = k_ty ci k) {n : Nat}  {P : Nat → Nat → Nat} {F : Nat → Nat → Int32} {A : Nat → Nat → Nat → Int32} {J : Nat → Nat → Nat → Int64} {x1 : Int32} {x3 : Int64}  {w : Unit × (Nat → Nat → Nat) × (Nat → Nat → Int32) × (Nat → Nat → Nat → Int32) × (Nat → Nat → Nat → Int64)} : e_Scanner_scanLetters_2 n P F A J x1 x3 = some w → k_run t lg (d + 1) 69 2 [(0, .ref (37 * 1024 + 1)), (1, .int x1), (2, .ref (1 * 1024)), (3, .long (x3))] [] (c_h c B P F A J) (none, c_h c B w.2.1 w.2.2.1 w.2.2.2.1 w.2.2.2.2) := by
  induction n generalizing P F A J x1 x3 w with
  | zero => intro hD; cases hD
  | succ n ih =>
    intro hD
    have hK2 : ∀ (P : Nat → Nat → Nat) (F : Nat → Nat → Int32) (A : Nat → Nat → Nat → Int32) (J : Nat → Nat → Nat → Int64) (x1 : Int32) (x3 : Int64) (w : Unit × (Nat → Nat → Nat) × (Nat → Nat → Int32) × (Nat → Nat → Nat → Int32) × (Nat → Nat → Nat → Int64)), e_Scanner_scanLetters_2 n P F A J x1 x3 = some w → k_run t lg (d + 1) 69 2 [(0, .ref (37 * 1024 + 1)), (1, .int x1), (2, .ref (1 * 1024)), (3, .long (x3))] [] (c_h c B P F A J) (none, c_h c B w.2.1 w.2.2.1 w.2.2.2.1 w.2.2.2.2) := fun _ _ _ _ _ _ _  h => ih  h
    unfold e_Scanner_scanLetters_2 at hD
    refine k_runB (pc' := 3) (loc' := [(0, .ref (37 * 1024 + 1)), (1, .int x1), (2, .ref (1 * 1024)), (3, .long (x3))]) (st' := [.ref (37 * 1024 + 1)]) 1 rfl ?_
    refine k_gf 37 1 (K := 11) rfl rfl rfl rfl rfl ?_
    refine k_runB (pc' := 7) (loc' := [(0, .ref (37 * 1024 + 1)), (1, .int x1), (2, .ref (1 * 1024)), (3, .long (x3))]) (st' := [.ref (1 * 1024), .int (F 37 105)]) 1 rfl ?_
    refine k_gf 1 0 (K := 1) rfl rfl rfl rfl rfl ?_
    refine k_ic rfl (fun c10_0 => ?_) (fun c10_0 => ?_)
    · rw [c10_0, cond_true] at hD
      refine k_wk [0, 1, 3] (loc' := [(0, .ref (37 * 1024 + 1)), (1, .int x1), (3, .long (x3))]) rfl rfl ?_
      exact t_e_Scanner_scanLetters_57 ht   hD
    · rw [c10_0, cond_false] at hD
      refine k_runB (pc' := 14) (loc' := [(0, .ref (37 * 1024 + 1)), (1, .int x1), (2, .ref (1 * 1024)), (3, .long (x3))]) (st' := [.ref (1 * 1024)]) 1 rfl ?_
      refine k_gf 1 0 (K := 1) rfl rfl rfl rfl rfl ?_
      refine k_runB (pc' := 18) (loc' := [(0, .ref (37 * 1024 + 1)), (1, .int x1), (2, .ref (1 * 1024)), (3, .long (x3))]) (st' := [.ref (37 * 1024 + 1), .ref (1 * 1024 + 1)]) 1 rfl ?_
      refine k_gf 37 1 (K := 11) rfl rfl rfl rfl rfl ?_
      obtain ⟨v2, hv2, hD⟩ := Option.bind_eq_some_iff.mp hD
      refine k_ldB rfl (c_get (r := 1) (o := 1) (K := 1) rfl (by decide)) hv2 ?_
      obtain ⟨v3, hv3, hD⟩ := Option.bind_eq_some_iff.mp hD
      refine k_runC rfl rfl rfl rfl (t_e_Scanner_isLetter (d := d) hv3) ?_
      refine k_if rfl (fun c25_3 => ?_) (fun c25_3 => ?_)
      · rw [c25_3, cond_true] at hD
        refine k_wk [0, 1, 3] (loc' := [(0, .ref (37 * 1024 + 1)), (1, .int x1), (3, .long (x3))]) rfl rfl ?_
        exact t_e_Scanner_scanLetters_57 ht   hD
      · rw [c25_3, cond_false] at hD
        refine k_runB (pc' := 33) (loc' := [(0, .ref (37 * 1024 + 1)), (1, .int x1), (2, .ref (1 * 1024)), (3, .long (x3))]) (st' := [.ref (1 * 1024), .long (x3 <<< ((8 : Int32).toInt64 &&& 63))]) 4 rfl ?_
        refine k_gf 1 0 (K := 1) rfl rfl rfl rfl rfl ?_
        refine k_runB (pc' := 37) (loc' := [(0, .ref (37 * 1024 + 1)), (1, .int x1), (2, .ref (1 * 1024)), (3, .long (x3))]) (st' := [.ref (37 * 1024 + 1), .ref (1 * 1024 + 1), .long (x3 <<< ((8 : Int32).toInt64 &&& 63))]) 1 rfl ?_
        refine k_gf 37 1 (K := 11) rfl rfl rfl rfl rfl ?_
        obtain ⟨v5, hv5, hD⟩ := Option.bind_eq_some_iff.mp hD
        refine k_ldB rfl (c_get (r := 1) (o := 1) (K := 1) rfl (by decide)) hv5 ?_
        refine k_runB (pc' := 46) (loc' := [(0, .ref (37 * 1024 + 1)), (1, .int x1), (2, .ref (1 * 1024)), (3, .long ((x3 <<< ((8 : Int32).toInt64 &&& 63)) ||| v5.toInt64))]) (st' := [.ref (37 * 1024 + 1), .ref (37 * 1024 + 1)]) 5 rfl ?_
        refine k_gf 37 1 (K := 11) rfl rfl rfl rfl rfl ?_
        refine k_runB (pc' := 51) (loc' := [(0, .ref (37 * 1024 + 1)), (1, .int x1), (2, .ref (1 * 1024)), (3, .long ((x3 <<< ((8 : Int32).toInt64 &&& 63)) ||| v5.toInt64))]) (st' := [.int ((F 37 105) + 1), .ref (37 * 1024 + 1)]) 2 rfl ?_
        obtain ⟨F6, hF6, hD⟩ := Option.bind_eq_some_iff.mp hD
        refine k_cpt 37 1 (K := 11) (key := 105) rfl rfl (ht 5 5) rfl rfl rfl hF6 ?_
        refine k_runB (pc' := 2) (loc' := [(0, .ref (37 * 1024 + 1)), (1, .int x1), (2, .ref (1 * 1024)), (3, .long ((x3 <<< ((8 : Int32).toInt64 &&& 63)) ||| v5.toInt64))]) (st' := []) 1 rfl ?_
        refine k_wk [0, 1, 2, 3] (loc' := [(0, .ref (37 * 1024 + 1)), (1, .int x1), (2, .ref (1 * 1024)), (3, .long ((x3 <<< ((8 : Int32).toInt64 &&& 63)) ||| v5.toInt64))]) rfl rfl ?_
        exact hK2 _ _ _ _ _ _ _  hD
/-- SleepWork$Scanner.scanLetters(ILSleepWork$Tape;)V  -/
def e_Scanner_scanLetters (n : Nat) (P : Nat → Nat → Nat) (F : Nat → Nat → Int32) (A : Nat → Nat → Nat → Int32) (J : Nat → Nat → Nat → Int64) (x1 : Int32) : Option (Unit × (Nat → Nat → Nat) × (Nat → Nat → Int32) × (Nat → Nat → Nat → Int32) × (Nat → Nat → Nat → Int64)) :=
  e_Scanner_scanLetters_2 n P F A J x1 0
set_option maxRecDepth 10000 in
theorem t_e_Scanner_scanLetters (ht : ∀ ci k, t.1 ci k = k_ty ci k) {n : Nat} {P : Nat → Nat → Nat} {F : Nat → Nat → Int32} {A : Nat → Nat → Nat → Int32} {J : Nat → Nat → Nat → Int64} {x1 : Int32}  {w : Unit × (Nat → Nat → Nat) × (Nat → Nat → Int32) × (Nat → Nat → Nat → Int32) × (Nat → Nat → Nat → Int64)} : e_Scanner_scanLetters n P F A J x1 = some w → k_run t lg (d + 1) 69 0 [(0, .ref (37 * 1024 + 1)), (1, .int x1), (2, .ref (1 * 1024))] [] (c_h c B P F A J) (none, c_h c B w.2.1 w.2.2.1 w.2.2.2.1 w.2.2.2.2) := by
  intro hD
  unfold e_Scanner_scanLetters at hD
  refine k_runB (pc' := 2) (loc' := [(0, .ref (37 * 1024 + 1)), (1, .int x1), (2, .ref (1 * 1024)), (3, .long (0))]) (st' := []) 2 rfl ?_
  refine k_wk [0, 1, 2, 3] (loc' := [(0, .ref (37 * 1024 + 1)), (1, .int x1), (2, .ref (1 * 1024)), (3, .long (0))]) rfl rfl ?_
  exact t_e_Scanner_scanLetters_2 ht   hD
def e_Scanner_scanDigits_93 (n : Nat) (P : Nat → Nat → Nat) (F : Nat → Nat → Int32) (A : Nat → Nat → Nat → Int32) (J : Nat → Nat → Nat → Int64) (s1 : Int32) (s2 : Int32) : Option (Unit × (Nat → Nat → Nat) × (Nat → Nat → Int32) × (Nat → Nat → Nat → Int32) × (Nat → Nat → Nat → Int64)) :=
    (c_st A 37 2 401 s1 s2).bind fun A10 =>
    some ((), P, F, A10, J)
set_option maxRecDepth 10000 in
theorem t_e_Scanner_scanDigits_93 (ht : ∀ ci k, t.1 ci k = k_ty ci k) {n : Nat}  {P : Nat → Nat → Nat} {F : Nat → Nat → Int32} {A : Nat → Nat → Nat → Int32} {J : Nat → Nat → Nat → Int64} {s1 : Int32} {s2 : Int32}  {w : Unit × (Nat → Nat → Nat) × (Nat → Nat → Int32) × (Nat → Nat → Nat → Int32) × (Nat → Nat → Nat → Int64)} : e_Scanner_scanDigits_93 n P F A J s1 s2 = some w → k_run t lg (d + 1) 70 93 [(0, .ref (37 * 1024 + 1))] [.int s2, .int s1, .ref (37 * 1024 + 2)] (c_h c B P F A J) (none, c_h c B w.2.1 w.2.2.1 w.2.2.2.1 w.2.2.2.2) := by
  intro hD
  unfold e_Scanner_scanDigits_93 at hD
  obtain ⟨A10, hA10, hD⟩ := Option.bind_eq_some_iff.mp hD
  refine k_cstI 37 2 (K := 11) rfl rfl rfl rfl (fun _ => rfl) hA10 ?_
  cases hD
  exact k_vret rfl rfl
def e_Scanner_scanDigits_59 (n : Nat) (P : Nat → Nat → Nat) (F : Nat → Nat → Int32) (A : Nat → Nat → Nat → Int32) (J : Nat → Nat → Nat → Int64) (x1 : Int32) (x3 : Int32) : Option (Unit × (Nat → Nat → Nat) × (Nat → Nat → Int32) × (Nat → Nat → Nat → Int32) × (Nat → Nat → Nat → Int64)) :=
    (c_st A 37 4 401 x1 x3).bind fun A7 =>
    (m_ld (A7 37 3) 401 x1).bind fun v8 =>
    cond (g_cnd .le ((F 37 105) - v8) 4)
    (e_Scanner_scanDigits_93 n P F A7 J x1 101)
    (e_Scanner_scanDigits_93 n P F A7 J x1 103)
set_option maxRecDepth 10000 in
theorem t_e_Scanner_scanDigits_59 (ht : ∀ ci k, t.1 ci k = k_ty ci k) {n : Nat}  {P : Nat → Nat → Nat} {F : Nat → Nat → Int32} {A : Nat → Nat → Nat → Int32} {J : Nat → Nat → Nat → Int64} {x1 : Int32} {x3 : Int32}  {w : Unit × (Nat → Nat → Nat) × (Nat → Nat → Int32) × (Nat → Nat → Nat → Int32) × (Nat → Nat → Nat → Int64)} : e_Scanner_scanDigits_59 n P F A J x1 x3 = some w → k_run t lg (d + 1) 70 59 [(0, .ref (37 * 1024 + 1)), (1, .int x1), (3, .int x3)] [] (c_h c B P F A J) (none, c_h c B w.2.1 w.2.2.1 w.2.2.2.1 w.2.2.2.2) := by
  intro hD
  unfold e_Scanner_scanDigits_59 at hD
  refine k_runB (pc' := 60) (loc' := [(0, .ref (37 * 1024 + 1)), (1, .int x1), (3, .int x3)]) (st' := [.ref (37 * 1024 + 1)]) 1 rfl ?_
  refine k_gf 37 1 (K := 11) rfl rfl rfl rfl rfl ?_
  refine k_runB (pc' := 65) (loc' := [(0, .ref (37 * 1024 + 1)), (1, .int x1), (3, .int x3)]) (st' := [.int x3, .int x1, .ref (37 * 1024 + 4)]) 2 rfl ?_
  obtain ⟨A7, hA7, hD⟩ := Option.bind_eq_some_iff.mp hD
  refine k_cstI 37 4 (K := 11) rfl rfl rfl rfl (fun _ => rfl) hA7 ?_
  refine k_runB (pc' := 67) (loc' := [(0, .ref (37 * 1024 + 1)), (1, .int x1), (3, .int x3)]) (st' := [.ref (37 * 1024 + 1)]) 1 rfl ?_
  refine k_gf 37 1 (K := 11) rfl rfl rfl rfl rfl ?_
  refine k_runB (pc' := 72) (loc' := [(0, .ref (37 * 1024 + 1)), (1, .int x1), (3, .int x3)]) (st' := [.ref (37 * 1024 + 1), .int x1, .ref (37 * 1024 + 2)]) 2 rfl ?_
  refine k_gf 37 1 (K := 11) rfl rfl rfl rfl rfl ?_
  refine k_runB (pc' := 76) (loc' := [(0, .ref (37 * 1024 + 1)), (1, .int x1), (3, .int x3)]) (st' := [.ref (37 * 1024 + 1), .int (F 37 105), .int x1, .ref (37 * 1024 + 2)]) 1 rfl ?_
  refine k_gf 37 1 (K := 11) rfl rfl rfl rfl rfl ?_
  refine k_runB (pc' := 80) (loc' := [(0, .ref (37 * 1024 + 1)), (1, .int x1), (3, .int x3)]) (st' := [.int x1, .ref (37 * 1024 + 3), .int (F 37 105), .int x1, .ref (37 * 1024 + 2)]) 1 rfl ?_
  obtain ⟨v8, hv8, hD⟩ := Option.bind_eq_some_iff.mp hD
  refine k_ldI rfl (c_get (r := 37) (o := 3) (K := 11) rfl (by decide)) hv8 ?_
  refine k_runB (pc' := 83) (loc' := [(0, .ref (37 * 1024 + 1)), (1, .int x1), (3, .int x3)]) (st' := [.int 4, .int ((F 37 105) - v8), .int x1, .ref (37 * 1024 + 2)]) 2 rfl ?_
  refine k_ic rfl (fun c83_8 => ?_) (fun c83_8 => ?_)
  · rw [c83_8, cond_true] at hD
    refine k_runB (pc' := 93) (loc' := [(0, .ref (37 * 1024 + 1)), (1, .int x1), (3, .int x3)]) (st' := [.int 101, .int x1, .ref (37 * 1024 + 2)]) 1 rfl ?_
    refine k_wk [0] (loc' := [(0, .ref (37 * 1024 + 1))]) rfl rfl ?_
    exact t_e_Scanner_scanDigits_93 ht   hD
  · rw [c83_8, cond_false] at hD
    refine k_runB (pc' := 93) (loc' := [(0, .ref (37 * 1024 + 1)), (1, .int x1), (3, .int x3)]) (st' := [.int 103, .int x1, .ref (37 * 1024 + 2)]) 2 rfl ?_
    refine k_wk [0] (loc' := [(0, .ref (37 * 1024 + 1))]) rfl rfl ?_
    exact t_e_Scanner_scanDigits_93 ht   hD
def e_Scanner_scanDigits_2 : Nat → (Nat → Nat → Nat) → (Nat → Nat → Int32) → (Nat → Nat → Nat → Int32) → (Nat → Nat → Nat → Int64) → Int32 → Int32 → Option (Unit × (Nat → Nat → Nat) × (Nat → Nat → Int32) × (Nat → Nat → Nat → Int32) × (Nat → Nat → Nat → Int64))
  | 0, _, _, _, _, _, _ => none
  | n + 1, P, F, A, J, x1, x3 => cond (g_cnd .ge (F 37 105) (F 1 1))
    (e_Scanner_scanDigits_59 n P F A J x1 x3)
    ((m_ld (A 1 1) 2000 (F 37 105)).bind fun v2 =>
    (e_Scanner_isDigit P F A J v2).bind fun v3 =>
    cond (g_cnd .eq v3 0)
    (e_Scanner_scanDigits_59 n P F A J x1 x3)
    ((m_ld (A 1 1) 2000 (F 37 105)).bind fun v5 =>
    (c_pf F 37 105 ((F 37 105) + 1)).bind fun F6 =>
    (e_Scanner_scanDigits_2 n) P F6 A J x1 (((x3 * 10) + v5) - 48)))
set_option maxRecDepth 10000 in
theorem t_e_Scanner_scanDigits_2 (ht : ∀ ci k, t.1 ci k = k_ty ci k) {n : Nat}  {P : Nat → Nat → Nat} {F : Nat → Nat → Int32} {A : Nat → Nat → Nat → Int32} {J : Nat → Nat → Nat → Int64} {x1 : Int32} {x3 : Int32}  {w : Unit × (Nat → Nat → Nat) × (Nat → Nat → Int32) × (Nat → Nat → Nat → Int32) × (Nat → Nat → Nat → Int64)} : e_Scanner_scanDigits_2 n P F A J x1 x3 = some w → k_run t lg (d + 1) 70 2 [(0, .ref (37 * 1024 + 1)), (1, .int x1), (2, .ref (1 * 1024)), (3, .int x3)] [] (c_h c B P F A J) (none, c_h c B w.2.1 w.2.2.1 w.2.2.2.1 w.2.2.2.2) := by
  induction n generalizing P F A J x1 x3 w with
  | zero => intro hD; cases hD
  | succ n ih =>
    intro hD
    have hK2 : ∀ (P : Nat → Nat → Nat) (F : Nat → Nat → Int32) (A : Nat → Nat → Nat → Int32) (J : Nat → Nat → Nat → Int64) (x1 : Int32) (x3 : Int32) (w : Unit × (Nat → Nat → Nat) × (Nat → Nat → Int32) × (Nat → Nat → Nat → Int32) × (Nat → Nat → Nat → Int64)), e_Scanner_scanDigits_2 n P F A J x1 x3 = some w → k_run t lg (d + 1) 70 2 [(0, .ref (37 * 1024 + 1)), (1, .int x1), (2, .ref (1 * 1024)), (3, .int x3)] [] (c_h c B P F A J) (none, c_h c B w.2.1 w.2.2.1 w.2.2.2.1 w.2.2.2.2) := fun _ _ _ _ _ _ _  h => ih  h
    unfold e_Scanner_scanDigits_2 at hD
    refine k_runB (pc' := 3) (loc' := [(0, .ref (37 * 1024 + 1)), (1, .int x1), (2, .ref (1 * 1024)), (3, .int x3)]) (st' := [.ref (37 * 1024 + 1)]) 1 rfl ?_
    refine k_gf 37 1 (K := 11) rfl rfl rfl rfl rfl ?_
    refine k_runB (pc' := 7) (loc' := [(0, .ref (37 * 1024 + 1)), (1, .int x1), (2, .ref (1 * 1024)), (3, .int x3)]) (st' := [.ref (1 * 1024), .int (F 37 105)]) 1 rfl ?_
    refine k_gf 1 0 (K := 1) rfl rfl rfl rfl rfl ?_
    refine k_ic rfl (fun c10_0 => ?_) (fun c10_0 => ?_)
    · rw [c10_0, cond_true] at hD
      refine k_wk [0, 1, 3] (loc' := [(0, .ref (37 * 1024 + 1)), (1, .int x1), (3, .int x3)]) rfl rfl ?_
      exact t_e_Scanner_scanDigits_59 ht   hD
    · rw [c10_0, cond_false] at hD
      refine k_runB (pc' := 14) (loc' := [(0, .ref (37 * 1024 + 1)), (1, .int x1), (2, .ref (1 * 1024)), (3, .int x3)]) (st' := [.ref (1 * 1024)]) 1 rfl ?_
      refine k_gf 1 0 (K := 1) rfl rfl rfl rfl rfl ?_
      refine k_runB (pc' := 18) (loc' := [(0, .ref (37 * 1024 + 1)), (1, .int x1), (2, .ref (1 * 1024)), (3, .int x3)]) (st' := [.ref (37 * 1024 + 1), .ref (1 * 1024 + 1)]) 1 rfl ?_
      refine k_gf 37 1 (K := 11) rfl rfl rfl rfl rfl ?_
      obtain ⟨v2, hv2, hD⟩ := Option.bind_eq_some_iff.mp hD
      refine k_ldB rfl (c_get (r := 1) (o := 1) (K := 1) rfl (by decide)) hv2 ?_
      obtain ⟨v3, hv3, hD⟩ := Option.bind_eq_some_iff.mp hD
      refine k_runC rfl rfl rfl rfl (t_e_Scanner_isDigit (d := d) hv3) ?_
      refine k_if rfl (fun c25_3 => ?_) (fun c25_3 => ?_)
      · rw [c25_3, cond_true] at hD
        refine k_wk [0, 1, 3] (loc' := [(0, .ref (37 * 1024 + 1)), (1, .int x1), (3, .int x3)]) rfl rfl ?_
        exact t_e_Scanner_scanDigits_59 ht   hD
      · rw [c25_3, cond_false] at hD
        refine k_runB (pc' := 33) (loc' := [(0, .ref (37 * 1024 + 1)), (1, .int x1), (2, .ref (1 * 1024)), (3, .int x3)]) (st' := [.ref (1 * 1024), .int (x3 * 10)]) 4 rfl ?_
        refine k_gf 1 0 (K := 1) rfl rfl rfl rfl rfl ?_
        refine k_runB (pc' := 37) (loc' := [(0, .ref (37 * 1024 + 1)), (1, .int x1), (2, .ref (1 * 1024)), (3, .int x3)]) (st' := [.ref (37 * 1024 + 1), .ref (1 * 1024 + 1), .int (x3 * 10)]) 1 rfl ?_
        refine k_gf 37 1 (K := 11) rfl rfl rfl rfl rfl ?_
        obtain ⟨v5, hv5, hD⟩ := Option.bind_eq_some_iff.mp hD
        refine k_ldB rfl (c_get (r := 1) (o := 1) (K := 1) rfl (by decide)) hv5 ?_
        refine k_runB (pc' := 48) (loc' := [(0, .ref (37 * 1024 + 1)), (1, .int x1), (2, .ref (1 * 1024)), (3, .int (((x3 * 10) + v5) - 48))]) (st' := [.ref (37 * 1024 + 1), .ref (37 * 1024 + 1)]) 6 rfl ?_
        refine k_gf 37 1 (K := 11) rfl rfl rfl rfl rfl ?_
        refine k_runB (pc' := 53) (loc' := [(0, .ref (37 * 1024 + 1)), (1, .int x1), (2, .ref (1 * 1024)), (3, .int (((x3 * 10) + v5) - 48))]) (st' := [.int ((F 37 105) + 1), .ref (37 * 1024 + 1)]) 2 rfl ?_
        obtain ⟨F6, hF6, hD⟩ := Option.bind_eq_some_iff.mp hD
        refine k_cpt 37 1 (K := 11) (key := 105) rfl rfl (ht 5 5) rfl rfl rfl hF6 ?_
        refine k_runB (pc' := 2) (loc' := [(0, .ref (37 * 1024 + 1)), (1, .int x1), (2, .ref (1 * 1024)), (3, .int (((x3 * 10) + v5) - 48))]) (st' := []) 1 rfl ?_
        refine k_wk [0, 1, 2, 3] (loc' := [(0, .ref (37 * 1024 + 1)), (1, .int x1), (2, .ref (1 * 1024)), (3, .int (((x3 * 10) + v5) - 48))]) rfl rfl ?_
        exact hK2 _ _ _ _ _ _ _  hD
/-- SleepWork$Scanner.scanDigits(ILSleepWork$Tape;)V  -/
def e_Scanner_scanDigits (n : Nat) (P : Nat → Nat → Nat) (F : Nat → Nat → Int32) (A : Nat → Nat → Nat → Int32) (J : Nat → Nat → Nat → Int64) (x1 : Int32) : Option (Unit × (Nat → Nat → Nat) × (Nat → Nat → Int32) × (Nat → Nat → Nat → Int32) × (Nat → Nat → Nat → Int64)) :=
  e_Scanner_scanDigits_2 n P F A J x1 0
set_option maxRecDepth 10000 in
theorem t_e_Scanner_scanDigits (ht : ∀ ci k, t.1 ci k = k_ty ci k) {n : Nat} {P : Nat → Nat → Nat} {F : Nat → Nat → Int32} {A : Nat → Nat → Nat → Int32} {J : Nat → Nat → Nat → Int64} {x1 : Int32}  {w : Unit × (Nat → Nat → Nat) × (Nat → Nat → Int32) × (Nat → Nat → Nat → Int32) × (Nat → Nat → Nat → Int64)} : e_Scanner_scanDigits n P F A J x1 = some w → k_run t lg (d + 1) 70 0 [(0, .ref (37 * 1024 + 1)), (1, .int x1), (2, .ref (1 * 1024))] [] (c_h c B P F A J) (none, c_h c B w.2.1 w.2.2.1 w.2.2.2.1 w.2.2.2.2) := by
  intro hD
  unfold e_Scanner_scanDigits at hD
  refine k_runB (pc' := 2) (loc' := [(0, .ref (37 * 1024 + 1)), (1, .int x1), (2, .ref (1 * 1024)), (3, .int 0)]) (st' := []) 2 rfl ?_
  refine k_wk [0, 1, 2, 3] (loc' := [(0, .ref (37 * 1024 + 1)), (1, .int x1), (2, .ref (1 * 1024)), (3, .int 0)]) rfl rfl ?_
  exact t_e_Scanner_scanDigits_2 ht   hD
/-- SleepWork$Tape.hasSpace()Z  -/
def e_Tape_hasSpace (P : Nat → Nat → Nat) (F : Nat → Nat → Int32) (A : Nat → Nat → Nat → Int32) (J : Nat → Nat → Nat → Int64) : Option (Int32) :=
  cond (g_cnd .gt ((F 1 1) + 20) 2000)
  (some (0))
  (some (1))
set_option maxRecDepth 10000 in
theorem t_e_Tape_hasSpace {P : Nat → Nat → Nat} {F : Nat → Nat → Int32} {A : Nat → Nat → Nat → Int32} {J : Nat → Nat → Nat → Int64}   {w : Int32} : e_Tape_hasSpace P F A J = some w → k_run t lg (d) 87 0 [(0, .ref (1 * 1024))] [] (c_h c B P F A J) (some (.int w), c_h c B P F A J) := by
  intro hD
  unfold e_Tape_hasSpace at hD
  refine k_runB (pc' := 1) (loc' := [(0, .ref (1 * 1024))]) (st' := [.ref (1 * 1024)]) 1 rfl ?_
  refine k_gf 1 0 (K := 1) rfl rfl rfl rfl rfl ?_
  refine k_runB (pc' := 10) (loc' := [(0, .ref (1 * 1024))]) (st' := [.int 2000, .int ((F 1 1) + 20)]) 3 rfl ?_
  refine k_ic rfl (fun c10_0 => ?_) (fun c10_0 => ?_)
  · rw [c10_0, cond_true] at hD
    refine k_runB (pc' := 18) (loc' := [(0, .ref (1 * 1024))]) (st' := [.int 0]) 1 rfl ?_
    cases hD
    exact k_zret rfl rfl (Or.inl rfl)
  · rw [c10_0, cond_false] at hD
    refine k_runB (pc' := 18) (loc' := [(0, .ref (1 * 1024))]) (st' := [.int 1]) 2 rfl ?_
    cases hD
    exact k_zret rfl rfl (Or.inr rfl)
def e_Tape_addWord_3 : Nat → (Nat → Nat → Nat) → (Nat → Nat → Int32) → (Nat → Nat → Nat → Int32) → (Nat → Nat → Nat → Int64) → Int32 → Int32 → Option (Unit × (Nat → Nat → Nat) × (Nat → Nat → Int32) × (Nat → Nat → Nat → Int32) × (Nat → Nat → Nat → Int64))
  | 0, _, _, _, _, _, _ => none
  | n + 1, P, F, A, J, x1, x2 => cond (g_cnd .lt x2 0)
    (some ((), P, F, A, J))
    (cond (g_cnd .ge (F 1 1) 2000)
    (some ((), P, F, A, J))
    ((c_st A 1 1 2000 (F 1 1) (vp_nar .byte ((x1 >>> (x2 &&& 31)).toInt8.toInt32))).bind fun A3 =>
    (c_pf F 1 1 ((F 1 1) + 1)).bind fun F4 =>
    (e_Tape_addWord_3 n) P F4 A3 J x1 (x2 + (-8))))
set_option maxRecDepth 10000 in
theorem t_e_Tape_addWord_3 (ht : ∀ ci k, t.1 ci k = k_ty ci k) {n : Nat}  {P : Nat → Nat → Nat} {F : Nat → Nat → Int32} {A : Nat → Nat → Nat → Int32} {J : Nat → Nat → Nat → Int64} {x1 : Int32} {x2 : Int32}  {w : Unit × (Nat → Nat → Nat) × (Nat → Nat → Int32) × (Nat → Nat → Nat → Int32) × (Nat → Nat → Nat → Int64)} : e_Tape_addWord_3 n P F A J x1 x2 = some w → k_run t lg (d) 88 3 [(0, .ref (1 * 1024)), (1, .int x1), (2, .int x2)] [] (c_h c B P F A J) (none, c_h c B w.2.1 w.2.2.1 w.2.2.2.1 w.2.2.2.2) := by
  induction n generalizing P F A J x1 x2 w with
  | zero => intro hD; cases hD
  | succ n ih =>
    intro hD
    have hK3 : ∀ (P : Nat → Nat → Nat) (F : Nat → Nat → Int32) (A : Nat → Nat → Nat → Int32) (J : Nat → Nat → Nat → Int64) (x1 : Int32) (x2 : Int32) (w : Unit × (Nat → Nat → Nat) × (Nat → Nat → Int32) × (Nat → Nat → Nat → Int32) × (Nat → Nat → Nat → Int64)), e_Tape_addWord_3 n P F A J x1 x2 = some w → k_run t lg (d) 88 3 [(0, .ref (1 * 1024)), (1, .int x1), (2, .int x2)] [] (c_h c B P F A J) (none, c_h c B w.2.1 w.2.2.1 w.2.2.2.1 w.2.2.2.2) := fun _ _ _ _ _ _ _  h => ih  h
    unfold e_Tape_addWord_3 at hD
    refine k_runB (pc' := 4) (loc' := [(0, .ref (1 * 1024)), (1, .int x1), (2, .int x2)]) (st' := [.int x2]) 1 rfl ?_
    refine k_if rfl (fun c4_0 => ?_) (fun c4_0 => ?_)
    · rw [c4_0, cond_true] at hD
      cases hD
      exact k_vret rfl rfl
    · rw [c4_0, cond_false] at hD
      refine k_runB (pc' := 8) (loc' := [(0, .ref (1 * 1024)), (1, .int x1), (2, .int x2)]) (st' := [.ref (1 * 1024)]) 1 rfl ?_
      refine k_gf 1 0 (K := 1) rfl rfl rfl rfl rfl ?_
      refine k_runB (pc' := 14) (loc' := [(0, .ref (1 * 1024)), (1, .int x1), (2, .int x2)]) (st' := [.int 2000, .int (F 1 1)]) 1 rfl ?_
      refine k_ic rfl (fun c14_1 => ?_) (fun c14_1 => ?_)
      · rw [c14_1, cond_true] at hD
        cases hD
        exact k_vret rfl rfl
      · rw [c14_1, cond_false] at hD
        refine k_runB (pc' := 18) (loc' := [(0, .ref (1 * 1024)), (1, .int x1), (2, .int x2)]) (st' := [.ref (1 * 1024)]) 1 rfl ?_
        refine k_gf 1 0 (K := 1) rfl rfl rfl rfl rfl ?_
        refine k_runB (pc' := 22) (loc' := [(0, .ref (1 * 1024)), (1, .int x1), (2, .int x2)]) (st' := [.ref (1 * 1024), .ref (1 * 1024 + 1)]) 1 rfl ?_
        refine k_gf 1 0 (K := 1) rfl rfl rfl rfl rfl ?_
        refine k_runB (pc' := 29) (loc' := [(0, .ref (1 * 1024)), (1, .int x1), (2, .int x2)]) (st' := [.int ((x1 >>> (x2 &&& 31)).toInt8.toInt32), .int (F 1 1), .ref (1 * 1024 + 1)]) 4 rfl ?_
        obtain ⟨A3, hA3, hD⟩ := Option.bind_eq_some_iff.mp hD
        refine k_cstB 1 1 (K := 1) rfl rfl rfl rfl (fun _ => rfl) hA3 ?_
        refine k_runB (pc' := 32) (loc' := [(0, .ref (1 * 1024)), (1, .int x1), (2, .int x2)]) (st' := [.ref (1 * 1024), .ref (1 * 1024)]) 2 rfl ?_
        refine k_gf 1 0 (K := 1) rfl rfl rfl rfl rfl ?_
        refine k_runB (pc' := 37) (loc' := [(0, .ref (1 * 1024)), (1, .int x1), (2, .int x2)]) (st' := [.int ((F 1 1) + 1), .ref (1 * 1024)]) 2 rfl ?_
        obtain ⟨F4, hF4, hD⟩ := Option.bind_eq_some_iff.mp hD
        refine k_cpt 1 0 (K := 1) (key := 1) rfl rfl (ht 8 1) rfl rfl rfl hF4 ?_
        refine k_runB (pc' := 3) (loc' := [(0, .ref (1 * 1024)), (1, .int x1), (2, .int (x2 + (-8)))]) (st' := []) 2 rfl ?_
        refine k_wk [0, 1, 2] (loc' := [(0, .ref (1 * 1024)), (1, .int x1), (2, .int (x2 + (-8)))]) rfl rfl ?_
        exact hK3 _ _ _ _ _ _ _  hD
/-- SleepWork$Tape.addWord(I)V  -/
def e_Tape_addWord (n : Nat) (P : Nat → Nat → Nat) (F : Nat → Nat → Int32) (A : Nat → Nat → Nat → Int32) (J : Nat → Nat → Nat → Int64) (x1 : Int32) : Option (Unit × (Nat → Nat → Nat) × (Nat → Nat → Int32) × (Nat → Nat → Nat → Int32) × (Nat → Nat → Nat → Int64)) :=
  e_Tape_addWord_3 n P F A J x1 24
set_option maxRecDepth 10000 in
theorem t_e_Tape_addWord (ht : ∀ ci k, t.1 ci k = k_ty ci k) {n : Nat} {P : Nat → Nat → Nat} {F : Nat → Nat → Int32} {A : Nat → Nat → Nat → Int32} {J : Nat → Nat → Nat → Int64} {x1 : Int32}  {w : Unit × (Nat → Nat → Nat) × (Nat → Nat → Int32) × (Nat → Nat → Nat → Int32) × (Nat → Nat → Nat → Int64)} : e_Tape_addWord n P F A J x1 = some w → k_run t lg (d) 88 0 [(0, .ref (1 * 1024)), (1, .int x1)] [] (c_h c B P F A J) (none, c_h c B w.2.1 w.2.2.1 w.2.2.2.1 w.2.2.2.2) := by
  intro hD
  unfold e_Tape_addWord at hD
  refine k_runB (pc' := 3) (loc' := [(0, .ref (1 * 1024)), (1, .int x1), (2, .int 24)]) (st' := []) 2 rfl ?_
  refine k_wk [0, 1, 2] (loc' := [(0, .ref (1 * 1024)), (1, .int x1), (2, .int 24)]) rfl rfl ?_
  exact t_e_Tape_addWord_3 ht   hD
/-- SleepWork$Told.isFull()Z  -/
def e_Told_isFull (P : Nat → Nat → Nat) (F : Nat → Nat → Int32) (A : Nat → Nat → Nat → Int32) (J : Nat → Nat → Nat → Int64) : Option (Int32) :=
  cond (g_cnd .lt (F 25 2) 30)
  (some (0))
  (some (1))
set_option maxRecDepth 10000 in
theorem t_e_Told_isFull {P : Nat → Nat → Nat} {F : Nat → Nat → Int32} {A : Nat → Nat → Nat → Int32} {J : Nat → Nat → Nat → Int64}   {w : Int32} : e_Told_isFull P F A J = some w → k_run t lg (d) 90 0 [(0, .ref (25 * 1024))] [] (c_h c B P F A J) (some (.int w), c_h c B P F A J) := by
  intro hD
  unfold e_Told_isFull at hD
  refine k_runB (pc' := 1) (loc' := [(0, .ref (25 * 1024))]) (st' := [.ref (25 * 1024)]) 1 rfl ?_
  refine k_gf 25 0 (K := 4) rfl rfl rfl rfl rfl ?_
  refine k_runB (pc' := 6) (loc' := [(0, .ref (25 * 1024))]) (st' := [.int 30, .int (F 25 2)]) 1 rfl ?_
  refine k_ic rfl (fun c6_0 => ?_) (fun c6_0 => ?_)
  · rw [c6_0, cond_true] at hD
    refine k_runB (pc' := 14) (loc' := [(0, .ref (25 * 1024))]) (st' := [.int 0]) 1 rfl ?_
    cases hD
    exact k_zret rfl rfl (Or.inl rfl)
  · rw [c6_0, cond_false] at hD
    refine k_runB (pc' := 14) (loc' := [(0, .ref (25 * 1024))]) (st' := [.int 1]) 2 rfl ?_
    cases hD
    exact k_zret rfl rfl (Or.inr rfl)
/-- SleepWork$Told.add(II)I  -/
def e_Told_add (P : Nat → Nat → Nat) (F : Nat → Nat → Int32) (A : Nat → Nat → Nat → Int32) (J : Nat → Nat → Nat → Int64) (x1 : Int32) (x2 : Int32) : Option (Int32 × (Nat → Nat → Nat) × (Nat → Nat → Int32) × (Nat → Nat → Nat → Int32) × (Nat → Nat → Nat → Int64)) :=
  (c_st A 25 1 30 (F 25 2) x1).bind fun A1 =>
  (c_st A1 25 2 30 (F 25 2) x2).bind fun A2 =>
  (c_pf F 25 2 ((F 25 2) + 1)).bind fun F3 =>
  some ((F3 25 2) - 1, P, F3, A2, J)
set_option maxRecDepth 10000 in
theorem t_e_Told_add (ht : ∀ ci k, t.1 ci k = k_ty ci k) {P : Nat → Nat → Nat} {F : Nat → Nat → Int32} {A : Nat → Nat → Nat → Int32} {J : Nat → Nat → Nat → Int64} {x1 : Int32} {x2 : Int32}  {w : Int32 × (Nat → Nat → Nat) × (Nat → Nat → Int32) × (Nat → Nat → Nat → Int32) × (Nat → Nat → Nat → Int64)} : e_Told_add P F A J x1 x2 = some w → k_run t lg (d) 91 0 [(0, .ref (25 * 1024)), (1, .int x1), (2, .int x2)] [] (c_h c B P F A J) (some (.int w.1), c_h c B w.2.1 w.2.2.1 w.2.2.2.1 w.2.2.2.2) := by
  intro hD
  unfold e_Told_add at hD
  refine k_runB (pc' := 1) (loc' := [(0, .ref (25 * 1024)), (1, .int x1), (2, .int x2)]) (st' := [.ref (25 * 1024)]) 1 rfl ?_
  refine k_gf 25 0 (K := 4) rfl rfl rfl rfl rfl ?_
  refine k_runB (pc' := 5) (loc' := [(0, .ref (25 * 1024)), (1, .int x1), (2, .int x2)]) (st' := [.ref (25 * 1024), .ref (25 * 1024 + 1)]) 1 rfl ?_
  refine k_gf 25 0 (K := 4) rfl rfl rfl rfl rfl ?_
  refine k_runB (pc' := 9) (loc' := [(0, .ref (25 * 1024)), (1, .int x1), (2, .int x2)]) (st' := [.int x1, .int (F 25 2), .ref (25 * 1024 + 1)]) 1 rfl ?_
  obtain ⟨A1, hA1, hD⟩ := Option.bind_eq_some_iff.mp hD
  refine k_cstI 25 1 (K := 4) rfl rfl rfl rfl (fun _ => rfl) hA1 ?_
  refine k_runB (pc' := 11) (loc' := [(0, .ref (25 * 1024)), (1, .int x1), (2, .int x2)]) (st' := [.ref (25 * 1024)]) 1 rfl ?_
  refine k_gf 25 0 (K := 4) rfl rfl rfl rfl rfl ?_
  refine k_runB (pc' := 15) (loc' := [(0, .ref (25 * 1024)), (1, .int x1), (2, .int x2)]) (st' := [.ref (25 * 1024), .ref (25 * 1024 + 2)]) 1 rfl ?_
  refine k_gf 25 0 (K := 4) rfl rfl rfl rfl rfl ?_
  refine k_runB (pc' := 19) (loc' := [(0, .ref (25 * 1024)), (1, .int x1), (2, .int x2)]) (st' := [.int x2, .int (F 25 2), .ref (25 * 1024 + 2)]) 1 rfl ?_
  obtain ⟨A2, hA2, hD⟩ := Option.bind_eq_some_iff.mp hD
  refine k_cstI 25 2 (K := 4) rfl rfl rfl rfl (fun _ => rfl) hA2 ?_
  refine k_runB (pc' := 22) (loc' := [(0, .ref (25 * 1024)), (1, .int x1), (2, .int x2)]) (st' := [.ref (25 * 1024), .ref (25 * 1024)]) 2 rfl ?_
  refine k_gf 25 0 (K := 4) rfl rfl rfl rfl rfl ?_
  refine k_runB (pc' := 27) (loc' := [(0, .ref (25 * 1024)), (1, .int x1), (2, .int x2)]) (st' := [.int ((F 25 2) + 1), .ref (25 * 1024)]) 2 rfl ?_
  obtain ⟨F3, hF3, hD⟩ := Option.bind_eq_some_iff.mp hD
  refine k_cpt 25 0 (K := 4) (key := 2) rfl rfl (ht 9 2) rfl rfl rfl hF3 ?_
  refine k_runB (pc' := 31) (loc' := [(0, .ref (25 * 1024)), (1, .int x1), (2, .int x2)]) (st' := [.ref (25 * 1024)]) 1 rfl ?_
  refine k_gf 25 0 (K := 4) rfl rfl rfl rfl rfl ?_
  refine k_runB (pc' := 36) (loc' := [(0, .ref (25 * 1024)), (1, .int x1), (2, .int x2)]) (st' := [.int ((F3 25 2) - 1)]) 2 rfl ?_
  cases hD
  exact k_iret rfl rfl
/-- SleepWork.feed(IIIII)I  -/
def e_SleepWork_feed (n : Nat) (P : Nat → Nat → Nat) (F : Nat → Nat → Int32) (A : Nat → Nat → Nat → Int32) (J : Nat → Nat → Nat → Int64) (x1 : Int32) (x2 : Int32) (x3 : Int32) (x4 : Int32) (x5 : Int32) : Option (Int32 × (Nat → Nat → Nat) × (Nat → Nat → Int32) × (Nat → Nat → Nat → Int32) × (Nat → Nat → Nat → Int64)) :=
  (e_Tape_hasSpace P F A J).bind fun v1 =>
  cond (g_cnd .ne v1 0)
  ((e_Tape_addWord n P F A J x1).bind fun (_, P4, F5, A6, J7) =>
  (e_Tape_addWord n P4 F5 A6 J7 x2).bind fun (_, P9, F10, A11, J12) =>
  (e_Tape_addWord n P9 F10 A11 J12 x3).bind fun (_, P14, F15, A16, J17) =>
  (e_Tape_addWord n P14 F15 A16 J17 x4).bind fun (_, P19, F20, A21, J22) =>
  (e_Tape_addWord n P19 F20 A21 J22 x5).bind fun (_, P24, F25, A26, J27) =>
  some (F25 1 1, P24, F25, A26, J27))
  (some ((-1), P, F, A, J))
set_option maxRecDepth 10000 in
theorem t_e_SleepWork_feed (ht : ∀ ci k, t.1 ci k = k_ty ci k) {n : Nat} {P : Nat → Nat → Nat} {F : Nat → Nat → Int32} {A : Nat → Nat → Nat → Int32} {J : Nat → Nat → Nat → Int64} {x1 : Int32} {x2 : Int32} {x3 : Int32} {x4 : Int32} {x5 : Int32}  {w : Int32 × (Nat → Nat → Nat) × (Nat → Nat → Int32) × (Nat → Nat → Nat → Int32) × (Nat → Nat → Nat → Int64)} : e_SleepWork_feed n P F A J x1 x2 x3 x4 x5 = some w → k_run t lg (d + 1) 99 0 [(0, .ref (0 * 1024)), (1, .int x1), (2, .int x2), (3, .int x3), (4, .int x4), (5, .int x5)] [] (c_h c B P F A J) (some (.int w.1), c_h c B w.2.1 w.2.2.1 w.2.2.2.1 w.2.2.2.2) := by
  intro hD
  unfold e_SleepWork_feed at hD
  refine k_runB (pc' := 1) (loc' := [(0, .ref (0 * 1024)), (1, .int x1), (2, .int x2), (3, .int x3), (4, .int x4), (5, .int x5)]) (st' := [.ref (0 * 1024)]) 1 rfl ?_
  refine k_gf 0 0 (K := 0) rfl rfl rfl rfl rfl ?_
  obtain ⟨v1, hv1, hD⟩ := Option.bind_eq_some_iff.mp hD
  refine k_runV rfl rfl rfl (c_get (r := 1) (o := 0) (K := 1) rfl (by decide)) rfl rfl (t_e_Tape_hasSpace (d := d) hv1) ?_
  refine k_if rfl (fun c7_1 => ?_) (fun c7_1 => ?_)
  · rw [c7_1, cond_true] at hD
    refine k_runB (pc' := 13) (loc' := [(0, .ref (0 * 1024)), (1, .int x1), (2, .int x2), (3, .int x3), (4, .int x4), (5, .int x5)]) (st' := [.ref (0 * 1024)]) 1 rfl ?_
    refine k_gf 0 0 (K := 0) rfl rfl rfl rfl rfl ?_
    refine k_runB (pc' := 17) (loc' := [(0, .ref (0 * 1024)), (1, .int x1), (2, .int x2), (3, .int x3), (4, .int x4), (5, .int x5)]) (st' := [.int x1, .ref (1 * 1024)]) 1 rfl ?_
    obtain ⟨⟨v3, P4, F5, A6, J7⟩, hv3, hD⟩ := Option.bind_eq_some_iff.mp hD
    dsimp only at hD
    refine k_runV rfl rfl rfl (c_get (r := 1) (o := 0) (K := 1) rfl (by decide)) rfl rfl (t_e_Tape_addWord (d := d) ht hv3) ?_
    refine k_runB (pc' := 21) (loc' := [(0, .ref (0 * 1024)), (1, .int x1), (2, .int x2), (3, .int x3), (4, .int x4), (5, .int x5)]) (st' := [.ref (0 * 1024)]) 1 rfl ?_
    refine k_gf 0 0 (K := 0) rfl rfl rfl rfl rfl ?_
    refine k_runB (pc' := 25) (loc' := [(0, .ref (0 * 1024)), (1, .int x1), (2, .int x2), (3, .int x3), (4, .int x4), (5, .int x5)]) (st' := [.int x2, .ref (1 * 1024)]) 1 rfl ?_
    obtain ⟨⟨v8, P9, F10, A11, J12⟩, hv8, hD⟩ := Option.bind_eq_some_iff.mp hD
    dsimp only at hD
    refine k_runV rfl rfl rfl (c_get (r := 1) (o := 0) (K := 1) rfl (by decide)) rfl rfl (t_e_Tape_addWord (d := d) ht hv8) ?_
    refine k_runB (pc' := 29) (loc' := [(0, .ref (0 * 1024)), (1, .int x1), (2, .int x2), (3, .int x3), (4, .int x4), (5, .int x5)]) (st' := [.ref (0 * 1024)]) 1 rfl ?_
    refine k_gf 0 0 (K := 0) rfl rfl rfl rfl rfl ?_
    refine k_runB (pc' := 33) (loc' := [(0, .ref (0 * 1024)), (1, .int x1), (2, .int x2), (3, .int x3), (4, .int x4), (5, .int x5)]) (st' := [.int x3, .ref (1 * 1024)]) 1 rfl ?_
    obtain ⟨⟨v13, P14, F15, A16, J17⟩, hv13, hD⟩ := Option.bind_eq_some_iff.mp hD
    dsimp only at hD
    refine k_runV rfl rfl rfl (c_get (r := 1) (o := 0) (K := 1) rfl (by decide)) rfl rfl (t_e_Tape_addWord (d := d) ht hv13) ?_
    refine k_runB (pc' := 37) (loc' := [(0, .ref (0 * 1024)), (1, .int x1), (2, .int x2), (3, .int x3), (4, .int x4), (5, .int x5)]) (st' := [.ref (0 * 1024)]) 1 rfl ?_
    refine k_gf 0 0 (K := 0) rfl rfl rfl rfl rfl ?_
    refine k_runB (pc' := 42) (loc' := [(0, .ref (0 * 1024)), (1, .int x1), (2, .int x2), (3, .int x3), (4, .int x4), (5, .int x5)]) (st' := [.int x4, .ref (1 * 1024)]) 1 rfl ?_
    obtain ⟨⟨v18, P19, F20, A21, J22⟩, hv18, hD⟩ := Option.bind_eq_some_iff.mp hD
    dsimp only at hD
    refine k_runV rfl rfl rfl (c_get (r := 1) (o := 0) (K := 1) rfl (by decide)) rfl rfl (t_e_Tape_addWord (d := d) ht hv18) ?_
    refine k_runB (pc' := 46) (loc' := [(0, .ref (0 * 1024)), (1, .int x1), (2, .int x2), (3, .int x3), (4, .int x4), (5, .int x5)]) (st' := [.ref (0 * 1024)]) 1 rfl ?_
    refine k_gf 0 0 (K := 0) rfl rfl rfl rfl rfl ?_
    refine k_runB (pc' := 51) (loc' := [(0, .ref (0 * 1024)), (1, .int x1), (2, .int x2), (3, .int x3), (4, .int x4), (5, .int x5)]) (st' := [.int x5, .ref (1 * 1024)]) 1 rfl ?_
    obtain ⟨⟨v23, P24, F25, A26, J27⟩, hv23, hD⟩ := Option.bind_eq_some_iff.mp hD
    dsimp only at hD
    refine k_runV rfl rfl rfl (c_get (r := 1) (o := 0) (K := 1) rfl (by decide)) rfl rfl (t_e_Tape_addWord (d := d) ht hv23) ?_
    refine k_runB (pc' := 55) (loc' := [(0, .ref (0 * 1024)), (1, .int x1), (2, .int x2), (3, .int x3), (4, .int x4), (5, .int x5)]) (st' := [.ref (0 * 1024)]) 1 rfl ?_
    refine k_gf 0 0 (K := 0) rfl rfl rfl rfl rfl ?_
    refine k_gf 1 0 (K := 1) rfl rfl rfl rfl rfl ?_
    cases hD
    exact k_iret rfl rfl
  · rw [c7_1, cond_false] at hD
    refine k_runB (pc' := 11) (loc' := [(0, .ref (0 * 1024)), (1, .int x1), (2, .int x2), (3, .int x3), (4, .int x4), (5, .int x5)]) (st' := [.int ((-1))]) 1 rfl ?_
    cases hD
    exact k_iret rfl rfl
/-- SleepWork.back(I)I  -/
def e_SleepWork_back (P : Nat → Nat → Nat) (F : Nat → Nat → Int32) (A : Nat → Nat → Nat → Int32) (J : Nat → Nat → Nat → Int64) (x1 : Int32) : Option (Int32 × (Nat → Nat → Nat) × (Nat → Nat → Int32) × (Nat → Nat → Nat → Int32) × (Nat → Nat → Nat → Int64)) :=
  cond (g_cnd .lt x1 0)
  (some ((-1), P, F, A, J))
  (cond (g_cnd .le x1 (F 1 1))
  ((c_pf F 1 1 ((F 1 1) - x1)).bind fun F3 =>
  some (F3 1 1, P, F3, A, J))
  (some ((-1), P, F, A, J)))
set_option maxRecDepth 10000 in
theorem t_e_SleepWork_back (ht : ∀ ci k, t.1 ci k = k_ty ci k) {P : Nat → Nat → Nat} {F : Nat → Nat → Int32} {A : Nat → Nat → Nat → Int32} {J : Nat → Nat → Nat → Int64} {x1 : Int32}  {w : Int32 × (Nat → Nat → Nat) × (Nat → Nat → Int32) × (Nat → Nat → Nat → Int32) × (Nat → Nat → Nat → Int64)} : e_SleepWork_back P F A J x1 = some w → k_run t lg (d) 100 0 [(0, .ref (0 * 1024)), (1, .int x1)] [] (c_h c B P F A J) (some (.int w.1), c_h c B w.2.1 w.2.2.1 w.2.2.2.1 w.2.2.2.2) := by
  intro hD
  unfold e_SleepWork_back at hD
  refine k_runB (pc' := 1) (loc' := [(0, .ref (0 * 1024)), (1, .int x1)]) (st' := [.int x1]) 1 rfl ?_
  refine k_if rfl (fun c1_0 => ?_) (fun c1_0 => ?_)
  · rw [c1_0, cond_true] at hD
    refine k_runB (pc' := 16) (loc' := [(0, .ref (0 * 1024)), (1, .int x1)]) (st' := [.int ((-1))]) 1 rfl ?_
    cases hD
    exact k_iret rfl rfl
  · rw [c1_0, cond_false] at hD
    refine k_runB (pc' := 6) (loc' := [(0, .ref (0 * 1024)), (1, .int x1)]) (st' := [.ref (0 * 1024), .int x1]) 2 rfl ?_
    refine k_gf 0 0 (K := 0) rfl rfl rfl rfl rfl ?_
    refine k_gf 1 0 (K := 1) rfl rfl rfl rfl rfl ?_
    refine k_ic rfl (fun c12_1 => ?_) (fun c12_1 => ?_)
    · rw [c12_1, cond_true] at hD
      refine k_runB (pc' := 18) (loc' := [(0, .ref (0 * 1024)), (1, .int x1)]) (st' := [.ref (0 * 1024)]) 1 rfl ?_
      refine k_gf 0 0 (K := 0) rfl rfl rfl rfl rfl ?_
      refine k_runB (pc' := 22) (loc' := [(0, .ref (0 * 1024)), (1, .int x1)]) (st' := [.ref (1 * 1024), .ref (1 * 1024)]) 1 rfl ?_
      refine k_gf 1 0 (K := 1) rfl rfl rfl rfl rfl ?_
      refine k_runB (pc' := 27) (loc' := [(0, .ref (0 * 1024)), (1, .int x1)]) (st' := [.int ((F 1 1) - x1), .ref (1 * 1024)]) 2 rfl ?_
      obtain ⟨F3, hF3, hD⟩ := Option.bind_eq_some_iff.mp hD
      refine k_cpt 1 0 (K := 1) (key := 1) rfl rfl (ht 8 1) rfl rfl rfl hF3 ?_
      refine k_runB (pc' := 31) (loc' := [(0, .ref (0 * 1024)), (1, .int x1)]) (st' := [.ref (0 * 1024)]) 1 rfl ?_
      refine k_gf 0 0 (K := 0) rfl rfl rfl rfl rfl ?_
      refine k_gf 1 0 (K := 1) rfl rfl rfl rfl rfl ?_
      cases hD
      exact k_iret rfl rfl
    · rw [c12_1, cond_false] at hD
      refine k_runB (pc' := 16) (loc' := [(0, .ref (0 * 1024)), (1, .int x1)]) (st' := [.int ((-1))]) 1 rfl ?_
      cases hD
      exact k_iret rfl rfl
end MC
