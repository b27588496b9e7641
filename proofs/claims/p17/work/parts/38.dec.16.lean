/-! the class's methods as functions (printed by wip/dec2.py) -/
section MC
variable {t : gT} {lg : Nat → Nat} {d : Nat} {c : Nat × Nat} {B : Nat → List gE}
/-- SleepWork.best(II)I  -/
def e_SleepWork_best (n : Nat) (P : Nat → Nat → Nat) (F : Nat → Nat → Int32) (A : Nat → Nat → Nat → Int32) (J : Nat → Nat → Nat → Int64) (x1 : Int32) (x2 : Int32) : Option (Int32 × (Nat → Nat → Nat) × (Nat → Nat → Int32) × (Nat → Nat → Nat → Int32) × (Nat → Nat → Nat → Int64)) :=
  (e_SleepWork_isMan P F A J x1).bind fun v1 =>
  cond (g_cnd .eq v1 0)
  (some ((-1), P, F, A, J))
  (cond (g_cnd .lt x2 0)
  (some ((-1), P, F, A, J))
  (cond (g_cnd .le x2 1)
  ((e_Evening_seekForOne n P F A J x1).bind fun (_, P6, F7, A8, J9) =>
  cond (g_cnd .ne x2 0)
  ((e_SleepWork_codeOf P6 F7 A8 J9 (F7 32 12)).bind fun v11 =>
  some (v11, P6, F7, A8, J9))
  (some (F7 32 10, P6, F7, A8, J9)))
  (some ((-1), P, F, A, J))))
set_option maxRecDepth 10000 in
theorem t_e_SleepWork_best (ht : ∀ ci k, t.1 ci k = k_ty ci k) {n : Nat} {P : Nat → Nat → Nat} {F : Nat → Nat → Int32} {A : Nat → Nat → Nat → Int32} {J : Nat → Nat → Nat → Int64} {x1 : Int32} {x2 : Int32}  {w : Int32 × (Nat → Nat → Nat) × (Nat → Nat → Int32) × (Nat → Nat → Nat → Int32) × (Nat → Nat → Nat → Int64)} : e_SleepWork_best n P F A J x1 x2 = some w → k_run t lg (d + 7) 122 0 [(0, .ref (0 * 1024)), (1, .int x1), (2, .int x2)] [] (c_h c B P F A J) (some (.int w.1), c_h c B w.2.1 w.2.2.1 w.2.2.2.1 w.2.2.2.2) := by
  intro hD
  unfold e_SleepWork_best at hD
  refine k_runB (pc' := 2) (loc' := [(0, .ref (0 * 1024)), (1, .int x1), (2, .int x2)]) (st' := [.int x1, .ref (0 * 1024)]) 2 rfl ?_
  obtain ⟨v1, hv1, hD⟩ := Option.bind_eq_some_iff.mp hD
  refine k_runV rfl rfl rfl (c_get (r := 0) (o := 0) (K := 0) rfl (by decide)) rfl rfl (t_e_SleepWork_isMan (d := d + 6) hv1) ?_
  refine k_if rfl (fun c5_1 => ?_) (fun c5_1 => ?_)
  · rw [c5_1, cond_true] at hD
    refine k_runB (pc' := 18) (loc' := [(0, .ref (0 * 1024)), (1, .int x1), (2, .int x2)]) (st' := [.int ((-1))]) 1 rfl ?_
    cases hD
    exact k_iret rfl rfl
  · rw [c5_1, cond_false] at hD
    refine k_runB (pc' := 9) (loc' := [(0, .ref (0 * 1024)), (1, .int x1), (2, .int x2)]) (st' := [.int x2]) 1 rfl ?_
    refine k_if rfl (fun c9_2 => ?_) (fun c9_2 => ?_)
    · rw [c9_2, cond_true] at hD
      refine k_runB (pc' := 18) (loc' := [(0, .ref (0 * 1024)), (1, .int x1), (2, .int x2)]) (st' := [.int ((-1))]) 1 rfl ?_
      cases hD
      exact k_iret rfl rfl
    · rw [c9_2, cond_false] at hD
      refine k_runB (pc' := 14) (loc' := [(0, .ref (0 * 1024)), (1, .int x1), (2, .int x2)]) (st' := [.int 1, .int x2]) 2 rfl ?_
      refine k_ic rfl (fun c14_3 => ?_) (fun c14_3 => ?_)
      · rw [c14_3, cond_true] at hD
        refine k_runB (pc' := 20) (loc' := [(0, .ref (0 * 1024)), (1, .int x1), (2, .int x2)]) (st' := [.ref (0 * 1024)]) 1 rfl ?_
        refine k_gf 0 0 (K := 0) rfl rfl rfl rfl rfl ?_
        refine k_runB (pc' := 24) (loc' := [(0, .ref (0 * 1024)), (1, .int x1), (2, .int x2)]) (st' := [.int x1, .ref (32 * 1024)]) 1 rfl ?_
        obtain ⟨⟨v5, P6, F7, A8, J9⟩, hv5, hD⟩ := Option.bind_eq_some_iff.mp hD
        dsimp only at hD
        refine k_runV rfl rfl rfl (c_get (r := 32) (o := 0) (K := 7) rfl (by decide)) rfl rfl (t_e_Evening_seekForOne (d := d) ht hv5) ?_
        refine k_runB (pc' := 28) (loc' := [(0, .ref (0 * 1024)), (1, .int x1), (2, .int x2)]) (st' := [.int x2]) 1 rfl ?_
        refine k_if rfl (fun c28_9 => ?_) (fun c28_9 => ?_)
        · rw [c28_9, cond_true] at hD
          refine k_runB (pc' := 42) (loc' := [(0, .ref (0 * 1024)), (1, .int x1), (2, .int x2)]) (st' := [.ref (0 * 1024)]) 1 rfl ?_
          refine k_gf 0 0 (K := 0) rfl rfl rfl rfl rfl ?_
          refine k_gf 32 0 (K := 7) rfl rfl rfl rfl rfl ?_
          obtain ⟨v11, hv11, hD⟩ := Option.bind_eq_some_iff.mp hD
          refine k_runC rfl rfl rfl rfl (t_e_SleepWork_codeOf (d := d + 6) hv11) ?_
          cases hD
          exact k_iret rfl rfl
        · rw [c28_9, cond_false] at hD
          refine k_runB (pc' := 32) (loc' := [(0, .ref (0 * 1024)), (1, .int x1), (2, .int x2)]) (st' := [.ref (0 * 1024)]) 1 rfl ?_
          refine k_gf 0 0 (K := 0) rfl rfl rfl rfl rfl ?_
          refine k_gf 32 0 (K := 7) rfl rfl rfl rfl rfl ?_
          refine k_runB (pc' := 51) (loc' := [(0, .ref (0 * 1024)), (1, .int x1), (2, .int x2)]) (st' := [.int (F7 32 10)]) 1 rfl ?_
          cases hD
          exact k_iret rfl rfl
      · rw [c14_3, cond_false] at hD
        refine k_runB (pc' := 18) (loc' := [(0, .ref (0 * 1024)), (1, .int x1), (2, .int x2)]) (st' := [.int ((-1))]) 1 rfl ?_
        cases hD
        exact k_iret rfl rfl
def e_SleepWork_bestOfTwo_63 (n : Nat) (P : Nat → Nat → Nat) (F : Nat → Nat → Int32) (A : Nat → Nat → Nat → Int32) (J : Nat → Nat → Nat → Int64) (s0 : Int32) : Option (Int32 × (Nat → Nat → Nat) × (Nat → Nat → Int32) × (Nat → Nat → Nat → Int32) × (Nat → Nat → Nat → Int64)) :=
    (e_SleepWork_codeOf P F A J s0).bind fun v13 =>
    some (v13, P, F, A, J)
set_option maxRecDepth 10000 in
theorem t_e_SleepWork_bestOfTwo_63 (ht : ∀ ci k, t.1 ci k = k_ty ci k) {n : Nat}  {P : Nat → Nat → Nat} {F : Nat → Nat → Int32} {A : Nat → Nat → Nat → Int32} {J : Nat → Nat → Nat → Int64} {s0 : Int32}  {w : Int32 × (Nat → Nat → Nat) × (Nat → Nat → Int32) × (Nat → Nat → Nat → Int32) × (Nat → Nat → Nat → Int64)} : e_SleepWork_bestOfTwo_63 n P F A J s0 = some w → k_run t lg (d + 7) 123 63 [(0, .ref (0 * 1024))] [.int s0] (c_h c B P F A J) (some (.int w.1), c_h c B w.2.1 w.2.2.1 w.2.2.2.1 w.2.2.2.2) := by
  intro hD
  unfold e_SleepWork_bestOfTwo_63 at hD
  obtain ⟨v13, hv13, hD⟩ := Option.bind_eq_some_iff.mp hD
  refine k_runC rfl rfl rfl rfl (t_e_SleepWork_codeOf (d := d + 6) hv13) ?_
  cases hD
  exact k_iret rfl rfl
/-- SleepWork.bestOfTwo(III)I  -/
def e_SleepWork_bestOfTwo (n : Nat) (P : Nat → Nat → Nat) (F : Nat → Nat → Int32) (A : Nat → Nat → Nat → Int32) (J : Nat → Nat → Nat → Int64) (x1 : Int32) (x2 : Int32) (x3 : Int32) : Option (Int32 × (Nat → Nat → Nat) × (Nat → Nat → Int32) × (Nat → Nat → Nat → Int32) × (Nat → Nat → Nat → Int64)) :=
  (e_SleepWork_areTwoMen P F A J x1 x2).bind fun v1 =>
  cond (g_cnd .eq v1 0)
  (some ((-1), P, F, A, J))
  (cond (g_cnd .lt x3 0)
  (some ((-1), P, F, A, J))
  (cond (g_cnd .le x3 2)
  ((e_Evening_seekForTwo n P F A J x1 x2).bind fun (_, P6, F7, A8, J9) =>
  cond (g_cnd .ne x3 0)
  (cond (g_cnd .ne x3 1)
  ((e_SleepWork_codeOf P6 F7 A8 J9 (F7 32 13)).bind fun v12 =>
  some (v12, P6, F7, A8, J9))
  (e_SleepWork_bestOfTwo_63 n P6 F7 A8 J9 (F7 32 12)))
  (some (F7 32 10, P6, F7, A8, J9)))
  (some ((-1), P, F, A, J))))
set_option maxRecDepth 10000 in
theorem t_e_SleepWork_bestOfTwo (ht : ∀ ci k, t.1 ci k = k_ty ci k) {n : Nat} {P : Nat → Nat → Nat} {F : Nat → Nat → Int32} {A : Nat → Nat → Nat → Int32} {J : Nat → Nat → Nat → Int64} {x1 : Int32} {x2 : Int32} {x3 : Int32}  {w : Int32 × (Nat → Nat → Nat) × (Nat → Nat → Int32) × (Nat → Nat → Nat → Int32) × (Nat → Nat → Nat → Int64)} : e_SleepWork_bestOfTwo n P F A J x1 x2 x3 = some w → k_run t lg (d + 7) 123 0 [(0, .ref (0 * 1024)), (1, .int x1), (2, .int x2), (3, .int x3)] [] (c_h c B P F A J) (some (.int w.1), c_h c B w.2.1 w.2.2.1 w.2.2.2.1 w.2.2.2.2) := by
  intro hD
  unfold e_SleepWork_bestOfTwo at hD
  refine k_runB (pc' := 3) (loc' := [(0, .ref (0 * 1024)), (1, .int x1), (2, .int x2), (3, .int x3)]) (st' := [.int x2, .int x1, .ref (0 * 1024)]) 3 rfl ?_
  obtain ⟨v1, hv1, hD⟩ := Option.bind_eq_some_iff.mp hD
  refine k_runV rfl rfl rfl (c_get (r := 0) (o := 0) (K := 0) rfl (by decide)) rfl rfl (t_e_SleepWork_areTwoMen (d := d + 5) hv1) ?_
  refine k_if rfl (fun c6_1 => ?_) (fun c6_1 => ?_)
  · rw [c6_1, cond_true] at hD
    refine k_runB (pc' := 19) (loc' := [(0, .ref (0 * 1024)), (1, .int x1), (2, .int x2), (3, .int x3)]) (st' := [.int ((-1))]) 1 rfl ?_
    cases hD
    exact k_iret rfl rfl
  · rw [c6_1, cond_false] at hD
    refine k_runB (pc' := 10) (loc' := [(0, .ref (0 * 1024)), (1, .int x1), (2, .int x2), (3, .int x3)]) (st' := [.int x3]) 1 rfl ?_
    refine k_if rfl (fun c10_2 => ?_) (fun c10_2 => ?_)
    · rw [c10_2, cond_true] at hD
      refine k_runB (pc' := 19) (loc' := [(0, .ref (0 * 1024)), (1, .int x1), (2, .int x2), (3, .int x3)]) (st' := [.int ((-1))]) 1 rfl ?_
      cases hD
      exact k_iret rfl rfl
    · rw [c10_2, cond_false] at hD
      refine k_runB (pc' := 15) (loc' := [(0, .ref (0 * 1024)), (1, .int x1), (2, .int x2), (3, .int x3)]) (st' := [.int 2, .int x3]) 2 rfl ?_
      refine k_ic rfl (fun c15_3 => ?_) (fun c15_3 => ?_)
      · rw [c15_3, cond_true] at hD
        refine k_runB (pc' := 21) (loc' := [(0, .ref (0 * 1024)), (1, .int x1), (2, .int x2), (3, .int x3)]) (st' := [.ref (0 * 1024)]) 1 rfl ?_
        refine k_gf 0 0 (K := 0) rfl rfl rfl rfl rfl ?_
        refine k_runB (pc' := 26) (loc' := [(0, .ref (0 * 1024)), (1, .int x1), (2, .int x2), (3, .int x3)]) (st' := [.int x2, .int x1, .ref (32 * 1024)]) 2 rfl ?_
        obtain ⟨⟨v5, P6, F7, A8, J9⟩, hv5, hD⟩ := Option.bind_eq_some_iff.mp hD
        dsimp only at hD
        refine k_runV rfl rfl rfl (c_get (r := 32) (o := 0) (K := 7) rfl (by decide)) rfl rfl (t_e_Evening_seekForTwo (d := d) ht hv5) ?_
        refine k_runB (pc' := 30) (loc' := [(0, .ref (0 * 1024)), (1, .int x1), (2, .int x2), (3, .int x3)]) (st' := [.int x3]) 1 rfl ?_
        refine k_if rfl (fun c30_9 => ?_) (fun c30_9 => ?_)
        · rw [c30_9, cond_true] at hD
          refine k_runB (pc' := 43) (loc' := [(0, .ref (0 * 1024)), (1, .int x1), (2, .int x2), (3, .int x3)]) (st' := [.int 1, .int x3]) 2 rfl ?_
          refine k_ic rfl (fun c43_10 => ?_) (fun c43_10 => ?_)
          · rw [c43_10, cond_true] at hD
            refine k_runB (pc' := 57) (loc' := [(0, .ref (0 * 1024)), (1, .int x1), (2, .int x2), (3, .int x3)]) (st' := [.ref (0 * 1024)]) 1 rfl ?_
            refine k_gf 0 0 (K := 0) rfl rfl rfl rfl rfl ?_
            refine k_gf 32 0 (K := 7) rfl rfl rfl rfl rfl ?_
            obtain ⟨v12, hv12, hD⟩ := Option.bind_eq_some_iff.mp hD
            refine k_runC rfl rfl rfl rfl (t_e_SleepWork_codeOf (d := d + 6) hv12) ?_
            cases hD
            exact k_iret rfl rfl
          · rw [c43_10, cond_false] at hD
            refine k_runB (pc' := 47) (loc' := [(0, .ref (0 * 1024)), (1, .int x1), (2, .int x2), (3, .int x3)]) (st' := [.ref (0 * 1024)]) 1 rfl ?_
            refine k_gf 0 0 (K := 0) rfl rfl rfl rfl rfl ?_
            refine k_gf 32 0 (K := 7) rfl rfl rfl rfl rfl ?_
            refine k_runB (pc' := 63) (loc' := [(0, .ref (0 * 1024)), (1, .int x1), (2, .int x2), (3, .int x3)]) (st' := [.int (F7 32 12)]) 1 rfl ?_
            refine k_wk [0] (loc' := [(0, .ref (0 * 1024))]) rfl rfl ?_
            exact t_e_SleepWork_bestOfTwo_63 ht   hD
        · rw [c30_9, cond_false] at hD
          refine k_runB (pc' := 34) (loc' := [(0, .ref (0 * 1024)), (1, .int x1), (2, .int x2), (3, .int x3)]) (st' := [.ref (0 * 1024)]) 1 rfl ?_
          refine k_gf 0 0 (K := 0) rfl rfl rfl rfl rfl ?_
          refine k_gf 32 0 (K := 7) rfl rfl rfl rfl rfl ?_
          cases hD
          exact k_iret rfl rfl
      · rw [c15_3, cond_false] at hD
        refine k_runB (pc' := 19) (loc' := [(0, .ref (0 * 1024)), (1, .int x1), (2, .int x2), (3, .int x3)]) (st' := [.int ((-1))]) 1 rfl ?_
        cases hD
        exact k_iret rfl rfl
/-- SleepWork.hire(I)I  -/
def e_SleepWork_hire (n : Nat) (P : Nat → Nat → Nat) (F : Nat → Nat → Int32) (A : Nat → Nat → Nat → Int32) (J : Nat → Nat → Nat → Int64) (x1 : Int32) : Option (Int32 × (Nat → Nat → Nat) × (Nat → Nat → Int32) × (Nat → Nat → Nat → Int32) × (Nat → Nat → Nat → Int64)) :=
  (e_SleepWork_isMan P F A J x1).bind fun v1 =>
  cond (g_cnd .ne v1 0)
  ((e_Evening_seekForOne n P F A J x1).bind fun (_, P4, F5, A6, J7) =>
  some ((F5 32 10) - (F5 32 11), P4, F5, A6, J7))
  (some ((-1000000), P, F, A, J))
set_option maxRecDepth 10000 in
theorem t_e_SleepWork_hire (ht : ∀ ci k, t.1 ci k = k_ty ci k) {n : Nat} {P : Nat → Nat → Nat} {F : Nat → Nat → Int32} {A : Nat → Nat → Nat → Int32} {J : Nat → Nat → Nat → Int64} {x1 : Int32}  {w : Int32 × (Nat → Nat → Nat) × (Nat → Nat → Int32) × (Nat → Nat → Nat → Int32) × (Nat → Nat → Nat → Int64)} : e_SleepWork_hire n P F A J x1 = some w → k_run t lg (d + 7) 125 0 [(0, .ref (0 * 1024)), (1, .int x1)] [] (c_h c B P F A J) (some (.int w.1), c_h c B w.2.1 w.2.2.1 w.2.2.2.1 w.2.2.2.2) := by
  intro hD
  unfold e_SleepWork_hire at hD
  refine k_runB (pc' := 2) (loc' := [(0, .ref (0 * 1024)), (1, .int x1)]) (st' := [.int x1, .ref (0 * 1024)]) 2 rfl ?_
  obtain ⟨v1, hv1, hD⟩ := Option.bind_eq_some_iff.mp hD
  refine k_runV rfl rfl rfl (c_get (r := 0) (o := 0) (K := 0) rfl (by decide)) rfl rfl (t_e_SleepWork_isMan (d := d + 6) hv1) ?_
  refine k_if rfl (fun c5_1 => ?_) (fun c5_1 => ?_)
  · rw [c5_1, cond_true] at hD
    refine k_runB (pc' := 12) (loc' := [(0, .ref (0 * 1024)), (1, .int x1)]) (st' := [.ref (0 * 1024)]) 1 rfl ?_
    refine k_gf 0 0 (K := 0) rfl rfl rfl rfl rfl ?_
    refine k_runB (pc' := 16) (loc' := [(0, .ref (0 * 1024)), (1, .int x1)]) (st' := [.int x1, .ref (32 * 1024)]) 1 rfl ?_
    obtain ⟨⟨v3, P4, F5, A6, J7⟩, hv3, hD⟩ := Option.bind_eq_some_iff.mp hD
    dsimp only at hD
    refine k_runV rfl rfl rfl (c_get (r := 32) (o := 0) (K := 7) rfl (by decide)) rfl rfl (t_e_Evening_seekForOne (d := d) ht hv3) ?_
    refine k_runB (pc' := 20) (loc' := [(0, .ref (0 * 1024)), (1, .int x1)]) (st' := [.ref (0 * 1024)]) 1 rfl ?_
    refine k_gf 0 0 (K := 0) rfl rfl rfl rfl rfl ?_
    refine k_gf 32 0 (K := 7) rfl rfl rfl rfl rfl ?_
    refine k_runB (pc' := 27) (loc' := [(0, .ref (0 * 1024)), (1, .int x1)]) (st' := [.ref (0 * 1024), .int (F5 32 10)]) 1 rfl ?_
    refine k_gf 0 0 (K := 0) rfl rfl rfl rfl rfl ?_
    refine k_gf 32 0 (K := 7) rfl rfl rfl rfl rfl ?_
    refine k_runB (pc' := 34) (loc' := [(0, .ref (0 * 1024)), (1, .int x1)]) (st' := [.int ((F5 32 10) - (F5 32 11))]) 1 rfl ?_
    cases hD
    exact k_iret rfl rfl
  · rw [c5_1, cond_false] at hD
    refine k_runB (pc' := 10) (loc' := [(0, .ref (0 * 1024)), (1, .int x1)]) (st' := [.int ((-1000000))]) 1 rfl ?_
    cases hD
    exact k_iret rfl rfl
/-- SleepWork.hide(II)I  -/
def e_SleepWork_hide (n : Nat) (P : Nat → Nat → Nat) (F : Nat → Nat → Int32) (A : Nat → Nat → Nat → Int32) (J : Nat → Nat → Nat → Int64) (x1 : Int32) (x2 : Int32) : Option (Int32 × (Nat → Nat → Nat) × (Nat → Nat → Int32) × (Nat → Nat → Nat → Int32) × (Nat → Nat → Nat → Int64)) :=
  (e_SleepWork_isTool P F A J x1).bind fun v1 =>
  cond (g_cnd .eq v1 0)
  (some ((-1), P, F, A, J))
  ((c_chk 6 (P 0 8)).bind fun q3 =>
  cond (g_cnd .eq (F q3 13) 0)
  (some ((-1), P, F, A, J))
  (cond (g_cnd .lt x2 0)
  (some ((-1), P, F, A, J))
  (cond (g_cnd .le x2 1)
  ((e_Evening_seekHidingPlace n P F A J x1).bind fun (_, P8, F9, A10, J11) =>
  cond (g_cnd .ne x2 0)
  (some (F9 32 12, P8, F9, A10, J11))
  (some (F9 32 10, P8, F9, A10, J11)))
  (some ((-1), P, F, A, J)))))
set_option maxRecDepth 10000 in
theorem t_e_SleepWork_hide (ht : ∀ ci k, t.1 ci k = k_ty ci k) {n : Nat} {P : Nat → Nat → Nat} {F : Nat → Nat → Int32} {A : Nat → Nat → Nat → Int32} {J : Nat → Nat → Nat → Int64} {x1 : Int32} {x2 : Int32}  {w : Int32 × (Nat → Nat → Nat) × (Nat → Nat → Int32) × (Nat → Nat → Nat → Int32) × (Nat → Nat → Nat → Int64)} : e_SleepWork_hide n P F A J x1 x2 = some w → k_run t lg (d + 7) 126 0 [(0, .ref (0 * 1024)), (1, .int x1), (2, .int x2)] [] (c_h c B P F A J) (some (.int w.1), c_h c B w.2.1 w.2.2.1 w.2.2.2.1 w.2.2.2.2) := by
  intro hD
  unfold e_SleepWork_hide at hD
  refine k_runB (pc' := 2) (loc' := [(0, .ref (0 * 1024)), (1, .int x1), (2, .int x2)]) (st' := [.int x1, .ref (0 * 1024)]) 2 rfl ?_
  obtain ⟨v1, hv1, hD⟩ := Option.bind_eq_some_iff.mp hD
  refine k_runV rfl rfl rfl (c_get (r := 0) (o := 0) (K := 0) rfl (by decide)) rfl rfl (t_e_SleepWork_isTool (d := d + 6) hv1) ?_
  refine k_if rfl (fun c5_1 => ?_) (fun c5_1 => ?_)
  · rw [c5_1, cond_true] at hD
    refine k_runB (pc' := 28) (loc' := [(0, .ref (0 * 1024)), (1, .int x1), (2, .int x2)]) (st' := [.int ((-1))]) 1 rfl ?_
    cases hD
    exact k_iret rfl rfl
  · rw [c5_1, cond_false] at hD
    refine k_runB (pc' := 9) (loc' := [(0, .ref (0 * 1024)), (1, .int x1), (2, .int x2)]) (st' := [.ref (0 * 1024)]) 1 rfl ?_
    obtain ⟨q3, hq3, hD⟩ := Option.bind_eq_some_iff.mp hD
    refine k_gq 0 0 (K := 0) (K2 := 6) (key := 8) rfl rfl rfl rfl rfl hq3 (fun kq3 => ?_)
    refine k_gf q3 0 (K := 6) kq3 rfl rfl rfl rfl ?_
    refine k_if rfl (fun c15_3 => ?_) (fun c15_3 => ?_)
    · rw [c15_3, cond_true] at hD
      refine k_runB (pc' := 28) (loc' := [(0, .ref (0 * 1024)), (1, .int x1), (2, .int x2)]) (st' := [.int ((-1))]) 1 rfl ?_
      cases hD
      exact k_iret rfl rfl
    · rw [c15_3, cond_false] at hD
      refine k_runB (pc' := 19) (loc' := [(0, .ref (0 * 1024)), (1, .int x1), (2, .int x2)]) (st' := [.int x2]) 1 rfl ?_
      refine k_if rfl (fun c19_4 => ?_) (fun c19_4 => ?_)
      · rw [c19_4, cond_true] at hD
        refine k_runB (pc' := 28) (loc' := [(0, .ref (0 * 1024)), (1, .int x1), (2, .int x2)]) (st' := [.int ((-1))]) 1 rfl ?_
        cases hD
        exact k_iret rfl rfl
      · rw [c19_4, cond_false] at hD
        refine k_runB (pc' := 24) (loc' := [(0, .ref (0 * 1024)), (1, .int x1), (2, .int x2)]) (st' := [.int 1, .int x2]) 2 rfl ?_
        refine k_ic rfl (fun c24_5 => ?_) (fun c24_5 => ?_)
        · rw [c24_5, cond_true] at hD
          refine k_runB (pc' := 30) (loc' := [(0, .ref (0 * 1024)), (1, .int x1), (2, .int x2)]) (st' := [.ref (0 * 1024)]) 1 rfl ?_
          refine k_gf 0 0 (K := 0) rfl rfl rfl rfl rfl ?_
          refine k_runB (pc' := 34) (loc' := [(0, .ref (0 * 1024)), (1, .int x1), (2, .int x2)]) (st' := [.int x1, .ref (32 * 1024)]) 1 rfl ?_
          obtain ⟨⟨v7, P8, F9, A10, J11⟩, hv7, hD⟩ := Option.bind_eq_some_iff.mp hD
          dsimp only at hD
          refine k_runV rfl rfl rfl (c_get (r := 32) (o := 0) (K := 7) rfl (by decide)) rfl rfl (t_e_Evening_seekHidingPlace (d := d) ht hv7) ?_
          refine k_runB (pc' := 38) (loc' := [(0, .ref (0 * 1024)), (1, .int x1), (2, .int x2)]) (st' := [.int x2]) 1 rfl ?_
          refine k_if rfl (fun c38_11 => ?_) (fun c38_11 => ?_)
          · rw [c38_11, cond_true] at hD
            refine k_runB (pc' := 52) (loc' := [(0, .ref (0 * 1024)), (1, .int x1), (2, .int x2)]) (st' := [.ref (0 * 1024)]) 1 rfl ?_
            refine k_gf 0 0 (K := 0) rfl rfl rfl rfl rfl ?_
            refine k_gf 32 0 (K := 7) rfl rfl rfl rfl rfl ?_
            cases hD
            exact k_iret rfl rfl
          · rw [c38_11, cond_false] at hD
            refine k_runB (pc' := 42) (loc' := [(0, .ref (0 * 1024)), (1, .int x1), (2, .int x2)]) (st' := [.ref (0 * 1024)]) 1 rfl ?_
            refine k_gf 0 0 (K := 0) rfl rfl rfl rfl rfl ?_
            refine k_gf 32 0 (K := 7) rfl rfl rfl rfl rfl ?_
            refine k_runB (pc' := 58) (loc' := [(0, .ref (0 * 1024)), (1, .int x1), (2, .int x2)]) (st' := [.int (F9 32 10)]) 1 rfl ?_
            cases hD
            exact k_iret rfl rfl
        · rw [c24_5, cond_false] at hD
          refine k_runB (pc' := 28) (loc' := [(0, .ref (0 * 1024)), (1, .int x1), (2, .int x2)]) (st' := [.int ((-1))]) 1 rfl ?_
          cases hD
          exact k_iret rfl rfl
/-- SleepWork.where(II)I  -/
def e_SleepWork_where (n : Nat) (P : Nat → Nat → Nat) (F : Nat → Nat → Int32) (A : Nat → Nat → Nat → Int32) (J : Nat → Nat → Nat → Int64) (x1 : Int32) (x2 : Int32) : Option (Int32 × (Nat → Nat → Nat) × (Nat → Nat → Int32) × (Nat → Nat → Nat → Int32) × (Nat → Nat → Nat → Int64)) :=
  (e_SleepWork_isMan P F A J x1).bind fun v1 =>
  cond (g_cnd .eq v1 0)
  (some ((-1), P, F, A, J))
  (cond (g_cnd .lt x2 0)
  (some ((-1), P, F, A, J))
  ((c_chk 6 (P 0 8)).bind fun q4 =>
  cond (g_cnd .le x2 (F q4 18))
  ((c_chk 6 (P 0 8)).bind fun q6 =>
  (m_ld (A q6 12) 6 x1).bind fun v7 =>
  (m_ld (A 2 3) 6 x1).bind fun v8 =>
  cond (g_cnd .ge v8 0)
  ((c_chk 6 (P 0 8)).bind fun q10 =>
  (m_div v8 6).bind fun v11 =>
  (m_ld (A q10 4) 6 v11).bind fun v12 =>
  (e_Evening_minutesBetween n P F A J v7 v12).bind fun (v13, P14, F15, A16, J17) =>
  cond (g_cnd .gt v13 x2)
  (some (v7, P14, F15, A16, J17))
  (some (v12, P14, F15, A16, J17)))
  (some (v7, P, F, A, J)))
  (some ((-1), P, F, A, J))))
set_option maxRecDepth 10000 in
theorem t_e_SleepWork_where (ht : ∀ ci k, t.1 ci k = k_ty ci k) {n : Nat} {P : Nat → Nat → Nat} {F : Nat → Nat → Int32} {A : Nat → Nat → Nat → Int32} {J : Nat → Nat → Nat → Int64} {x1 : Int32} {x2 : Int32}  {w : Int32 × (Nat → Nat → Nat) × (Nat → Nat → Int32) × (Nat → Nat → Nat → Int32) × (Nat → Nat → Nat → Int64)} : e_SleepWork_where n P F A J x1 x2 = some w → k_run t lg (d + 4) 128 0 [(0, .ref (0 * 1024)), (1, .int x1), (2, .int x2)] [] (c_h c B P F A J) (some (.int w.1), c_h c B w.2.1 w.2.2.1 w.2.2.2.1 w.2.2.2.2) := by
  intro hD
  unfold e_SleepWork_where at hD
  refine k_runB (pc' := 2) (loc' := [(0, .ref (0 * 1024)), (1, .int x1), (2, .int x2)]) (st' := [.int x1, .ref (0 * 1024)]) 2 rfl ?_
  obtain ⟨v1, hv1, hD⟩ := Option.bind_eq_some_iff.mp hD
  refine k_runV rfl rfl rfl (c_get (r := 0) (o := 0) (K := 0) rfl (by decide)) rfl rfl (t_e_SleepWork_isMan (d := d + 3) hv1) ?_
  refine k_if rfl (fun c5_1 => ?_) (fun c5_1 => ?_)
  · rw [c5_1, cond_true] at hD
    refine k_runB (pc' := 24) (loc' := [(0, .ref (0 * 1024)), (1, .int x1), (2, .int x2)]) (st' := [.int ((-1))]) 1 rfl ?_
    cases hD
    exact k_iret rfl rfl
  · rw [c5_1, cond_false] at hD
    refine k_runB (pc' := 9) (loc' := [(0, .ref (0 * 1024)), (1, .int x1), (2, .int x2)]) (st' := [.int x2]) 1 rfl ?_
    refine k_if rfl (fun c9_2 => ?_) (fun c9_2 => ?_)
    · rw [c9_2, cond_true] at hD
      refine k_runB (pc' := 24) (loc' := [(0, .ref (0 * 1024)), (1, .int x1), (2, .int x2)]) (st' := [.int ((-1))]) 1 rfl ?_
      cases hD
      exact k_iret rfl rfl
    · rw [c9_2, cond_false] at hD
      refine k_runB (pc' := 14) (loc' := [(0, .ref (0 * 1024)), (1, .int x1), (2, .int x2)]) (st' := [.ref (0 * 1024), .int x2]) 2 rfl ?_
      obtain ⟨q4, hq4, hD⟩ := Option.bind_eq_some_iff.mp hD
      refine k_gq 0 0 (K := 0) (K2 := 6) (key := 8) rfl rfl rfl rfl rfl hq4 (fun kq4 => ?_)
      refine k_gf q4 0 (K := 6) kq4 rfl rfl rfl rfl ?_
      refine k_ic rfl (fun c20_4 => ?_) (fun c20_4 => ?_)
      · rw [c20_4, cond_true] at hD
        refine k_runB (pc' := 26) (loc' := [(0, .ref (0 * 1024)), (1, .int x1), (2, .int x2)]) (st' := [.ref (0 * 1024)]) 1 rfl ?_
        obtain ⟨q6, hq6, hD⟩ := Option.bind_eq_some_iff.mp hD
        refine k_gq 0 0 (K := 0) (K2 := 6) (key := 8) rfl rfl rfl rfl rfl hq6 (fun kq6 => ?_)
        refine k_gf q6 0 (K := 6) kq6 rfl rfl rfl rfl ?_
        refine k_runB (pc' := 33) (loc' := [(0, .ref (0 * 1024)), (1, .int x1), (2, .int x2)]) (st' := [.int x1, .ref (q6 * 1024 + 12)]) 1 rfl ?_
        obtain ⟨v7, hv7, hD⟩ := Option.bind_eq_some_iff.mp hD
        refine k_ldI rfl (c_get (r := q6) (o := 12) (K := 6) kq6 (by decide)) hv7 ?_
        refine k_runB (pc' := 36) (loc' := [(0, .ref (0 * 1024)), (1, .int x1), (2, .int x2), (3, .int v7)]) (st' := [.ref (0 * 1024)]) 2 rfl ?_
        refine k_gf 0 0 (K := 0) rfl rfl rfl rfl rfl ?_
        refine k_gf 2 0 (K := 2) rfl rfl rfl rfl rfl ?_
        refine k_runB (pc' := 43) (loc' := [(0, .ref (0 * 1024)), (1, .int x1), (2, .int x2), (3, .int v7)]) (st' := [.int x1, .ref (2 * 1024 + 3)]) 1 rfl ?_
        obtain ⟨v8, hv8, hD⟩ := Option.bind_eq_some_iff.mp hD
        refine k_ldI rfl (c_get (r := 2) (o := 3) (K := 2) rfl (by decide)) hv8 ?_
        refine k_runB (pc' := 48) (loc' := [(0, .ref (0 * 1024)), (1, .int x1), (2, .int x2), (3, .int v7), (4, .int v8)]) (st' := [.int v8]) 2 rfl ?_
        refine k_if rfl (fun c48_8 => ?_) (fun c48_8 => ?_)
        · rw [c48_8, cond_true] at hD
          refine k_runB (pc' := 54) (loc' := [(0, .ref (0 * 1024)), (1, .int x1), (2, .int x2), (3, .int v7), (4, .int v8)]) (st' := [.ref (0 * 1024)]) 1 rfl ?_
          obtain ⟨q10, hq10, hD⟩ := Option.bind_eq_some_iff.mp hD
          refine k_gq 0 0 (K := 0) (K2 := 6) (key := 8) rfl rfl rfl rfl rfl hq10 (fun kq10 => ?_)
          refine k_gf q10 0 (K := 6) kq10 rfl rfl rfl rfl ?_
          refine k_runB (pc' := 64) (loc' := [(0, .ref (0 * 1024)), (1, .int x1), (2, .int x2), (3, .int v7), (4, .int v8)]) (st' := [.int 6, .int v8, .ref (q10 * 1024 + 4)]) 2 rfl ?_
          obtain ⟨v11, hv11, hD⟩ := Option.bind_eq_some_iff.mp hD
          refine k_dvI rfl hv11 ?_
          obtain ⟨v12, hv12, hD⟩ := Option.bind_eq_some_iff.mp hD
          refine k_ldI rfl (c_get (r := q10) (o := 4) (K := 6) kq10 (by decide)) hv12 ?_
          refine k_runB (pc' := 69) (loc' := [(0, .ref (0 * 1024)), (1, .int x1), (2, .int x2), (3, .int v7), (4, .int v8), (5, .int v12)]) (st' := [.ref (0 * 1024)]) 2 rfl ?_
          refine k_gf 0 0 (K := 0) rfl rfl rfl rfl rfl ?_
          refine k_runB (pc' := 75) (loc' := [(0, .ref (0 * 1024)), (1, .int x1), (2, .int x2), (3, .int v7), (4, .int v8), (5, .int v12)]) (st' := [.int v12, .int v7, .ref (32 * 1024)]) 2 rfl ?_
          obtain ⟨⟨v13, P14, F15, A16, J17⟩, hv13, hD⟩ := Option.bind_eq_some_iff.mp hD
          dsimp only at hD
          refine k_runV rfl rfl rfl (c_get (r := 32) (o := 0) (K := 7) rfl (by decide)) rfl rfl (t_e_Evening_minutesBetween (d := d) ht hv13) ?_
          refine k_runB (pc' := 79) (loc' := [(0, .ref (0 * 1024)), (1, .int x1), (2, .int x2), (3, .int v7), (4, .int v8), (5, .int v12)]) (st' := [.int x2, .int v13]) 1 rfl ?_
          refine k_ic rfl (fun c79_17 => ?_) (fun c79_17 => ?_)
          · rw [c79_17, cond_true] at hD
            refine k_runB (pc' := 88) (loc' := [(0, .ref (0 * 1024)), (1, .int x1), (2, .int x2), (3, .int v7), (4, .int v8), (5, .int v12)]) (st' := [.int v7]) 1 rfl ?_
            cases hD
            exact k_iret rfl rfl
          · rw [c79_17, cond_false] at hD
            refine k_runB (pc' := 88) (loc' := [(0, .ref (0 * 1024)), (1, .int x1), (2, .int x2), (3, .int v7), (4, .int v8), (5, .int v12)]) (st' := [.int v12]) 2 rfl ?_
            cases hD
            exact k_iret rfl rfl
        · rw [c48_8, cond_false] at hD
          refine k_runB (pc' := 52) (loc' := [(0, .ref (0 * 1024)), (1, .int x1), (2, .int x2), (3, .int v7), (4, .int v8)]) (st' := [.int v7]) 1 rfl ?_
          cases hD
          exact k_iret rfl rfl
      · rw [c20_4, cond_false] at hD
        refine k_runB (pc' := 24) (loc' := [(0, .ref (0 * 1024)), (1, .int x1), (2, .int x2)]) (st' := [.int ((-1))]) 1 rfl ?_
        cases hD
        exact k_iret rfl rfl
/-- SleepWork.strokes(II)I  -/
def e_SleepWork_strokes (n : Nat) (P : Nat → Nat → Nat) (F : Nat → Nat → Int32) (A : Nat → Nat → Nat → Int32) (J : Nat → Nat → Nat → Int64) (x1 : Int32) (x2 : Int32) : Option (Int32 × (Nat → Nat → Nat) × (Nat → Nat → Int32) × (Nat → Nat → Nat → Int32) × (Nat → Nat → Nat → Int64)) :=
  (e_SleepWork_isMan P F A J x1).bind fun v1 =>
  cond (g_cnd .eq v1 0)
  (some ((-1), P, F, A, J))
  (cond (g_cnd .lt x2 0)
  (some ((-1), P, F, A, J))
  ((c_chk 6 (P 0 8)).bind fun q4 =>
  cond (g_cnd .le x2 (F q4 18))
  ((e_Evening_strokesTill n P F A J x1 x2).bind fun (v6, P7, F8, A9, J10) =>
  some (v6, P7, F8, A9, J10))
  (some ((-1), P, F, A, J))))
set_option maxRecDepth 10000 in
theorem t_e_SleepWork_strokes (ht : ∀ ci k, t.1 ci k = k_ty ci k) {n : Nat} {P : Nat → Nat → Nat} {F : Nat → Nat → Int32} {A : Nat → Nat → Nat → Int32} {J : Nat → Nat → Nat → Int64} {x1 : Int32} {x2 : Int32}  {w : Int32 × (Nat → Nat → Nat) × (Nat → Nat → Int32) × (Nat → Nat → Nat → Int32) × (Nat → Nat → Nat → Int64)} : e_SleepWork_strokes n P F A J x1 x2 = some w → k_run t lg (d + 6) 129 0 [(0, .ref (0 * 1024)), (1, .int x1), (2, .int x2)] [] (c_h c B P F A J) (some (.int w.1), c_h c B w.2.1 w.2.2.1 w.2.2.2.1 w.2.2.2.2) := by
  intro hD
  unfold e_SleepWork_strokes at hD
  refine k_runB (pc' := 2) (loc' := [(0, .ref (0 * 1024)), (1, .int x1), (2, .int x2)]) (st' := [.int x1, .ref (0 * 1024)]) 2 rfl ?_
  obtain ⟨v1, hv1, hD⟩ := Option.bind_eq_some_iff.mp hD
  refine k_runV rfl rfl rfl (c_get (r := 0) (o := 0) (K := 0) rfl (by decide)) rfl rfl (t_e_SleepWork_isMan (d := d + 5) hv1) ?_
  refine k_if rfl (fun c5_1 => ?_) (fun c5_1 => ?_)
  · rw [c5_1, cond_true] at hD
    refine k_runB (pc' := 24) (loc' := [(0, .ref (0 * 1024)), (1, .int x1), (2, .int x2)]) (st' := [.int ((-1))]) 1 rfl ?_
    cases hD
    exact k_iret rfl rfl
  · rw [c5_1, cond_false] at hD
    refine k_runB (pc' := 9) (loc' := [(0, .ref (0 * 1024)), (1, .int x1), (2, .int x2)]) (st' := [.int x2]) 1 rfl ?_
    refine k_if rfl (fun c9_2 => ?_) (fun c9_2 => ?_)
    · rw [c9_2, cond_true] at hD
      refine k_runB (pc' := 24) (loc' := [(0, .ref (0 * 1024)), (1, .int x1), (2, .int x2)]) (st' := [.int ((-1))]) 1 rfl ?_
      cases hD
      exact k_iret rfl rfl
    · rw [c9_2, cond_false] at hD
      refine k_runB (pc' := 14) (loc' := [(0, .ref (0 * 1024)), (1, .int x1), (2, .int x2)]) (st' := [.ref (0 * 1024), .int x2]) 2 rfl ?_
      obtain ⟨q4, hq4, hD⟩ := Option.bind_eq_some_iff.mp hD
      refine k_gq 0 0 (K := 0) (K2 := 6) (key := 8) rfl rfl rfl rfl rfl hq4 (fun kq4 => ?_)
      refine k_gf q4 0 (K := 6) kq4 rfl rfl rfl rfl ?_
      refine k_ic rfl (fun c20_4 => ?_) (fun c20_4 => ?_)
      · rw [c20_4, cond_true] at hD
        refine k_runB (pc' := 26) (loc' := [(0, .ref (0 * 1024)), (1, .int x1), (2, .int x2)]) (st' := [.ref (0 * 1024)]) 1 rfl ?_
        refine k_gf 0 0 (K := 0) rfl rfl rfl rfl rfl ?_
        refine k_runB (pc' := 31) (loc' := [(0, .ref (0 * 1024)), (1, .int x1), (2, .int x2)]) (st' := [.int x2, .int x1, .ref (32 * 1024)]) 2 rfl ?_
        obtain ⟨⟨v6, P7, F8, A9, J10⟩, hv6, hD⟩ := Option.bind_eq_some_iff.mp hD
        dsimp only at hD
        refine k_runV rfl rfl rfl (c_get (r := 32) (o := 0) (K := 7) rfl (by decide)) rfl rfl (t_e_Evening_strokesTill (d := d) ht hv6) ?_
        cases hD
        exact k_iret rfl rfl
      · rw [c20_4, cond_false] at hD
        refine k_runB (pc' := 24) (loc' := [(0, .ref (0 * 1024)), (1, .int x1), (2, .int x2)]) (st' := [.int ((-1))]) 1 rfl ?_
        cases hD
        exact k_iret rfl rfl
/-- SleepWork.tell(III)I  -/
def e_SleepWork_tell (P : Nat → Nat → Nat) (F : Nat → Nat → Int32) (A : Nat → Nat → Nat → Int32) (J : Nat → Nat → Nat → Int64) (x1 : Int32) (x2 : Int32) (x3 : Int32) : Option (Int32 × (Nat → Nat → Nat) × (Nat → Nat → Int32) × (Nat → Nat → Nat → Int32) × (Nat → Nat → Nat → Int64)) :=
  (c_chk 6 (P 0 8)).bind fun q1 =>
  (e_House_hasStep P F A J q1 x1 x2).bind fun v2 =>
  cond (g_cnd .eq v2 0)
  (some ((-1), P, F, A, J))
  (cond (g_cnd .lt x3 0)
  (some ((-1), P, F, A, J))
  (cond (g_cnd .gt x3 999)
  (some ((-1), P, F, A, J))
  ((e_Told_isFull P F A J).bind fun v6 =>
  cond (g_cnd .eq v6 0)
  ((e_Told_add P F A J ((x1 * 6) + x2) x3).bind fun (v8, P9, F10, A11, J12) =>
  some (v8, P9, F10, A11, J12))
  (some ((-1), P, F, A, J)))))
set_option maxRecDepth 10000 in
theorem t_e_SleepWork_tell (ht : ∀ ci k, t.1 ci k = k_ty ci k) {P : Nat → Nat → Nat} {F : Nat → Nat → Int32} {A : Nat → Nat → Nat → Int32} {J : Nat → Nat → Nat → Int64} {x1 : Int32} {x2 : Int32} {x3 : Int32}  {w : Int32 × (Nat → Nat → Nat) × (Nat → Nat → Int32) × (Nat → Nat → Nat → Int32) × (Nat → Nat → Nat → Int64)} : e_SleepWork_tell P F A J x1 x2 x3 = some w → k_run t lg (d + 1) 130 0 [(0, .ref (0 * 1024)), (1, .int x1), (2, .int x2), (3, .int x3)] [] (c_h c B P F A J) (some (.int w.1), c_h c B w.2.1 w.2.2.1 w.2.2.2.1 w.2.2.2.2) := by
  intro hD
  unfold e_SleepWork_tell at hD
  refine k_runB (pc' := 1) (loc' := [(0, .ref (0 * 1024)), (1, .int x1), (2, .int x2), (3, .int x3)]) (st' := [.ref (0 * 1024)]) 1 rfl ?_
  obtain ⟨q1, hq1, hD⟩ := Option.bind_eq_some_iff.mp hD
  refine k_gq 0 0 (K := 0) (K2 := 6) (key := 8) rfl rfl rfl rfl rfl hq1 (fun kq1 => ?_)
  refine k_runB (pc' := 6) (loc' := [(0, .ref (0 * 1024)), (1, .int x1), (2, .int x2), (3, .int x3)]) (st' := [.int x2, .int x1, .ref (q1 * 1024)]) 2 rfl ?_
  obtain ⟨v2, hv2, hD⟩ := Option.bind_eq_some_iff.mp hD
  refine k_runV rfl rfl rfl (c_get (r := q1) (o := 0) (K := 6) kq1 (by decide)) rfl rfl (t_e_House_hasStep (d := d) kq1 hv2) ?_
  refine k_if rfl (fun c9_2 => ?_) (fun c9_2 => ?_)
  · rw [c9_2, cond_true] at hD
    refine k_runB (pc' := 34) (loc' := [(0, .ref (0 * 1024)), (1, .int x1), (2, .int x2), (3, .int x3)]) (st' := [.int ((-1))]) 1 rfl ?_
    cases hD
    exact k_iret rfl rfl
  · rw [c9_2, cond_false] at hD
    refine k_runB (pc' := 13) (loc' := [(0, .ref (0 * 1024)), (1, .int x1), (2, .int x2), (3, .int x3)]) (st' := [.int x3]) 1 rfl ?_
    refine k_if rfl (fun c13_3 => ?_) (fun c13_3 => ?_)
    · rw [c13_3, cond_true] at hD
      refine k_runB (pc' := 34) (loc' := [(0, .ref (0 * 1024)), (1, .int x1), (2, .int x2), (3, .int x3)]) (st' := [.int ((-1))]) 1 rfl ?_
      cases hD
      exact k_iret rfl rfl
    · rw [c13_3, cond_false] at hD
      refine k_runB (pc' := 20) (loc' := [(0, .ref (0 * 1024)), (1, .int x1), (2, .int x2), (3, .int x3)]) (st' := [.int 999, .int x3]) 2 rfl ?_
      refine k_ic rfl (fun c20_4 => ?_) (fun c20_4 => ?_)
      · rw [c20_4, cond_true] at hD
        refine k_runB (pc' := 34) (loc' := [(0, .ref (0 * 1024)), (1, .int x1), (2, .int x2), (3, .int x3)]) (st' := [.int ((-1))]) 1 rfl ?_
        cases hD
        exact k_iret rfl rfl
      · rw [c20_4, cond_false] at hD
        refine k_runB (pc' := 24) (loc' := [(0, .ref (0 * 1024)), (1, .int x1), (2, .int x2), (3, .int x3)]) (st' := [.ref (0 * 1024)]) 1 rfl ?_
        refine k_gf 0 0 (K := 0) rfl rfl rfl rfl rfl ?_
        obtain ⟨v6, hv6, hD⟩ := Option.bind_eq_some_iff.mp hD
        refine k_runV rfl rfl rfl (c_get (r := 25) (o := 0) (K := 4) rfl (by decide)) rfl rfl (t_e_Told_isFull (d := d) hv6) ?_
        refine k_if rfl (fun c30_6 => ?_) (fun c30_6 => ?_)
        · rw [c30_6, cond_true] at hD
          refine k_runB (pc' := 36) (loc' := [(0, .ref (0 * 1024)), (1, .int x1), (2, .int x2), (3, .int x3)]) (st' := [.ref (0 * 1024)]) 1 rfl ?_
          refine k_gf 0 0 (K := 0) rfl rfl rfl rfl rfl ?_
          refine k_runB (pc' := 46) (loc' := [(0, .ref (0 * 1024)), (1, .int x1), (2, .int x2), (3, .int x3)]) (st' := [.int x3, .int ((x1 * 6) + x2), .ref (25 * 1024)]) 6 rfl ?_
          obtain ⟨⟨v8, P9, F10, A11, J12⟩, hv8, hD⟩ := Option.bind_eq_some_iff.mp hD
          dsimp only at hD
          refine k_runV rfl rfl rfl (c_get (r := 25) (o := 0) (K := 4) rfl (by decide)) rfl rfl (t_e_Told_add (d := d) ht hv8) ?_
          cases hD
          exact k_iret rfl rfl
        · rw [c30_6, cond_false] at hD
          refine k_runB (pc' := 34) (loc' := [(0, .ref (0 * 1024)), (1, .int x1), (2, .int x2), (3, .int x3)]) (st' := [.int ((-1))]) 1 rfl ?_
          cases hD
          exact k_iret rfl rfl
/-- SleepWork.forget()I  -/
def e_SleepWork_forget (P : Nat → Nat → Nat) (F : Nat → Nat → Int32) (A : Nat → Nat → Nat → Int32) (J : Nat → Nat → Nat → Int64) : Option (Int32 × (Nat → Nat → Nat) × (Nat → Nat → Int32) × (Nat → Nat → Nat → Int32) × (Nat → Nat → Nat → Int64)) :=
  (c_pf F 25 2 0).bind fun F1 =>
  (e_Evening_setStale P F1 A J).bind fun (_, P3, F4, A5, J6) =>
  some (F 25 2, P3, F4, A5, J6)
set_option maxRecDepth 10000 in
theorem t_e_SleepWork_forget (ht : ∀ ci k, t.1 ci k = k_ty ci k) {P : Nat → Nat → Nat} {F : Nat → Nat → Int32} {A : Nat → Nat → Nat → Int32} {J : Nat → Nat → Nat → Int64}   {w : Int32 × (Nat → Nat → Nat) × (Nat → Nat → Int32) × (Nat → Nat → Nat → Int32) × (Nat → Nat → Nat → Int64)} : e_SleepWork_forget P F A J = some w → k_run t lg (d + 1) 131 0 [(0, .ref (0 * 1024))] [] (c_h c B P F A J) (some (.int w.1), c_h c B w.2.1 w.2.2.1 w.2.2.2.1 w.2.2.2.2) := by
  intro hD
  unfold e_SleepWork_forget at hD
  refine k_runB (pc' := 1) (loc' := [(0, .ref (0 * 1024))]) (st' := [.ref (0 * 1024)]) 1 rfl ?_
  refine k_gf 0 0 (K := 0) rfl rfl rfl rfl rfl ?_
  refine k_gf 25 0 (K := 4) rfl rfl rfl rfl rfl ?_
  refine k_runB (pc' := 9) (loc' := [(0, .ref (0 * 1024)), (1, .int (F 25 2))]) (st' := [.ref (0 * 1024)]) 2 rfl ?_
  refine k_gf 0 0 (K := 0) rfl rfl rfl rfl rfl ?_
  refine k_runB (pc' := 13) (loc' := [(0, .ref (0 * 1024)), (1, .int (F 25 2))]) (st' := [.int 0, .ref (25 * 1024)]) 1 rfl ?_
  obtain ⟨F1, hF1, hD⟩ := Option.bind_eq_some_iff.mp hD
  refine k_cpt 25 0 (K := 4) (key := 2) rfl rfl (ht 9 2) rfl rfl rfl hF1 ?_
  refine k_runB (pc' := 17) (loc' := [(0, .ref (0 * 1024)), (1, .int (F 25 2))]) (st' := [.ref (0 * 1024)]) 1 rfl ?_
  refine k_gf 0 0 (K := 0) rfl rfl rfl rfl rfl ?_
  obtain ⟨⟨v2, P3, F4, A5, J6⟩, hv2, hD⟩ := Option.bind_eq_some_iff.mp hD
  dsimp only at hD
  refine k_runV rfl rfl rfl (c_get (r := 32) (o := 0) (K := 7) rfl (by decide)) rfl rfl (t_e_Evening_setStale (d := d) ht hv2) ?_
  refine k_runB (pc' := 24) (loc' := [(0, .ref (0 * 1024)), (1, .int (F 25 2))]) (st' := [.int (F 25 2)]) 1 rfl ?_
  cases hD
  exact k_iret rfl rfl
/-- SleepWork.fits(III)I  -/
def e_SleepWork_fits (n : Nat) (P : Nat → Nat → Nat) (F : Nat → Nat → Int32) (A : Nat → Nat → Nat → Int32) (J : Nat → Nat → Nat → Int64) (x1 : Int32) (x2 : Int32) (x3 : Int32) : Option (Int32 × (Nat → Nat → Nat) × (Nat → Nat → Int32) × (Nat → Nat → Nat → Int32) × (Nat → Nat → Nat → Int64)) :=
  (e_SleepWork_isMan P F A J x1).bind fun v1 =>
  cond (g_cnd .eq v1 0)
  (some ((-1), P, F, A, J))
  ((e_SleepWork_isKnownBy P F A J x2).bind fun v3 =>
  cond (g_cnd .eq v3 0)
  (some ((-1), P, F, A, J))
  (cond (g_cnd .ge x3 ((-1)))
  ((e_Evening_seekFits n P F A J x1 x2).bind fun (_, P7, F8, A9, J10) =>
  cond (g_cnd .ne x3 ((-1)))
  (cond (g_cnd .ge x3 (F8 32 15))
  (some ((-1), P7, F8, A9, J10))
  ((m_ld (A9 35 0) 37 x3).bind fun v13 =>
  (e_SleepWork_codeOf P7 F8 A9 J10 v13).bind fun v14 =>
  some (v14, P7, F8, A9, J10)))
  (some (F8 32 15, P7, F8, A9, J10)))
  (some ((-1), P, F, A, J))))
set_option maxRecDepth 10000 in
theorem t_e_SleepWork_fits (ht : ∀ ci k, t.1 ci k = k_ty ci k) {n : Nat} {P : Nat → Nat → Nat} {F : Nat → Nat → Int32} {A : Nat → Nat → Nat → Int32} {J : Nat → Nat → Nat → Int64} {x1 : Int32} {x2 : Int32} {x3 : Int32}  {w : Int32 × (Nat → Nat → Nat) × (Nat → Nat → Int32) × (Nat → Nat → Nat → Int32) × (Nat → Nat → Nat → Int64)} : e_SleepWork_fits n P F A J x1 x2 x3 = some w → k_run t lg (d + 6) 132 0 [(0, .ref (0 * 1024)), (1, .int x1), (2, .int x2), (3, .int x3)] [] (c_h c B P F A J) (some (.int w.1), c_h c B w.2.1 w.2.2.1 w.2.2.2.1 w.2.2.2.2) := by
  intro hD
  unfold e_SleepWork_fits at hD
  refine k_runB (pc' := 2) (loc' := [(0, .ref (0 * 1024)), (1, .int x1), (2, .int x2), (3, .int x3)]) (st' := [.int x1, .ref (0 * 1024)]) 2 rfl ?_
  obtain ⟨v1, hv1, hD⟩ := Option.bind_eq_some_iff.mp hD
  refine k_runV rfl rfl rfl (c_get (r := 0) (o := 0) (K := 0) rfl (by decide)) rfl rfl (t_e_SleepWork_isMan (d := d + 5) hv1) ?_
  refine k_if rfl (fun c5_1 => ?_) (fun c5_1 => ?_)
  · rw [c5_1, cond_true] at hD
    refine k_runB (pc' := 22) (loc' := [(0, .ref (0 * 1024)), (1, .int x1), (2, .int x2), (3, .int x3)]) (st' := [.int ((-1))]) 1 rfl ?_
    cases hD
    exact k_iret rfl rfl
  · rw [c5_1, cond_false] at hD
    refine k_runB (pc' := 10) (loc' := [(0, .ref (0 * 1024)), (1, .int x1), (2, .int x2), (3, .int x3)]) (st' := [.int x2, .ref (0 * 1024)]) 2 rfl ?_
    obtain ⟨v3, hv3, hD⟩ := Option.bind_eq_some_iff.mp hD
    refine k_runV rfl rfl rfl (c_get (r := 0) (o := 0) (K := 0) rfl (by decide)) rfl rfl (t_e_SleepWork_isKnownBy (d := d + 5) hv3) ?_
    refine k_if rfl (fun c13_3 => ?_) (fun c13_3 => ?_)
    · rw [c13_3, cond_true] at hD
      refine k_runB (pc' := 22) (loc' := [(0, .ref (0 * 1024)), (1, .int x1), (2, .int x2), (3, .int x3)]) (st' := [.int ((-1))]) 1 rfl ?_
      cases hD
      exact k_iret rfl rfl
    · rw [c13_3, cond_false] at hD
      refine k_runB (pc' := 18) (loc' := [(0, .ref (0 * 1024)), (1, .int x1), (2, .int x2), (3, .int x3)]) (st' := [.int ((-1)), .int x3]) 2 rfl ?_
      refine k_ic rfl (fun c18_4 => ?_) (fun c18_4 => ?_)
      · rw [c18_4, cond_true] at hD
        refine k_runB (pc' := 24) (loc' := [(0, .ref (0 * 1024)), (1, .int x1), (2, .int x2), (3, .int x3)]) (st' := [.ref (0 * 1024)]) 1 rfl ?_
        refine k_gf 0 0 (K := 0) rfl rfl rfl rfl rfl ?_
        refine k_runB (pc' := 29) (loc' := [(0, .ref (0 * 1024)), (1, .int x1), (2, .int x2), (3, .int x3)]) (st' := [.int x2, .int x1, .ref (32 * 1024)]) 2 rfl ?_
        obtain ⟨⟨v6, P7, F8, A9, J10⟩, hv6, hD⟩ := Option.bind_eq_some_iff.mp hD
        dsimp only at hD
        refine k_runV rfl rfl rfl (c_get (r := 32) (o := 0) (K := 7) rfl (by decide)) rfl rfl (t_e_Evening_seekFits (d := d) ht hv6) ?_
        refine k_runB (pc' := 34) (loc' := [(0, .ref (0 * 1024)), (1, .int x1), (2, .int x2), (3, .int x3)]) (st' := [.int ((-1)), .int x3]) 2 rfl ?_
        refine k_ic rfl (fun c34_10 => ?_) (fun c34_10 => ?_)
        · rw [c34_10, cond_true] at hD
          refine k_runB (pc' := 47) (loc' := [(0, .ref (0 * 1024)), (1, .int x1), (2, .int x2), (3, .int x3)]) (st' := [.ref (0 * 1024), .int x3]) 2 rfl ?_
          refine k_gf 0 0 (K := 0) rfl rfl rfl rfl rfl ?_
          refine k_gf 32 0 (K := 7) rfl rfl rfl rfl rfl ?_
          refine k_ic rfl (fun c53_11 => ?_) (fun c53_11 => ?_)
          · rw [c53_11, cond_true] at hD
            refine k_runB (pc' := 72) (loc' := [(0, .ref (0 * 1024)), (1, .int x1), (2, .int x2), (3, .int x3)]) (st' := [.int ((-1))]) 1 rfl ?_
            cases hD
            exact k_iret rfl rfl
          · rw [c53_11, cond_false] at hD
            refine k_runB (pc' := 57) (loc' := [(0, .ref (0 * 1024)), (1, .int x1), (2, .int x2), (3, .int x3)]) (st' := [.ref (0 * 1024)]) 1 rfl ?_
            refine k_gf 0 0 (K := 0) rfl rfl rfl rfl rfl ?_
            refine k_gf 32 0 (K := 7) rfl rfl rfl rfl rfl ?_
            refine k_runB (pc' := 64) (loc' := [(0, .ref (0 * 1024)), (1, .int x1), (2, .int x2), (3, .int x3)]) (st' := [.int x3, .ref (35 * 1024 + 0)]) 1 rfl ?_
            obtain ⟨v13, hv13, hD⟩ := Option.bind_eq_some_iff.mp hD
            refine k_ldI rfl (c_get (r := 35) (o := 0) (K := 9) rfl (by decide)) hv13 ?_
            obtain ⟨v14, hv14, hD⟩ := Option.bind_eq_some_iff.mp hD
            refine k_runC rfl rfl rfl rfl (t_e_SleepWork_codeOf (d := d + 5) hv14) ?_
            refine k_runB (pc' := 72) (loc' := [(0, .ref (0 * 1024)), (1, .int x1), (2, .int x2), (3, .int x3)]) (st' := [.int v14]) 1 rfl ?_
            cases hD
            exact k_iret rfl rfl
        · rw [c34_10, cond_false] at hD
          refine k_runB (pc' := 38) (loc' := [(0, .ref (0 * 1024)), (1, .int x1), (2, .int x2), (3, .int x3)]) (st' := [.ref (0 * 1024)]) 1 rfl ?_
          refine k_gf 0 0 (K := 0) rfl rfl rfl rfl rfl ?_
          refine k_gf 32 0 (K := 7) rfl rfl rfl rfl rfl ?_
          cases hD
          exact k_iret rfl rfl
      · rw [c18_4, cond_false] at hD
        refine k_runB (pc' := 22) (loc' := [(0, .ref (0 * 1024)), (1, .int x1), (2, .int x2), (3, .int x3)]) (st' := [.int ((-1))]) 1 rfl ?_
        cases hD
        exact k_iret rfl rfl
/-- SleepWork.suspects(I)I  -/
def e_SleepWork_suspects (n : Nat) (P : Nat → Nat → Nat) (F : Nat → Nat → Int32) (A : Nat → Nat → Nat → Int32) (J : Nat → Nat → Nat → Int64) (x1 : Int32) : Option (Int32 × (Nat → Nat → Nat) × (Nat → Nat → Int32) × (Nat → Nat → Nat → Int32) × (Nat → Nat → Nat → Int64)) :=
  (e_SleepWork_isKnownBy P F A J x1).bind fun v1 =>
  cond (g_cnd .eq v1 0)
  (some ((-1), P, F, A, J))
  ((e_Evening_suspectBits n P F A J x1).bind fun (v3, P4, F5, A6, J7) =>
  some (v3, P4, F5, A6, J7))
set_option maxRecDepth 10000 in
theorem t_e_SleepWork_suspects (ht : ∀ ci k, t.1 ci k = k_ty ci k) {n : Nat} {P : Nat → Nat → Nat} {F : Nat → Nat → Int32} {A : Nat → Nat → Nat → Int32} {J : Nat → Nat → Nat → Int64} {x1 : Int32}  {w : Int32 × (Nat → Nat → Nat) × (Nat → Nat → Int32) × (Nat → Nat → Nat → Int32) × (Nat → Nat → Nat → Int64)} : e_SleepWork_suspects n P F A J x1 = some w → k_run t lg (d + 7) 133 0 [(0, .ref (0 * 1024)), (1, .int x1)] [] (c_h c B P F A J) (some (.int w.1), c_h c B w.2.1 w.2.2.1 w.2.2.2.1 w.2.2.2.2) := by
  intro hD
  unfold e_SleepWork_suspects at hD
  refine k_runB (pc' := 2) (loc' := [(0, .ref (0 * 1024)), (1, .int x1)]) (st' := [.int x1, .ref (0 * 1024)]) 2 rfl ?_
  obtain ⟨v1, hv1, hD⟩ := Option.bind_eq_some_iff.mp hD
  refine k_runV rfl rfl rfl (c_get (r := 0) (o := 0) (K := 0) rfl (by decide)) rfl rfl (t_e_SleepWork_isKnownBy (d := d + 6) hv1) ?_
  refine k_if rfl (fun c5_1 => ?_) (fun c5_1 => ?_)
  · rw [c5_1, cond_true] at hD
    refine k_runB (pc' := 20) (loc' := [(0, .ref (0 * 1024)), (1, .int x1)]) (st' := [.int ((-1))]) 1 rfl ?_
    cases hD
    exact k_iret rfl rfl
  · rw [c5_1, cond_false] at hD
    refine k_runB (pc' := 9) (loc' := [(0, .ref (0 * 1024)), (1, .int x1)]) (st' := [.ref (0 * 1024)]) 1 rfl ?_
    refine k_gf 0 0 (K := 0) rfl rfl rfl rfl rfl ?_
    refine k_runB (pc' := 13) (loc' := [(0, .ref (0 * 1024)), (1, .int x1)]) (st' := [.int x1, .ref (32 * 1024)]) 1 rfl ?_
    obtain ⟨⟨v3, P4, F5, A6, J7⟩, hv3, hD⟩ := Option.bind_eq_some_iff.mp hD
    dsimp only at hD
    refine k_runV rfl rfl rfl (c_get (r := 32) (o := 0) (K := 7) rfl (by decide)) rfl rfl (t_e_Evening_suspectBits (d := d) ht hv3) ?_
    refine k_runB (pc' := 20) (loc' := [(0, .ref (0 * 1024)), (1, .int x1)]) (st' := [.int v3]) 1 rfl ?_
    cases hD
    exact k_iret rfl rfl
/-- SleepWork.pairs(III)I  -/
def e_SleepWork_pairs (n : Nat) (P : Nat → Nat → Nat) (F : Nat → Nat → Int32) (A : Nat → Nat → Nat → Int32) (J : Nat → Nat → Nat → Int64) (x1 : Int32) (x2 : Int32) (x3 : Int32) : Option (Int32 × (Nat → Nat → Nat) × (Nat → Nat → Int32) × (Nat → Nat → Nat → Int32) × (Nat → Nat → Nat → Int64)) :=
  (e_SleepWork_areTwoMen P F A J x1 x2).bind fun v1 =>
  cond (g_cnd .eq v1 0)
  (some ((-1), P, F, A, J))
  ((e_SleepWork_isKnownBy P F A J x3).bind fun v3 =>
  cond (g_cnd .ne v3 0)
  ((e_Evening_fittingPairs n P F A J x1 x2 x3).bind fun (v5, P6, F7, A8, J9) =>
  some (v5, P6, F7, A8, J9))
  (some ((-1), P, F, A, J)))
set_option maxRecDepth 10000 in
theorem t_e_SleepWork_pairs (ht : ∀ ci k, t.1 ci k = k_ty ci k) {n : Nat} {P : Nat → Nat → Nat} {F : Nat → Nat → Int32} {A : Nat → Nat → Nat → Int32} {J : Nat → Nat → Nat → Int64} {x1 : Int32} {x2 : Int32} {x3 : Int32}  {w : Int32 × (Nat → Nat → Nat) × (Nat → Nat → Int32) × (Nat → Nat → Nat → Int32) × (Nat → Nat → Nat → Int64)} : e_SleepWork_pairs n P F A J x1 x2 x3 = some w → k_run t lg (d + 6) 134 0 [(0, .ref (0 * 1024)), (1, .int x1), (2, .int x2), (3, .int x3)] [] (c_h c B P F A J) (some (.int w.1), c_h c B w.2.1 w.2.2.1 w.2.2.2.1 w.2.2.2.2) := by
  intro hD
  unfold e_SleepWork_pairs at hD
  refine k_runB (pc' := 3) (loc' := [(0, .ref (0 * 1024)), (1, .int x1), (2, .int x2), (3, .int x3)]) (st' := [.int x2, .int x1, .ref (0 * 1024)]) 3 rfl ?_
  obtain ⟨v1, hv1, hD⟩ := Option.bind_eq_some_iff.mp hD
  refine k_runV rfl rfl rfl (c_get (r := 0) (o := 0) (K := 0) rfl (by decide)) rfl rfl (t_e_SleepWork_areTwoMen (d := d + 4) hv1) ?_
  refine k_if rfl (fun c6_1 => ?_) (fun c6_1 => ?_)
  · rw [c6_1, cond_true] at hD
    refine k_runB (pc' := 18) (loc' := [(0, .ref (0 * 1024)), (1, .int x1), (2, .int x2), (3, .int x3)]) (st' := [.int ((-1))]) 1 rfl ?_
    cases hD
    exact k_iret rfl rfl
  · rw [c6_1, cond_false] at hD
    refine k_runB (pc' := 11) (loc' := [(0, .ref (0 * 1024)), (1, .int x1), (2, .int x2), (3, .int x3)]) (st' := [.int x3, .ref (0 * 1024)]) 2 rfl ?_
    obtain ⟨v3, hv3, hD⟩ := Option.bind_eq_some_iff.mp hD
    refine k_runV rfl rfl rfl (c_get (r := 0) (o := 0) (K := 0) rfl (by decide)) rfl rfl (t_e_SleepWork_isKnownBy (d := d + 5) hv3) ?_
    refine k_if rfl (fun c14_3 => ?_) (fun c14_3 => ?_)
    · rw [c14_3, cond_true] at hD
      refine k_runB (pc' := 20) (loc' := [(0, .ref (0 * 1024)), (1, .int x1), (2, .int x2), (3, .int x3)]) (st' := [.ref (0 * 1024)]) 1 rfl ?_
      refine k_gf 0 0 (K := 0) rfl rfl rfl rfl rfl ?_
      refine k_runB (pc' := 26) (loc' := [(0, .ref (0 * 1024)), (1, .int x1), (2, .int x2), (3, .int x3)]) (st' := [.int x3, .int x2, .int x1, .ref (32 * 1024)]) 3 rfl ?_
      obtain ⟨⟨v5, P6, F7, A8, J9⟩, hv5, hD⟩ := Option.bind_eq_some_iff.mp hD
      dsimp only at hD
      refine k_runV rfl rfl rfl (c_get (r := 32) (o := 0) (K := 7) rfl (by decide)) rfl rfl (t_e_Evening_fittingPairs (d := d) ht hv5) ?_
      cases hD
      exact k_iret rfl rfl
    · rw [c14_3, cond_false] at hD
      refine k_runB (pc' := 18) (loc' := [(0, .ref (0 * 1024)), (1, .int x1), (2, .int x2), (3, .int x3)]) (st' := [.int ((-1))]) 1 rfl ?_
      cases hD
      exact k_iret rfl rfl
/-- SleepWork.hold(I)Z  -/
def e_SleepWork_hold (P : Nat → Nat → Nat) (F : Nat → Nat → Int32) (A : Nat → Nat → Nat → Int32) (J : Nat → Nat → Nat → Int64) (x1 : Int32) : Option (Int32 × (Nat → Nat → Nat) × (Nat → Nat → Int32) × (Nat → Nat → Nat → Int32) × (Nat → Nat → Nat → Int64)) :=
  cond (g_cnd .lt x1 0)
  (some (0, P, F, A, J))
  (cond (g_cnd .lt x1 3)
  ((c_ar 3 29 2 x1).bind fun q3 =>
  (e_State_copy P F A J q3 2).bind fun (_, P5, F6, A7, J8) =>
  (c_pf F6 0 10 ((F6 0 10) ||| ((1 : Int32) <<< (x1 &&& 31)))).bind fun F9 =>
  some (1, P5, F9, A7, J8))
  (some (0, P, F, A, J)))
set_option maxRecDepth 10000 in
theorem t_e_SleepWork_hold (ht : ∀ ci k, t.1 ci k = k_ty ci k) {P : Nat → Nat → Nat} {F : Nat → Nat → Int32} {A : Nat → Nat → Nat → Int32} {J : Nat → Nat → Nat → Int64} {x1 : Int32}  {w : Int32 × (Nat → Nat → Nat) × (Nat → Nat → Int32) × (Nat → Nat → Nat → Int32) × (Nat → Nat → Nat → Int64)} : e_SleepWork_hold P F A J x1 = some w → k_run t lg (d + 1) 135 0 [(0, .ref (0 * 1024)), (1, .int x1)] [] (c_h c B P F A J) (some (.int w.1), c_h c B w.2.1 w.2.2.1 w.2.2.2.1 w.2.2.2.2) := by
  intro hD
  unfold e_SleepWork_hold at hD
  refine k_runB (pc' := 1) (loc' := [(0, .ref (0 * 1024)), (1, .int x1)]) (st' := [.int x1]) 1 rfl ?_
  refine k_if rfl (fun c1_0 => ?_) (fun c1_0 => ?_)
  · rw [c1_0, cond_true] at hD
    refine k_runB (pc' := 10) (loc' := [(0, .ref (0 * 1024)), (1, .int x1)]) (st' := [.int 0]) 1 rfl ?_
    cases hD
    exact k_zret rfl rfl (Or.inl rfl)
  · rw [c1_0, cond_false] at hD
    refine k_runB (pc' := 6) (loc' := [(0, .ref (0 * 1024)), (1, .int x1)]) (st' := [.int 3, .int x1]) 2 rfl ?_
    refine k_ic rfl (fun c6_1 => ?_) (fun c6_1 => ?_)
    · rw [c6_1, cond_true] at hD
      refine k_runB (pc' := 12) (loc' := [(0, .ref (0 * 1024)), (1, .int x1)]) (st' := [.ref (0 * 1024)]) 1 rfl ?_
      refine k_gf 0 0 (K := 0) rfl rfl rfl rfl rfl ?_
      refine k_runB (pc' := 16) (loc' := [(0, .ref (0 * 1024)), (1, .int x1)]) (st' := [.int x1, .ref (26 * 1024 + 0)]) 1 rfl ?_
      obtain ⟨q3, hq3, hD⟩ := Option.bind_eq_some_iff.mp hD
      refine k_aal 26 0 (K := 5) rfl rfl rfl rfl hq3 (fun kq3 => ?_)
      refine k_runB (pc' := 18) (loc' := [(0, .ref (0 * 1024)), (1, .int x1)]) (st' := [.ref (0 * 1024), .ref (q3 * 1024)]) 1 rfl ?_
      refine k_gf 0 0 (K := 0) rfl rfl rfl rfl rfl ?_
      obtain ⟨⟨v4, P5, F6, A7, J8⟩, hv4, hD⟩ := Option.bind_eq_some_iff.mp hD
      dsimp only at hD
      refine k_runV rfl rfl rfl (c_get (r := q3) (o := 0) (K := 2) kq3 (by decide)) rfl rfl (t_e_State_copy (d := d) ht kq3 rfl hv4) ?_
      refine k_runB (pc' := 26) (loc' := [(0, .ref (0 * 1024)), (1, .int x1)]) (st' := [.ref (0 * 1024), .ref (0 * 1024)]) 2 rfl ?_
      refine k_gf 0 0 (K := 0) rfl rfl rfl rfl rfl ?_
      refine k_runB (pc' := 33) (loc' := [(0, .ref (0 * 1024)), (1, .int x1)]) (st' := [.int ((F6 0 10) ||| ((1 : Int32) <<< (x1 &&& 31))), .ref (0 * 1024)]) 4 rfl ?_
      obtain ⟨F9, hF9, hD⟩ := Option.bind_eq_some_iff.mp hD
      refine k_cpt 0 0 (K := 0) (key := 10) rfl rfl (ht 11 10) rfl rfl rfl hF9 ?_
      refine k_runB (pc' := 37) (loc' := [(0, .ref (0 * 1024)), (1, .int x1)]) (st' := [.int 1]) 1 rfl ?_
      cases hD
      exact k_zret rfl rfl (Or.inr rfl)
    · rw [c6_1, cond_false] at hD
      refine k_runB (pc' := 10) (loc' := [(0, .ref (0 * 1024)), (1, .int x1)]) (st' := [.int 0]) 1 rfl ?_
      cases hD
      exact k_zret rfl rfl (Or.inl rfl)
end MC
