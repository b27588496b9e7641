/-! the class's methods as functions (printed by wip/dec2.py) -/
section MC
variable {t : gT} {lg : Nat → Nat} {d : Nat} {c : Nat × Nat} {B : Nat → List gE}
def e_House_isEnded_18 : Nat → (Nat → Nat → Nat) → (Nat → Nat → Int32) → (Nat → Nat → Nat → Int32) → (Nat → Nat → Nat → Int64) → Nat → Nat → Int32 → Int32 → Option (Int32)
  | 0, _, _, _, _, _, _, _, _ => none
  | n + 1, P, F, A, J, r0, r1, x3, x4 => cond (g_cnd .ge x4 x3)
    (some (1))
    ((m_ld (A r1 1) 36 x4).bind fun v3 =>
    (m_ld (A r0 7) 36 x4).bind fun v4 =>
    cond (g_cnd .ge v3 v4)
    ((e_House_isEnded_18 n) P F A J r0 r1 x3 (x4 + 1))
    (some (0)))
set_option maxRecDepth 10000 in
theorem t_e_House_isEnded_18 {n : Nat}  {P : Nat → Nat → Nat} {F : Nat → Nat → Int32} {A : Nat → Nat → Nat → Int32} {J : Nat → Nat → Nat → Int64} {r0 : Nat} {r1 : Nat} {x3 : Int32} {x4 : Int32} (hr0 : c_kind r0 = 6) (hr1 : c_kind r1 = 2) {w : Int32} : e_House_isEnded_18 n P F A J r0 r1 x3 x4 = some w → k_run t lg (d) 25 18 [(0, .ref (r0 * 1024)), (1, .ref (r1 * 1024)), (3, .int x3), (4, .int x4)] [] (c_h c B P F A J) (some (.int w), c_h c B P F A J) := by
  induction n generalizing P F A J r0 r1 x3 x4 w with
  | zero => intro hD; cases hD
  | succ n ih =>
    intro hD
    have hK18 : ∀ (P : Nat → Nat → Nat) (F : Nat → Nat → Int32) (A : Nat → Nat → Nat → Int32) (J : Nat → Nat → Nat → Int64) (r0 : Nat) (r1 : Nat) (x3 : Int32) (x4 : Int32) (w : Int32), c_kind r0 = 6 → c_kind r1 = 2 → e_House_isEnded_18 n P F A J r0 r1 x3 x4 = some w → k_run t lg (d) 25 18 [(0, .ref (r0 * 1024)), (1, .ref (r1 * 1024)), (3, .int x3), (4, .int x4)] [] (c_h c B P F A J) (some (.int w), c_h c B P F A J) := fun _ _ _ _ _ _ _ _ _ kr0 kr1 h => ih kr0 kr1 h
    unfold e_House_isEnded_18 at hD
    refine k_runB (pc' := 21) (loc' := [(0, .ref (r0 * 1024)), (1, .ref (r1 * 1024)), (3, .int x3), (4, .int x4)]) (st' := [.int x3, .int x4]) 2 rfl ?_
    refine k_ic rfl (fun c21_1 => ?_) (fun c21_1 => ?_)
    · rw [c21_1, cond_true] at hD
      refine k_runB (pc' := 50) (loc' := [(0, .ref (r0 * 1024)), (1, .ref (r1 * 1024)), (3, .int x3), (4, .int x4)]) (st' := [.int 1]) 1 rfl ?_
      cases hD
      exact k_zret rfl rfl (Or.inr rfl)
    · rw [c21_1, cond_false] at hD
      refine k_runB (pc' := 25) (loc' := [(0, .ref (r0 * 1024)), (1, .ref (r1 * 1024)), (3, .int x3), (4, .int x4)]) (st' := [.ref (r1 * 1024)]) 1 rfl ?_
      refine k_gf r1 0 (K := 2) hr1 rfl rfl rfl rfl ?_
      refine k_runB (pc' := 30) (loc' := [(0, .ref (r0 * 1024)), (1, .ref (r1 * 1024)), (3, .int x3), (4, .int x4)]) (st' := [.int x4, .ref (r1 * 1024 + 1)]) 1 rfl ?_
      obtain ⟨v3, hv3, hD⟩ := Option.bind_eq_some_iff.mp hD
      refine k_ldI rfl (c_get (r := r1) (o := 1) (K := 2) hr1 (by decide)) hv3 ?_
      refine k_runB (pc' := 32) (loc' := [(0, .ref (r0 * 1024)), (1, .ref (r1 * 1024)), (3, .int x3), (4, .int x4)]) (st' := [.ref (r0 * 1024), .int v3]) 1 rfl ?_
      refine k_gf r0 0 (K := 6) hr0 rfl rfl rfl rfl ?_
      refine k_runB (pc' := 37) (loc' := [(0, .ref (r0 * 1024)), (1, .ref (r1 * 1024)), (3, .int x3), (4, .int x4)]) (st' := [.int x4, .ref (r0 * 1024 + 7), .int v3]) 1 rfl ?_
      obtain ⟨v4, hv4, hD⟩ := Option.bind_eq_some_iff.mp hD
      refine k_ldI rfl (c_get (r := r0) (o := 7) (K := 6) hr0 (by decide)) hv4 ?_
      refine k_ic rfl (fun c38_4 => ?_) (fun c38_4 => ?_)
      · rw [c38_4, cond_true] at hD
        refine k_runB (pc' := 18) (loc' := [(0, .ref (r0 * 1024)), (1, .ref (r1 * 1024)), (3, .int x3), (4, .int (x4 + 1))]) (st' := []) 2 rfl ?_
        refine k_wk [0, 1, 3, 4] (loc' := [(0, .ref (r0 * 1024)), (1, .ref (r1 * 1024)), (3, .int x3), (4, .int (x4 + 1))]) rfl rfl ?_
        exact hK18 _ _ _ _ _ _ _ _ _ hr0 hr1 hD
      · rw [c38_4, cond_false] at hD
        refine k_runB (pc' := 42) (loc' := [(0, .ref (r0 * 1024)), (1, .ref (r1 * 1024)), (3, .int x3), (4, .int x4)]) (st' := [.int 0]) 1 rfl ?_
        cases hD
        exact k_zret rfl rfl (Or.inl rfl)
/-- SleepWork$House.isEnded(LSleepWork$State;I)Z  -/
def e_House_isEnded (n : Nat) (P : Nat → Nat → Nat) (F : Nat → Nat → Int32) (A : Nat → Nat → Nat → Int32) (J : Nat → Nat → Nat → Int64) (r0 : Nat) (r1 : Nat) (x2 : Int32) : Option (Int32) :=
  (m_ld (A r0 5) 6 x2).bind fun v1 =>
  e_House_isEnded_18 n P F A J r0 r1 ((x2 * 6) + v1) (x2 * 6)
set_option maxRecDepth 10000 in
theorem t_e_House_isEnded {n : Nat} {P : Nat → Nat → Nat} {F : Nat → Nat → Int32} {A : Nat → Nat → Nat → Int32} {J : Nat → Nat → Nat → Int64} {r0 : Nat} {r1 : Nat} {x2 : Int32} (hr0 : c_kind r0 = 6) (hr1 : c_kind r1 = 2) {w : Int32} : e_House_isEnded n P F A J r0 r1 x2 = some w → k_run t lg (d) 25 0 [(0, .ref (r0 * 1024)), (1, .ref (r1 * 1024)), (2, .int x2)] [] (c_h c B P F A J) (some (.int w), c_h c B P F A J) := by
  intro hD
  unfold e_House_isEnded at hD
  refine k_runB (pc' := 5) (loc' := [(0, .ref (r0 * 1024)), (1, .ref (r1 * 1024)), (2, .int x2)]) (st' := [.ref (r0 * 1024), .int (x2 * 6)]) 4 rfl ?_
  refine k_gf r0 0 (K := 6) hr0 rfl rfl rfl rfl ?_
  refine k_runB (pc' := 9) (loc' := [(0, .ref (r0 * 1024)), (1, .ref (r1 * 1024)), (2, .int x2)]) (st' := [.int x2, .ref (r0 * 1024 + 5), .int (x2 * 6)]) 1 rfl ?_
  obtain ⟨v1, hv1, hD⟩ := Option.bind_eq_some_iff.mp hD
  refine k_ldI rfl (c_get (r := r0) (o := 5) (K := 6) hr0 (by decide)) hv1 ?_
  refine k_runB (pc' := 18) (loc' := [(0, .ref (r0 * 1024)), (1, .ref (r1 * 1024)), (2, .int x2), (3, .int ((x2 * 6) + v1)), (4, .int (x2 * 6))]) (st' := []) 6 rfl ?_
  refine k_wk [0, 1, 3, 4] (loc' := [(0, .ref (r0 * 1024)), (1, .ref (r1 * 1024)), (3, .int ((x2 * 6) + v1)), (4, .int (x2 * 6))]) rfl rfl ?_
  exact t_e_House_isEnded_18  hr0 hr1 hD
/-- SleepWork$Laws.joined(III)I  -/
def e_Laws_joined (P : Nat → Nat → Nat) (F : Nat → Nat → Int32) (A : Nat → Nat → Nat → Int32) (J : Nat → Nat → Nat → Int64) (x0 : Int32) (x1 : Int32) (x2 : Int32) : Option (Int32) :=
  cond (decide (x0 = 42))
  (some (x1 * x2))
  (cond (decide (x0 = 43))
  (some (x1 + x2))
  (cond (decide (x0 = 44))
  (cond (g_cnd .ne x2 0)
  ((m_div x1 x2).bind fun v3 =>
  some (v3))
  (some (0)))
  (cond (decide (x0 = 45))
  (some (x1 - x2))
  (cond (g_cnd .ne x2 0)
  ((m_div x1 x2).bind fun v5 =>
  some (v5))
  (some (0))))))
set_option maxRecDepth 10000 in
theorem t_e_Laws_joined {P : Nat → Nat → Nat} {F : Nat → Nat → Int32} {A : Nat → Nat → Nat → Int32} {J : Nat → Nat → Nat → Int64} {x0 : Int32} {x1 : Int32} {x2 : Int32}  {w : Int32} : e_Laws_joined P F A J x0 x1 x2 = some w → k_run t lg (d) 34 0 [(0, .int x0), (1, .int x1), (2, .int x2)] [] (c_h c B P F A J) (some (.int w), c_h c B P F A J) := by
  intro hD
  unfold e_Laws_joined at hD
  refine k_runB (pc' := 1) (loc' := [(0, .int x0), (1, .int x1), (2, .int x2)]) (st' := [.int x0]) 1 rfl ?_
  cases c1_0_0 : decide (x0 = 42) with
  | true =>
    rw [c1_0_0, cond_true] at hD
    refine k_tab (tgt := 40) rfl (by rw [of_decide_eq_true c1_0_0]; decide) ?_
    refine k_runB (pc' := 43) (loc' := [(0, .int x0), (1, .int x1), (2, .int x2)]) (st' := [.int (x1 * x2)]) 3 rfl ?_
    cases hD
    exact k_iret rfl rfl
  | false =>
    rw [c1_0_0, cond_false] at hD
    cases c1_0_1 : decide (x0 = 43) with
    | true =>
      rw [c1_0_1, cond_true] at hD
      refine k_tab (tgt := 32) rfl (by rw [of_decide_eq_true c1_0_1]; decide) ?_
      refine k_runB (pc' := 35) (loc' := [(0, .int x0), (1, .int x1), (2, .int x2)]) (st' := [.int (x1 + x2)]) 3 rfl ?_
      cases hD
      exact k_iret rfl rfl
    | false =>
      rw [c1_0_1, cond_false] at hD
      cases c1_0_2 : decide (x0 = 44) with
      | true =>
        rw [c1_0_2, cond_true] at hD
        refine k_tab (tgt := 44) rfl (by rw [of_decide_eq_true c1_0_2]; decide) ?_
        refine k_runB (pc' := 45) (loc' := [(0, .int x0), (1, .int x1), (2, .int x2)]) (st' := [.int x2]) 1 rfl ?_
        refine k_if rfl (fun c45_1 => ?_) (fun c45_1 => ?_)
        · rw [c45_1, cond_true] at hD
          refine k_runB (pc' := 54) (loc' := [(0, .int x0), (1, .int x1), (2, .int x2)]) (st' := [.int x2, .int x1]) 2 rfl ?_
          obtain ⟨v3, hv3, hD⟩ := Option.bind_eq_some_iff.mp hD
          refine k_dvI rfl hv3 ?_
          cases hD
          exact k_iret rfl rfl
        · rw [c45_1, cond_false] at hD
          refine k_runB (pc' := 55) (loc' := [(0, .int x0), (1, .int x1), (2, .int x2)]) (st' := [.int 0]) 2 rfl ?_
          cases hD
          exact k_iret rfl rfl
      | false =>
        rw [c1_0_2, cond_false] at hD
        cases c1_0_3 : decide (x0 = 45) with
        | true =>
          rw [c1_0_3, cond_true] at hD
          refine k_tab (tgt := 36) rfl (by rw [of_decide_eq_true c1_0_3]; decide) ?_
          refine k_runB (pc' := 39) (loc' := [(0, .int x0), (1, .int x1), (2, .int x2)]) (st' := [.int (x1 - x2)]) 3 rfl ?_
          cases hD
          exact k_iret rfl rfl
        | false =>
          rw [c1_0_3, cond_false] at hD
          refine k_tab (tgt := 44) rfl (by rw [if_pos (m_out (lo := 42) (hi := 45) [42, 43, 44, 45] (by decide) (by decide) (List.forall_mem_cons.mpr ⟨of_decide_eq_false c1_0_0, List.forall_mem_cons.mpr ⟨of_decide_eq_false c1_0_1, List.forall_mem_cons.mpr ⟨of_decide_eq_false c1_0_2, List.forall_mem_cons.mpr ⟨of_decide_eq_false c1_0_3, fun _ h => absurd h List.not_mem_nil⟩⟩⟩⟩))]; rfl) ?_
          refine k_runB (pc' := 45) (loc' := [(0, .int x0), (1, .int x1), (2, .int x2)]) (st' := [.int x2]) 1 rfl ?_
          refine k_if rfl (fun c45_3 => ?_) (fun c45_3 => ?_)
          · rw [c45_3, cond_true] at hD
            refine k_runB (pc' := 54) (loc' := [(0, .int x0), (1, .int x1), (2, .int x2)]) (st' := [.int x2, .int x1]) 2 rfl ?_
            obtain ⟨v5, hv5, hD⟩ := Option.bind_eq_some_iff.mp hD
            refine k_dvI rfl hv5 ?_
            cases hD
            exact k_iret rfl rfl
          · rw [c45_3, cond_false] at hD
            refine k_runB (pc' := 55) (loc' := [(0, .int x0), (1, .int x1), (2, .int x2)]) (st' := [.int 0]) 2 rfl ?_
            cases hD
            exact k_iret rfl rfl
def e_Laws_tellsTo_233 (n : Nat) (P : Nat → Nat → Nat) (F : Nat → Nat → Int32) (A : Nat → Nat → Nat → Int32) (J : Nat → Nat → Nat → Int64) (r0 : Nat) : Option (Int32 × (Nat → Nat → Nat) × (Nat → Nat → Int32) × (Nat → Nat → Nat → Int32) × (Nat → Nat → Nat → Int64)) :=
    (m_ld (A 36 9) 6 0).bind fun v17 =>
    some (v17, P, F, A, J)
set_option maxRecDepth 10000 in
theorem t_e_Laws_tellsTo_233 {n : Nat}  {P : Nat → Nat → Nat} {F : Nat → Nat → Int32} {A : Nat → Nat → Nat → Int32} {J : Nat → Nat → Nat → Int64} {r0 : Nat} (hr0 : c_kind r0 = 6) {w : Int32 × (Nat → Nat → Nat) × (Nat → Nat → Int32) × (Nat → Nat → Nat → Int32) × (Nat → Nat → Nat → Int64)} : e_Laws_tellsTo_233 n P F A J r0 = some w → k_run t lg (d + 1) 33 233 [(0, .ref (r0 * 1024 + 13)), (2, .ref (36 * 1024 + 9))] [] (c_h c B P F A J) (some (.int w.1), c_h c B w.2.1 w.2.2.1 w.2.2.2.1 w.2.2.2.2) := by
  intro hD
  unfold e_Laws_tellsTo_233 at hD
  refine k_runB (pc' := 235) (loc' := [(0, .ref (r0 * 1024 + 13)), (2, .ref (36 * 1024 + 9))]) (st' := [.int 0, .ref (36 * 1024 + 9)]) 2 rfl ?_
  obtain ⟨v17, hv17, hD⟩ := Option.bind_eq_some_iff.mp hD
  refine k_ldI rfl (c_get (r := 36) (o := 9) (K := 10) rfl (by decide)) hv17 ?_
  cases hD
  exact k_iret rfl rfl
def e_Laws_tellsTo_227 (K13 : (Nat → Nat → Nat) → (Nat → Nat → Int32) → (Nat → Nat → Nat → Int32) → (Nat → Nat → Nat → Int64) → Nat → Int32 → Int32 → Int32 → Option (Int32 × (Nat → Nat → Nat) × (Nat → Nat → Int32) × (Nat → Nat → Nat → Int32) × (Nat → Nat → Nat → Int64))) (n : Nat) (P : Nat → Nat → Nat) (F : Nat → Nat → Int32) (A : Nat → Nat → Nat → Int32) (J : Nat → Nat → Nat → Int64) (r0 : Nat) (x3 : Int32) (x4 : Int32) (x5 : Int32) : Option (Int32 × (Nat → Nat → Nat) × (Nat → Nat → Int32) × (Nat → Nat → Nat → Int32) × (Nat → Nat → Nat → Int64)) :=
    K13 P F A J r0 x3 x4 (x5 + 1)
set_option maxRecDepth 10000 in
theorem t_e_Laws_tellsTo_227 {n : Nat} {K13 : (Nat → Nat → Nat) → (Nat → Nat → Int32) → (Nat → Nat → Nat → Int32) → (Nat → Nat → Nat → Int64) → Nat → Int32 → Int32 → Int32 → Option (Int32 × (Nat → Nat → Nat) × (Nat → Nat → Int32) × (Nat → Nat → Nat → Int32) × (Nat → Nat → Nat → Int64))} (hK13 : ∀ (P : Nat → Nat → Nat) (F : Nat → Nat → Int32) (A : Nat → Nat → Nat → Int32) (J : Nat → Nat → Nat → Int64) (r0 : Nat) (x3 : Int32) (x4 : Int32) (x5 : Int32) (w : Int32 × (Nat → Nat → Nat) × (Nat → Nat → Int32) × (Nat → Nat → Nat → Int32) × (Nat → Nat → Nat → Int64)), c_kind r0 = 6 → K13 P F A J r0 x3 x4 x5 = some w → k_run t lg (d + 1) 33 13 [(0, .ref (r0 * 1024 + 13)), (2, .ref (36 * 1024 + 9)), (3, .int x3), (4, .int x4), (5, .int x5)] [] (c_h c B P F A J) (some (.int w.1), c_h c B w.2.1 w.2.2.1 w.2.2.2.1 w.2.2.2.2)) {P : Nat → Nat → Nat} {F : Nat → Nat → Int32} {A : Nat → Nat → Nat → Int32} {J : Nat → Nat → Nat → Int64} {r0 : Nat} {x3 : Int32} {x4 : Int32} {x5 : Int32} (hr0 : c_kind r0 = 6) {w : Int32 × (Nat → Nat → Nat) × (Nat → Nat → Int32) × (Nat → Nat → Nat → Int32) × (Nat → Nat → Nat → Int64)} : e_Laws_tellsTo_227 K13 n P F A J r0 x3 x4 x5 = some w → k_run t lg (d + 1) 33 227 [(0, .ref (r0 * 1024 + 13)), (2, .ref (36 * 1024 + 9)), (3, .int x3), (4, .int x4), (5, .int x5)] [] (c_h c B P F A J) (some (.int w.1), c_h c B w.2.1 w.2.2.1 w.2.2.2.1 w.2.2.2.2) := by
  intro hD
  unfold e_Laws_tellsTo_227 at hD
  refine k_runB (pc' := 13) (loc' := [(0, .ref (r0 * 1024 + 13)), (2, .ref (36 * 1024 + 9)), (3, .int x3), (4, .int x4), (5, .int (x5 + 1))]) (st' := []) 2 rfl ?_
  refine k_wk [0, 2, 3, 4, 5] (loc' := [(0, .ref (r0 * 1024 + 13)), (2, .ref (36 * 1024 + 9)), (3, .int x3), (4, .int x4), (5, .int (x5 + 1))]) rfl rfl ?_
  exact hK13 _ _ _ _ _ _ _ _ _ hr0 hD
def e_Laws_tellsTo_192 (K13 : (Nat → Nat → Nat) → (Nat → Nat → Int32) → (Nat → Nat → Nat → Int32) → (Nat → Nat → Nat → Int64) → Nat → Int32 → Int32 → Int32 → Option (Int32 × (Nat → Nat → Nat) × (Nat → Nat → Int32) × (Nat → Nat → Nat → Int32) × (Nat → Nat → Nat → Int64))) (n : Nat) (P : Nat → Nat → Nat) (F : Nat → Nat → Int32) (A : Nat → Nat → Nat → Int32) (J : Nat → Nat → Nat → Int64) (r0 : Nat) (x4 : Int32) (x5 : Int32) (s0 : Int32) : Option (Int32 × (Nat → Nat → Nat) × (Nat → Nat → Int32) × (Nat → Nat → Nat → Int32) × (Nat → Nat → Nat → Int64)) :=
    e_Laws_tellsTo_227 K13 n P F A J r0 s0 (x4 + (-1)) x5
set_option maxRecDepth 10000 in
theorem t_e_Laws_tellsTo_192 {n : Nat} {K13 : (Nat → Nat → Nat) → (Nat → Nat → Int32) → (Nat → Nat → Nat → Int32) → (Nat → Nat → Nat → Int64) → Nat → Int32 → Int32 → Int32 → Option (Int32 × (Nat → Nat → Nat) × (Nat → Nat → Int32) × (Nat → Nat → Nat → Int32) × (Nat → Nat → Nat → Int64))} (hK13 : ∀ (P : Nat → Nat → Nat) (F : Nat → Nat → Int32) (A : Nat → Nat → Nat → Int32) (J : Nat → Nat → Nat → Int64) (r0 : Nat) (x3 : Int32) (x4 : Int32) (x5 : Int32) (w : Int32 × (Nat → Nat → Nat) × (Nat → Nat → Int32) × (Nat → Nat → Nat → Int32) × (Nat → Nat → Nat → Int64)), c_kind r0 = 6 → K13 P F A J r0 x3 x4 x5 = some w → k_run t lg (d + 1) 33 13 [(0, .ref (r0 * 1024 + 13)), (2, .ref (36 * 1024 + 9)), (3, .int x3), (4, .int x4), (5, .int x5)] [] (c_h c B P F A J) (some (.int w.1), c_h c B w.2.1 w.2.2.1 w.2.2.2.1 w.2.2.2.2)) {P : Nat → Nat → Nat} {F : Nat → Nat → Int32} {A : Nat → Nat → Nat → Int32} {J : Nat → Nat → Nat → Int64} {r0 : Nat} {x4 : Int32} {x5 : Int32} {s0 : Int32} (hr0 : c_kind r0 = 6) {w : Int32 × (Nat → Nat → Nat) × (Nat → Nat → Int32) × (Nat → Nat → Nat → Int32) × (Nat → Nat → Nat → Int64)} : e_Laws_tellsTo_192 K13 n P F A J r0 x4 x5 s0 = some w → k_run t lg (d + 1) 33 192 [(0, .ref (r0 * 1024 + 13)), (2, .ref (36 * 1024 + 9)), (4, .int x4), (5, .int x5)] [.int s0] (c_h c B P F A J) (some (.int w.1), c_h c B w.2.1 w.2.2.1 w.2.2.2.1 w.2.2.2.2) := by
  intro hD
  unfold e_Laws_tellsTo_192 at hD
  refine k_runB (pc' := 227) (loc' := [(0, .ref (r0 * 1024 + 13)), (2, .ref (36 * 1024 + 9)), (3, .int s0), (4, .int (x4 + (-1))), (5, .int x5)]) (st' := []) 3 rfl ?_
  refine k_wk [0, 2, 3, 4, 5] (loc' := [(0, .ref (r0 * 1024 + 13)), (2, .ref (36 * 1024 + 9)), (3, .int s0), (4, .int (x4 + (-1))), (5, .int x5)]) rfl rfl ?_
  exact t_e_Laws_tellsTo_227 hK13 hr0 hD
def e_Laws_tellsTo_157 (K13 : (Nat → Nat → Nat) → (Nat → Nat → Int32) → (Nat → Nat → Nat → Int32) → (Nat → Nat → Nat → Int64) → Nat → Int32 → Int32 → Int32 → Option (Int32 × (Nat → Nat → Nat) × (Nat → Nat → Int32) × (Nat → Nat → Nat → Int32) × (Nat → Nat → Nat → Int64))) (n : Nat) (P : Nat → Nat → Nat) (F : Nat → Nat → Int32) (A : Nat → Nat → Nat → Int32) (J : Nat → Nat → Nat → Int64) (r0 : Nat) (x3 : Int32) (x4 : Int32) (x5 : Int32) (x6 : Int32) (x7 : Int32) : Option (Int32 × (Nat → Nat → Nat) × (Nat → Nat → Int32) × (Nat → Nat → Nat → Int32) × (Nat → Nat → Nat → Int64)) :=
    cond (g_cnd .ne x6 60)
    ((m_ld (A r0 17) 32 (x4 + (-1))).bind fun v25 =>
    (m_ld (A r0 17) 32 ((x4 + (-1)) + 1)).bind fun v26 =>
    (e_Laws_joined P F A J x6 v25 v26).bind fun v27 =>
    (c_st A r0 17 32 (x4 + (-1)) v27).bind fun A28 =>
    K13 P F A28 J r0 x3 (x4 + (-1)) (x5 + 1))
    ((m_ld (A r0 17) 32 (x4 + (-1))).bind fun v29 =>
    (m_ld (A r0 17) 32 ((x4 + (-1)) + 1)).bind fun v30 =>
    cond (g_cnd .ge v29 v30)
    (e_Laws_tellsTo_192 K13 n P F A J r0 (x4 + (-1)) x5 x7)
    (e_Laws_tellsTo_192 K13 n P F A J r0 (x4 + (-1)) x5 x3))
set_option maxRecDepth 10000 in
theorem t_e_Laws_tellsTo_157 {n : Nat} {K13 : (Nat → Nat → Nat) → (Nat → Nat → Int32) → (Nat → Nat → Nat → Int32) → (Nat → Nat → Nat → Int64) → Nat → Int32 → Int32 → Int32 → Option (Int32 × (Nat → Nat → Nat) × (Nat → Nat → Int32) × (Nat → Nat → Nat → Int32) × (Nat → Nat → Nat → Int64))} (hK13 : ∀ (P : Nat → Nat → Nat) (F : Nat → Nat → Int32) (A : Nat → Nat → Nat → Int32) (J : Nat → Nat → Nat → Int64) (r0 : Nat) (x3 : Int32) (x4 : Int32) (x5 : Int32) (w : Int32 × (Nat → Nat → Nat) × (Nat → Nat → Int32) × (Nat → Nat → Nat → Int32) × (Nat → Nat → Nat → Int64)), c_kind r0 = 6 → K13 P F A J r0 x3 x4 x5 = some w → k_run t lg (d + 1) 33 13 [(0, .ref (r0 * 1024 + 13)), (2, .ref (36 * 1024 + 9)), (3, .int x3), (4, .int x4), (5, .int x5)] [] (c_h c B P F A J) (some (.int w.1), c_h c B w.2.1 w.2.2.1 w.2.2.2.1 w.2.2.2.2)) {P : Nat → Nat → Nat} {F : Nat → Nat → Int32} {A : Nat → Nat → Nat → Int32} {J : Nat → Nat → Nat → Int64} {r0 : Nat} {x3 : Int32} {x4 : Int32} {x5 : Int32} {x6 : Int32} {x7 : Int32} (hr0 : c_kind r0 = 6) {w : Int32 × (Nat → Nat → Nat) × (Nat → Nat → Int32) × (Nat → Nat → Nat → Int32) × (Nat → Nat → Nat → Int64)} : e_Laws_tellsTo_157 K13 n P F A J r0 x3 x4 x5 x6 x7 = some w → k_run t lg (d + 1) 33 157 [(0, .ref (r0 * 1024 + 13)), (2, .ref (36 * 1024 + 9)), (3, .int x3), (4, .int x4), (5, .int x5), (6, .int x6), (7, .int x7)] [] (c_h c B P F A J) (some (.int w.1), c_h c B w.2.1 w.2.2.1 w.2.2.2.1 w.2.2.2.2) := by
  intro hD
  unfold e_Laws_tellsTo_157 at hD
  refine k_runB (pc' := 164) (loc' := [(0, .ref (r0 * 1024 + 13)), (2, .ref (36 * 1024 + 9)), (3, .int x3), (4, .int (x4 + (-1))), (5, .int x5), (6, .int x6), (7, .int x7)]) (st' := [.int 60, .int x6]) 3 rfl ?_
  refine k_ic rfl (fun c164_23 => ?_) (fun c164_23 => ?_)
  · rw [c164_23, cond_true] at hD
    refine k_runB (pc' := 200) (loc' := [(0, .ref (r0 * 1024 + 13)), (2, .ref (36 * 1024 + 9)), (3, .int x3), (4, .int (x4 + (-1))), (5, .int x5), (6, .int x6), (7, .int x7)]) (st' := [.ref (r0 * 1024 + 13)]) 1 rfl ?_
    refine k_gf r0 13 (K := 6) hr0 rfl rfl rfl rfl ?_
    refine k_runB (pc' := 208) (loc' := [(0, .ref (r0 * 1024 + 13)), (2, .ref (36 * 1024 + 9)), (3, .int x3), (4, .int (x4 + (-1))), (5, .int x5), (6, .int x6), (7, .int x7)]) (st' := [.ref (r0 * 1024 + 13), .int x6, .int (x4 + (-1)), .ref (r0 * 1024 + 17)]) 3 rfl ?_
    refine k_gf r0 13 (K := 6) hr0 rfl rfl rfl rfl ?_
    refine k_runB (pc' := 213) (loc' := [(0, .ref (r0 * 1024 + 13)), (2, .ref (36 * 1024 + 9)), (3, .int x3), (4, .int (x4 + (-1))), (5, .int x5), (6, .int x6), (7, .int x7)]) (st' := [.int (x4 + (-1)), .ref (r0 * 1024 + 17), .int x6, .int (x4 + (-1)), .ref (r0 * 1024 + 17)]) 1 rfl ?_
    obtain ⟨v25, hv25, hD⟩ := Option.bind_eq_some_iff.mp hD
    refine k_ldI rfl (c_get (r := r0) (o := 17) (K := 6) hr0 (by decide)) hv25 ?_
    refine k_runB (pc' := 215) (loc' := [(0, .ref (r0 * 1024 + 13)), (2, .ref (36 * 1024 + 9)), (3, .int x3), (4, .int (x4 + (-1))), (5, .int x5), (6, .int x6), (7, .int x7)]) (st' := [.ref (r0 * 1024 + 13), .int v25, .int x6, .int (x4 + (-1)), .ref (r0 * 1024 + 17)]) 1 rfl ?_
    refine k_gf r0 13 (K := 6) hr0 rfl rfl rfl rfl ?_
    refine k_runB (pc' := 222) (loc' := [(0, .ref (r0 * 1024 + 13)), (2, .ref (36 * 1024 + 9)), (3, .int x3), (4, .int (x4 + (-1))), (5, .int x5), (6, .int x6), (7, .int x7)]) (st' := [.int ((x4 + (-1)) + 1), .ref (r0 * 1024 + 17), .int v25, .int x6, .int (x4 + (-1)), .ref (r0 * 1024 + 17)]) 3 rfl ?_
    obtain ⟨v26, hv26, hD⟩ := Option.bind_eq_some_iff.mp hD
    refine k_ldI rfl (c_get (r := r0) (o := 17) (K := 6) hr0 (by decide)) hv26 ?_
    obtain ⟨v27, hv27, hD⟩ := Option.bind_eq_some_iff.mp hD
    refine k_runC rfl rfl rfl rfl (t_e_Laws_joined (d := d) hv27) ?_
    obtain ⟨A28, hA28, hD⟩ := Option.bind_eq_some_iff.mp hD
    refine k_cstI r0 17 (K := 6) hr0 rfl rfl rfl (fun _ => rfl) hA28 ?_
    refine k_runB (pc' := 13) (loc' := [(0, .ref (r0 * 1024 + 13)), (2, .ref (36 * 1024 + 9)), (3, .int x3), (4, .int (x4 + (-1))), (5, .int (x5 + 1)), (6, .int x6), (7, .int x7)]) (st' := []) 2 rfl ?_
    refine k_wk [0, 2, 3, 4, 5] (loc' := [(0, .ref (r0 * 1024 + 13)), (2, .ref (36 * 1024 + 9)), (3, .int x3), (4, .int (x4 + (-1))), (5, .int (x5 + 1))]) rfl rfl ?_
    exact hK13 _ _ _ _ _ _ _ _ _ hr0 hD
  · rw [c164_23, cond_false] at hD
    refine k_runB (pc' := 168) (loc' := [(0, .ref (r0 * 1024 + 13)), (2, .ref (36 * 1024 + 9)), (3, .int x3), (4, .int (x4 + (-1))), (5, .int x5), (6, .int x6), (7, .int x7)]) (st' := [.ref (r0 * 1024 + 13)]) 1 rfl ?_
    refine k_gf r0 13 (K := 6) hr0 rfl rfl rfl rfl ?_
    refine k_runB (pc' := 173) (loc' := [(0, .ref (r0 * 1024 + 13)), (2, .ref (36 * 1024 + 9)), (3, .int x3), (4, .int (x4 + (-1))), (5, .int x5), (6, .int x6), (7, .int x7)]) (st' := [.int (x4 + (-1)), .ref (r0 * 1024 + 17)]) 1 rfl ?_
    obtain ⟨v29, hv29, hD⟩ := Option.bind_eq_some_iff.mp hD
    refine k_ldI rfl (c_get (r := r0) (o := 17) (K := 6) hr0 (by decide)) hv29 ?_
    refine k_runB (pc' := 175) (loc' := [(0, .ref (r0 * 1024 + 13)), (2, .ref (36 * 1024 + 9)), (3, .int x3), (4, .int (x4 + (-1))), (5, .int x5), (6, .int x6), (7, .int x7)]) (st' := [.ref (r0 * 1024 + 13), .int v29]) 1 rfl ?_
    refine k_gf r0 13 (K := 6) hr0 rfl rfl rfl rfl ?_
    refine k_runB (pc' := 182) (loc' := [(0, .ref (r0 * 1024 + 13)), (2, .ref (36 * 1024 + 9)), (3, .int x3), (4, .int (x4 + (-1))), (5, .int x5), (6, .int x6), (7, .int x7)]) (st' := [.int ((x4 + (-1)) + 1), .ref (r0 * 1024 + 17), .int v29]) 3 rfl ?_
    obtain ⟨v30, hv30, hD⟩ := Option.bind_eq_some_iff.mp hD
    refine k_ldI rfl (c_get (r := r0) (o := 17) (K := 6) hr0 (by decide)) hv30 ?_
    refine k_ic rfl (fun c183_30 => ?_) (fun c183_30 => ?_)
    · rw [c183_30, cond_true] at hD
      refine k_runB (pc' := 192) (loc' := [(0, .ref (r0 * 1024 + 13)), (2, .ref (36 * 1024 + 9)), (3, .int x3), (4, .int (x4 + (-1))), (5, .int x5), (6, .int x6), (7, .int x7)]) (st' := [.int x7]) 1 rfl ?_
      refine k_wk [0, 2, 4, 5] (loc' := [(0, .ref (r0 * 1024 + 13)), (2, .ref (36 * 1024 + 9)), (4, .int (x4 + (-1))), (5, .int x5)]) rfl rfl ?_
      exact t_e_Laws_tellsTo_192 hK13 hr0 hD
    · rw [c183_30, cond_false] at hD
      refine k_runB (pc' := 192) (loc' := [(0, .ref (r0 * 1024 + 13)), (2, .ref (36 * 1024 + 9)), (3, .int x3), (4, .int (x4 + (-1))), (5, .int x5), (6, .int x6), (7, .int x7)]) (st' := [.int x3]) 2 rfl ?_
      refine k_wk [0, 2, 4, 5] (loc' := [(0, .ref (r0 * 1024 + 13)), (2, .ref (36 * 1024 + 9)), (4, .int (x4 + (-1))), (5, .int x5)]) rfl rfl ?_
      exact t_e_Laws_tellsTo_192 hK13 hr0 hD
def e_Laws_tellsTo_153 (n : Nat) (P : Nat → Nat → Nat) (F : Nat → Nat → Int32) (A : Nat → Nat → Nat → Int32) (J : Nat → Nat → Nat → Int64) (r0 : Nat) : Option (Int32 × (Nat → Nat → Nat) × (Nat → Nat → Int32) × (Nat → Nat → Nat → Int32) × (Nat → Nat → Nat → Int64)) :=
    (m_ld (A 36 9) 6 0).bind fun v23 =>
    some (v23, P, F, A, J)
set_option maxRecDepth 10000 in
theorem t_e_Laws_tellsTo_153 {n : Nat}  {P : Nat → Nat → Nat} {F : Nat → Nat → Int32} {A : Nat → Nat → Nat → Int32} {J : Nat → Nat → Nat → Int64} {r0 : Nat} (hr0 : c_kind r0 = 6) {w : Int32 × (Nat → Nat → Nat) × (Nat → Nat → Int32) × (Nat → Nat → Nat → Int32) × (Nat → Nat → Nat → Int64)} : e_Laws_tellsTo_153 n P F A J r0 = some w → k_run t lg (d + 1) 33 153 [(0, .ref (r0 * 1024 + 13)), (2, .ref (36 * 1024 + 9))] [] (c_h c B P F A J) (some (.int w.1), c_h c B w.2.1 w.2.2.1 w.2.2.2.1 w.2.2.2.2) := by
  intro hD
  unfold e_Laws_tellsTo_153 at hD
  refine k_runB (pc' := 155) (loc' := [(0, .ref (r0 * 1024 + 13)), (2, .ref (36 * 1024 + 9))]) (st' := [.int 0, .ref (36 * 1024 + 9)]) 2 rfl ?_
  obtain ⟨v23, hv23, hD⟩ := Option.bind_eq_some_iff.mp hD
  refine k_ldI rfl (c_get (r := 36) (o := 9) (K := 10) rfl (by decide)) hv23 ?_
  cases hD
  exact k_iret rfl rfl
def e_Laws_tellsTo_126 (K13 : (Nat → Nat → Nat) → (Nat → Nat → Int32) → (Nat → Nat → Nat → Int32) → (Nat → Nat → Nat → Int64) → Nat → Int32 → Int32 → Int32 → Option (Int32 × (Nat → Nat → Nat) × (Nat → Nat → Int32) × (Nat → Nat → Nat → Int32) × (Nat → Nat → Nat → Int64))) (n : Nat) (P : Nat → Nat → Nat) (F : Nat → Nat → Int32) (A : Nat → Nat → Nat → Int32) (J : Nat → Nat → Nat → Int64) (r0 : Nat) (x3 : Int32) (x4 : Int32) (x5 : Int32) (rs0 : Nat) (s1 : Int32) (s2 : Int32) : Option (Int32 × (Nat → Nat → Nat) × (Nat → Nat → Int32) × (Nat → Nat → Nat → Int32) × (Nat → Nat → Nat → Int64)) :=
    (c_st A rs0 17 32 s1 s2).bind fun A32 =>
    e_Laws_tellsTo_227 K13 n P F A32 J r0 x3 x4 x5
set_option maxRecDepth 10000 in
theorem t_e_Laws_tellsTo_126 {n : Nat} {K13 : (Nat → Nat → Nat) → (Nat → Nat → Int32) → (Nat → Nat → Nat → Int32) → (Nat → Nat → Nat → Int64) → Nat → Int32 → Int32 → Int32 → Option (Int32 × (Nat → Nat → Nat) × (Nat → Nat → Int32) × (Nat → Nat → Nat → Int32) × (Nat → Nat → Nat → Int64))} (hK13 : ∀ (P : Nat → Nat → Nat) (F : Nat → Nat → Int32) (A : Nat → Nat → Nat → Int32) (J : Nat → Nat → Nat → Int64) (r0 : Nat) (x3 : Int32) (x4 : Int32) (x5 : Int32) (w : Int32 × (Nat → Nat → Nat) × (Nat → Nat → Int32) × (Nat → Nat → Nat → Int32) × (Nat → Nat → Nat → Int64)), c_kind r0 = 6 → K13 P F A J r0 x3 x4 x5 = some w → k_run t lg (d + 1) 33 13 [(0, .ref (r0 * 1024 + 13)), (2, .ref (36 * 1024 + 9)), (3, .int x3), (4, .int x4), (5, .int x5)] [] (c_h c B P F A J) (some (.int w.1), c_h c B w.2.1 w.2.2.1 w.2.2.2.1 w.2.2.2.2)) {P : Nat → Nat → Nat} {F : Nat → Nat → Int32} {A : Nat → Nat → Nat → Int32} {J : Nat → Nat → Nat → Int64} {r0 : Nat} {x3 : Int32} {x4 : Int32} {x5 : Int32} {rs0 : Nat} {s1 : Int32} {s2 : Int32} (hr0 : c_kind r0 = 6) (hrs0 : c_kind rs0 = 6) {w : Int32 × (Nat → Nat → Nat) × (Nat → Nat → Int32) × (Nat → Nat → Nat → Int32) × (Nat → Nat → Nat → Int64)} : e_Laws_tellsTo_126 K13 n P F A J r0 x3 x4 x5 rs0 s1 s2 = some w → k_run t lg (d + 1) 33 126 [(0, .ref (r0 * 1024 + 13)), (2, .ref (36 * 1024 + 9)), (3, .int x3), (4, .int x4), (5, .int x5)] [.int s2, .int s1, .ref (rs0 * 1024 + 17)] (c_h c B P F A J) (some (.int w.1), c_h c B w.2.1 w.2.2.1 w.2.2.2.1 w.2.2.2.2) := by
  intro hD
  unfold e_Laws_tellsTo_126 at hD
  obtain ⟨A32, hA32, hD⟩ := Option.bind_eq_some_iff.mp hD
  refine k_cstI rs0 17 (K := 6) hrs0 rfl rfl rfl (fun _ => rfl) hA32 ?_
  refine k_runB (pc' := 227) (loc' := [(0, .ref (r0 * 1024 + 13)), (2, .ref (36 * 1024 + 9)), (3, .int x3), (4, .int x4), (5, .int x5)]) (st' := []) 1 rfl ?_
  refine k_wk [0, 2, 3, 4, 5] (loc' := [(0, .ref (r0 * 1024 + 13)), (2, .ref (36 * 1024 + 9)), (3, .int x3), (4, .int x4), (5, .int x5)]) rfl rfl ?_
  exact t_e_Laws_tellsTo_227 hK13 hr0 hD
def e_Laws_tellsTo_88 (K13 : (Nat → Nat → Nat) → (Nat → Nat → Int32) → (Nat → Nat → Nat → Int32) → (Nat → Nat → Nat → Int64) → Nat → Int32 → Int32 → Int32 → Option (Int32 × (Nat → Nat → Nat) × (Nat → Nat → Int32) × (Nat → Nat → Nat → Int32) × (Nat → Nat → Nat → Int64))) (n : Nat) (P : Nat → Nat → Nat) (F : Nat → Nat → Int32) (A : Nat → Nat → Nat → Int32) (J : Nat → Nat → Nat → Int64) (r0 : Nat) (x3 : Int32) (x4 : Int32) (x5 : Int32) (x6 : Int32) (x7 : Int32) : Option (Int32 × (Nat → Nat → Nat) × (Nat → Nat → Int32) × (Nat → Nat → Nat → Int32) × (Nat → Nat → Nat → Int64)) :=
    cond (g_cnd .lt (x4 + 1) (Int32.ofNat 32))
    (cond (g_cnd .ne x6 1)
    ((m_ld (A 36 9) 6 x7).bind fun v20 =>
    (c_st A r0 17 32 (x4 + 1) v20).bind fun A21 =>
    e_Laws_tellsTo_227 K13 n P F A21 J r0 x3 (x4 + 1) x5)
    (e_Laws_tellsTo_126 K13 n P F A J r0 x3 (x4 + 1) x5 r0 (x4 + 1) x7))
    ((m_ld (A 36 9) 6 0).bind fun v22 =>
    some (v22, P, F, A, J))
set_option maxRecDepth 10000 in
theorem t_e_Laws_tellsTo_88 {n : Nat} {K13 : (Nat → Nat → Nat) → (Nat → Nat → Int32) → (Nat → Nat → Nat → Int32) → (Nat → Nat → Nat → Int64) → Nat → Int32 → Int32 → Int32 → Option (Int32 × (Nat → Nat → Nat) × (Nat → Nat → Int32) × (Nat → Nat → Nat → Int32) × (Nat → Nat → Nat → Int64))} (hK13 : ∀ (P : Nat → Nat → Nat) (F : Nat → Nat → Int32) (A : Nat → Nat → Nat → Int32) (J : Nat → Nat → Nat → Int64) (r0 : Nat) (x3 : Int32) (x4 : Int32) (x5 : Int32) (w : Int32 × (Nat → Nat → Nat) × (Nat → Nat → Int32) × (Nat → Nat → Nat → Int32) × (Nat → Nat → Nat → Int64)), c_kind r0 = 6 → K13 P F A J r0 x3 x4 x5 = some w → k_run t lg (d + 1) 33 13 [(0, .ref (r0 * 1024 + 13)), (2, .ref (36 * 1024 + 9)), (3, .int x3), (4, .int x4), (5, .int x5)] [] (c_h c B P F A J) (some (.int w.1), c_h c B w.2.1 w.2.2.1 w.2.2.2.1 w.2.2.2.2)) {P : Nat → Nat → Nat} {F : Nat → Nat → Int32} {A : Nat → Nat → Nat → Int32} {J : Nat → Nat → Nat → Int64} {r0 : Nat} {x3 : Int32} {x4 : Int32} {x5 : Int32} {x6 : Int32} {x7 : Int32} (hr0 : c_kind r0 = 6) {w : Int32 × (Nat → Nat → Nat) × (Nat → Nat → Int32) × (Nat → Nat → Nat → Int32) × (Nat → Nat → Nat → Int64)} : e_Laws_tellsTo_88 K13 n P F A J r0 x3 x4 x5 x6 x7 = some w → k_run t lg (d + 1) 33 88 [(0, .ref (r0 * 1024 + 13)), (2, .ref (36 * 1024 + 9)), (3, .int x3), (4, .int x4), (5, .int x5), (6, .int x6), (7, .int x7)] [] (c_h c B P F A J) (some (.int w.1), c_h c B w.2.1 w.2.2.1 w.2.2.2.1 w.2.2.2.2) := by
  intro hD
  unfold e_Laws_tellsTo_88 at hD
  refine k_runB (pc' := 94) (loc' := [(0, .ref (r0 * 1024 + 13)), (2, .ref (36 * 1024 + 9)), (3, .int x3), (4, .int (x4 + 1)), (5, .int x5), (6, .int x6), (7, .int x7)]) (st' := [.ref (r0 * 1024 + 13), .int (x4 + 1)]) 3 rfl ?_
  refine k_gf r0 13 (K := 6) hr0 rfl rfl rfl rfl ?_
  refine k_cln r0 17 (K := 6) hr0 rfl rfl rfl ?_
  refine k_ic rfl (fun c98_17 => ?_) (fun c98_17 => ?_)
  · rw [c98_17, cond_true] at hD
    refine k_runB (pc' := 106) (loc' := [(0, .ref (r0 * 1024 + 13)), (2, .ref (36 * 1024 + 9)), (3, .int x3), (4, .int (x4 + 1)), (5, .int x5), (6, .int x6), (7, .int x7)]) (st' := [.ref (r0 * 1024 + 13)]) 1 rfl ?_
    refine k_gf r0 13 (K := 6) hr0 rfl rfl rfl rfl ?_
    refine k_runB (pc' := 114) (loc' := [(0, .ref (r0 * 1024 + 13)), (2, .ref (36 * 1024 + 9)), (3, .int x3), (4, .int (x4 + 1)), (5, .int x5), (6, .int x6), (7, .int x7)]) (st' := [.int 1, .int x6, .int (x4 + 1), .ref (r0 * 1024 + 17)]) 3 rfl ?_
    refine k_ic rfl (fun c114_18 => ?_) (fun c114_18 => ?_)
    · rw [c114_18, cond_true] at hD
      refine k_runB (pc' := 125) (loc' := [(0, .ref (r0 * 1024 + 13)), (2, .ref (36 * 1024 + 9)), (3, .int x3), (4, .int (x4 + 1)), (5, .int x5), (6, .int x6), (7, .int x7)]) (st' := [.int x7, .ref (36 * 1024 + 9), .int (x4 + 1), .ref (r0 * 1024 + 17)]) 2 rfl ?_
      obtain ⟨v20, hv20, hD⟩ := Option.bind_eq_some_iff.mp hD
      refine k_ldI rfl (c_get (r := 36) (o := 9) (K := 10) rfl (by decide)) hv20 ?_
      obtain ⟨A21, hA21, hD⟩ := Option.bind_eq_some_iff.mp hD
      refine k_cstI r0 17 (K := 6) hr0 rfl rfl rfl (fun _ => rfl) hA21 ?_
      refine k_runB (pc' := 227) (loc' := [(0, .ref (r0 * 1024 + 13)), (2, .ref (36 * 1024 + 9)), (3, .int x3), (4, .int (x4 + 1)), (5, .int x5), (6, .int x6), (7, .int x7)]) (st' := []) 1 rfl ?_
      refine k_wk [0, 2, 3, 4, 5] (loc' := [(0, .ref (r0 * 1024 + 13)), (2, .ref (36 * 1024 + 9)), (3, .int x3), (4, .int (x4 + 1)), (5, .int x5)]) rfl rfl ?_
      exact t_e_Laws_tellsTo_227 hK13 hr0 hD
    · rw [c114_18, cond_false] at hD
      refine k_runB (pc' := 126) (loc' := [(0, .ref (r0 * 1024 + 13)), (2, .ref (36 * 1024 + 9)), (3, .int x3), (4, .int (x4 + 1)), (5, .int x5), (6, .int x6), (7, .int x7)]) (st' := [.int x7, .int (x4 + 1), .ref (r0 * 1024 + 17)]) 2 rfl ?_
      refine k_wk [0, 2, 3, 4, 5] (loc' := [(0, .ref (r0 * 1024 + 13)), (2, .ref (36 * 1024 + 9)), (3, .int x3), (4, .int (x4 + 1)), (5, .int x5)]) rfl rfl ?_
      exact t_e_Laws_tellsTo_126 hK13 hr0 hr0 hD
  · rw [c98_17, cond_false] at hD
    refine k_runB (pc' := 103) (loc' := [(0, .ref (r0 * 1024 + 13)), (2, .ref (36 * 1024 + 9)), (3, .int x3), (4, .int (x4 + 1)), (5, .int x5), (6, .int x6), (7, .int x7)]) (st' := [.int 0, .ref (36 * 1024 + 9)]) 2 rfl ?_
    obtain ⟨v22, hv22, hD⟩ := Option.bind_eq_some_iff.mp hD
    refine k_ldI rfl (c_get (r := 36) (o := 9) (K := 10) rfl (by decide)) hv22 ?_
    cases hD
    exact k_iret rfl rfl
def e_Laws_tellsTo_13 : Nat → (Nat → Nat → Nat) → (Nat → Nat → Int32) → (Nat → Nat → Nat → Int32) → (Nat → Nat → Nat → Int64) → Nat → Int32 → Int32 → Int32 → Option (Int32 × (Nat → Nat → Nat) × (Nat → Nat → Int32) × (Nat → Nat → Nat → Int32) × (Nat → Nat → Nat → Int64))
  | 0, _, _, _, _, _, _, _, _ => none
  | n + 1, P, F, A, J, r0, x3, x4, x5 => cond (g_cnd .ge x5 (F r0 1304))
    (e_Laws_tellsTo_233 n P F A J r0)
    (cond (g_cnd .lt x3 0)
    (e_Laws_tellsTo_233 n P F A J r0)
    (cond (g_cnd .ge x3 (F r0 1304))
    (e_Laws_tellsTo_233 n P F A J r0)
    ((m_ld (A r0 15) 400 x3).bind fun v5 =>
    (m_ld (A r0 16) 400 x3).bind fun v6 =>
    cond (g_cnd .ne v5 0)
    (cond (g_cnd .eq v5 1)
    (e_Laws_tellsTo_88 (e_Laws_tellsTo_13 n) n P F A J r0 (x3 + 1) x4 x5 v5 v6)
    (cond (g_cnd .ne v5 2)
    (cond (g_cnd .lt x4 1)
    (e_Laws_tellsTo_153 n P F A J r0)
    (cond (g_cnd .ne v5 47)
    (e_Laws_tellsTo_157 (e_Laws_tellsTo_13 n) n P F A J r0 (x3 + 1) x4 x5 v5 v6)
    ((m_ld (A r0 17) 32 x4).bind fun v12 =>
    cond (g_cnd .ne v12 0)
    (e_Laws_tellsTo_157 (e_Laws_tellsTo_13 n) n P F A J r0 (x3 + 1) x4 x5 v5 v6)
    (e_Laws_tellsTo_153 n P F A J r0))))
    (e_Laws_tellsTo_88 (e_Laws_tellsTo_13 n) n P F A J r0 (x3 + 1) x4 x5 v5 v6)))
    (cond (g_cnd .ne x4 0)
    ((m_ld (A 36 9) 6 0).bind fun v15 =>
    some (v15, P, F, A, J))
    ((m_ld (A r0 17) 32 0).bind fun v16 =>
    some (v16, P, F, A, J))))))
set_option maxRecDepth 10000 in
theorem t_e_Laws_tellsTo_13 {n : Nat}  {P : Nat → Nat → Nat} {F : Nat → Nat → Int32} {A : Nat → Nat → Nat → Int32} {J : Nat → Nat → Nat → Int64} {r0 : Nat} {x3 : Int32} {x4 : Int32} {x5 : Int32} (hr0 : c_kind r0 = 6) {w : Int32 × (Nat → Nat → Nat) × (Nat → Nat → Int32) × (Nat → Nat → Nat → Int32) × (Nat → Nat → Nat → Int64)} : e_Laws_tellsTo_13 n P F A J r0 x3 x4 x5 = some w → k_run t lg (d + 1) 33 13 [(0, .ref (r0 * 1024 + 13)), (2, .ref (36 * 1024 + 9)), (3, .int x3), (4, .int x4), (5, .int x5)] [] (c_h c B P F A J) (some (.int w.1), c_h c B w.2.1 w.2.2.1 w.2.2.2.1 w.2.2.2.2) := by
  induction n generalizing P F A J r0 x3 x4 x5 w with
  | zero => intro hD; cases hD
  | succ n ih =>
    intro hD
    have hK13 : ∀ (P : Nat → Nat → Nat) (F : Nat → Nat → Int32) (A : Nat → Nat → Nat → Int32) (J : Nat → Nat → Nat → Int64) (r0 : Nat) (x3 : Int32) (x4 : Int32) (x5 : Int32) (w : Int32 × (Nat → Nat → Nat) × (Nat → Nat → Int32) × (Nat → Nat → Nat → Int32) × (Nat → Nat → Nat → Int64)), c_kind r0 = 6 → e_Laws_tellsTo_13 n P F A J r0 x3 x4 x5 = some w → k_run t lg (d + 1) 33 13 [(0, .ref (r0 * 1024 + 13)), (2, .ref (36 * 1024 + 9)), (3, .int x3), (4, .int x4), (5, .int x5)] [] (c_h c B P F A J) (some (.int w.1), c_h c B w.2.1 w.2.2.1 w.2.2.2.1 w.2.2.2.2) := fun _ _ _ _ _ _ _ _ _ kr0 h => ih kr0 h
    unfold e_Laws_tellsTo_13 at hD
    refine k_runB (pc' := 16) (loc' := [(0, .ref (r0 * 1024 + 13)), (2, .ref (36 * 1024 + 9)), (3, .int x3), (4, .int x4), (5, .int x5)]) (st' := [.ref (r0 * 1024 + 13), .int x5]) 2 rfl ?_
    refine k_gf r0 13 (K := 6) hr0 rfl rfl rfl rfl ?_
    refine k_ic rfl (fun c19_1 => ?_) (fun c19_1 => ?_)
    · rw [c19_1, cond_true] at hD
      refine k_wk [0, 2] (loc' := [(0, .ref (r0 * 1024 + 13)), (2, .ref (36 * 1024 + 9))]) rfl rfl ?_
      exact t_e_Laws_tellsTo_233  hr0 hD
    · rw [c19_1, cond_false] at hD
      refine k_runB (pc' := 23) (loc' := [(0, .ref (r0 * 1024 + 13)), (2, .ref (36 * 1024 + 9)), (3, .int x3), (4, .int x4), (5, .int x5)]) (st' := [.int x3]) 1 rfl ?_
      refine k_if rfl (fun c23_2 => ?_) (fun c23_2 => ?_)
      · rw [c23_2, cond_true] at hD
        refine k_wk [0, 2] (loc' := [(0, .ref (r0 * 1024 + 13)), (2, .ref (36 * 1024 + 9))]) rfl rfl ?_
        exact t_e_Laws_tellsTo_233  hr0 hD
      · rw [c23_2, cond_false] at hD
        refine k_runB (pc' := 28) (loc' := [(0, .ref (r0 * 1024 + 13)), (2, .ref (36 * 1024 + 9)), (3, .int x3), (4, .int x4), (5, .int x5)]) (st' := [.ref (r0 * 1024 + 13), .int x3]) 2 rfl ?_
        refine k_gf r0 13 (K := 6) hr0 rfl rfl rfl rfl ?_
        refine k_ic rfl (fun c31_3 => ?_) (fun c31_3 => ?_)
        · rw [c31_3, cond_true] at hD
          refine k_wk [0, 2] (loc' := [(0, .ref (r0 * 1024 + 13)), (2, .ref (36 * 1024 + 9))]) rfl rfl ?_
          exact t_e_Laws_tellsTo_233  hr0 hD
        · rw [c31_3, cond_false] at hD
          refine k_runB (pc' := 35) (loc' := [(0, .ref (r0 * 1024 + 13)), (2, .ref (36 * 1024 + 9)), (3, .int x3), (4, .int x4), (5, .int x5)]) (st' := [.ref (r0 * 1024 + 13)]) 1 rfl ?_
          refine k_gf r0 13 (K := 6) hr0 rfl rfl rfl rfl ?_
          refine k_runB (pc' := 39) (loc' := [(0, .ref (r0 * 1024 + 13)), (2, .ref (36 * 1024 + 9)), (3, .int x3), (4, .int x4), (5, .int x5)]) (st' := [.int x3, .ref (r0 * 1024 + 15)]) 1 rfl ?_
          obtain ⟨v5, hv5, hD⟩ := Option.bind_eq_some_iff.mp hD
          refine k_ldI rfl (c_get (r := r0) (o := 15) (K := 6) hr0 (by decide)) hv5 ?_
          refine k_runB (pc' := 43) (loc' := [(0, .ref (r0 * 1024 + 13)), (2, .ref (36 * 1024 + 9)), (3, .int x3), (4, .int x4), (5, .int x5), (6, .int v5)]) (st' := [.ref (r0 * 1024 + 13)]) 2 rfl ?_
          refine k_gf r0 13 (K := 6) hr0 rfl rfl rfl rfl ?_
          refine k_runB (pc' := 47) (loc' := [(0, .ref (r0 * 1024 + 13)), (2, .ref (36 * 1024 + 9)), (3, .int x3), (4, .int x4), (5, .int x5), (6, .int v5)]) (st' := [.int x3, .ref (r0 * 1024 + 16)]) 1 rfl ?_
          obtain ⟨v6, hv6, hD⟩ := Option.bind_eq_some_iff.mp hD
          refine k_ldI rfl (c_get (r := r0) (o := 16) (K := 6) hr0 (by decide)) hv6 ?_
          refine k_runB (pc' := 55) (loc' := [(0, .ref (r0 * 1024 + 13)), (2, .ref (36 * 1024 + 9)), (3, .int (x3 + 1)), (4, .int x4), (5, .int x5), (6, .int v5), (7, .int v6)]) (st' := [.int v5]) 3 rfl ?_
          refine k_if rfl (fun c55_6 => ?_) (fun c55_6 => ?_)
          · rw [c55_6, cond_true] at hD
            refine k_runB (pc' := 79) (loc' := [(0, .ref (r0 * 1024 + 13)), (2, .ref (36 * 1024 + 9)), (3, .int (x3 + 1)), (4, .int x4), (5, .int x5), (6, .int v5), (7, .int v6)]) (st' := [.int 1, .int v5]) 2 rfl ?_
            refine k_ic rfl (fun c79_7 => ?_) (fun c79_7 => ?_)
            · rw [c79_7, cond_true] at hD
              refine k_wk [0, 2, 3, 4, 5, 6, 7] (loc' := [(0, .ref (r0 * 1024 + 13)), (2, .ref (36 * 1024 + 9)), (3, .int (x3 + 1)), (4, .int x4), (5, .int x5), (6, .int v5), (7, .int v6)]) rfl rfl ?_
              exact t_e_Laws_tellsTo_88 hK13 hr0 hD
            · rw [c79_7, cond_false] at hD
              refine k_runB (pc' := 85) (loc' := [(0, .ref (r0 * 1024 + 13)), (2, .ref (36 * 1024 + 9)), (3, .int (x3 + 1)), (4, .int x4), (5, .int x5), (6, .int v5), (7, .int v6)]) (st' := [.int 2, .int v5]) 2 rfl ?_
              refine k_ic rfl (fun c85_8 => ?_) (fun c85_8 => ?_)
              · rw [c85_8, cond_true] at hD
                refine k_runB (pc' := 133) (loc' := [(0, .ref (r0 * 1024 + 13)), (2, .ref (36 * 1024 + 9)), (3, .int (x3 + 1)), (4, .int x4), (5, .int x5), (6, .int v5), (7, .int v6)]) (st' := [.int 1, .int x4]) 2 rfl ?_
                refine k_ic rfl (fun c133_9 => ?_) (fun c133_9 => ?_)
                · rw [c133_9, cond_true] at hD
                  refine k_wk [0, 2] (loc' := [(0, .ref (r0 * 1024 + 13)), (2, .ref (36 * 1024 + 9))]) rfl rfl ?_
                  exact t_e_Laws_tellsTo_153  hr0 hD
                · rw [c133_9, cond_false] at hD
                  refine k_runB (pc' := 140) (loc' := [(0, .ref (r0 * 1024 + 13)), (2, .ref (36 * 1024 + 9)), (3, .int (x3 + 1)), (4, .int x4), (5, .int x5), (6, .int v5), (7, .int v6)]) (st' := [.int 47, .int v5]) 2 rfl ?_
                  refine k_ic rfl (fun c140_10 => ?_) (fun c140_10 => ?_)
                  · rw [c140_10, cond_true] at hD
                    refine k_wk [0, 2, 3, 4, 5, 6, 7] (loc' := [(0, .ref (r0 * 1024 + 13)), (2, .ref (36 * 1024 + 9)), (3, .int (x3 + 1)), (4, .int x4), (5, .int x5), (6, .int v5), (7, .int v6)]) rfl rfl ?_
                    exact t_e_Laws_tellsTo_157 hK13 hr0 hD
                  · rw [c140_10, cond_false] at hD
                    refine k_runB (pc' := 144) (loc' := [(0, .ref (r0 * 1024 + 13)), (2, .ref (36 * 1024 + 9)), (3, .int (x3 + 1)), (4, .int x4), (5, .int x5), (6, .int v5), (7, .int v6)]) (st' := [.ref (r0 * 1024 + 13)]) 1 rfl ?_
                    refine k_gf r0 13 (K := 6) hr0 rfl rfl rfl rfl ?_
                    refine k_runB (pc' := 149) (loc' := [(0, .ref (r0 * 1024 + 13)), (2, .ref (36 * 1024 + 9)), (3, .int (x3 + 1)), (4, .int x4), (5, .int x5), (6, .int v5), (7, .int v6)]) (st' := [.int x4, .ref (r0 * 1024 + 17)]) 1 rfl ?_
                    obtain ⟨v12, hv12, hD⟩ := Option.bind_eq_some_iff.mp hD
                    refine k_ldI rfl (c_get (r := r0) (o := 17) (K := 6) hr0 (by decide)) hv12 ?_
                    refine k_if rfl (fun c150_12 => ?_) (fun c150_12 => ?_)
                    · rw [c150_12, cond_true] at hD
                      refine k_wk [0, 2, 3, 4, 5, 6, 7] (loc' := [(0, .ref (r0 * 1024 + 13)), (2, .ref (36 * 1024 + 9)), (3, .int (x3 + 1)), (4, .int x4), (5, .int x5), (6, .int v5), (7, .int v6)]) rfl rfl ?_
                      exact t_e_Laws_tellsTo_157 hK13 hr0 hD
                    · rw [c150_12, cond_false] at hD
                      refine k_wk [0, 2] (loc' := [(0, .ref (r0 * 1024 + 13)), (2, .ref (36 * 1024 + 9))]) rfl rfl ?_
                      exact t_e_Laws_tellsTo_153  hr0 hD
              · rw [c85_8, cond_false] at hD
                refine k_wk [0, 2, 3, 4, 5, 6, 7] (loc' := [(0, .ref (r0 * 1024 + 13)), (2, .ref (36 * 1024 + 9)), (3, .int (x3 + 1)), (4, .int x4), (5, .int x5), (6, .int v5), (7, .int v6)]) rfl rfl ?_
                exact t_e_Laws_tellsTo_88 hK13 hr0 hD
          · rw [c55_6, cond_false] at hD
            refine k_runB (pc' := 60) (loc' := [(0, .ref (r0 * 1024 + 13)), (2, .ref (36 * 1024 + 9)), (3, .int (x3 + 1)), (4, .int x4), (5, .int x5), (6, .int v5), (7, .int v6)]) (st' := [.int x4]) 1 rfl ?_
            refine k_if rfl (fun c60_13 => ?_) (fun c60_13 => ?_)
            · rw [c60_13, cond_true] at hD
              refine k_runB (pc' := 74) (loc' := [(0, .ref (r0 * 1024 + 13)), (2, .ref (36 * 1024 + 9)), (3, .int (x3 + 1)), (4, .int x4), (5, .int x5), (6, .int v5), (7, .int v6)]) (st' := [.int 0, .ref (36 * 1024 + 9)]) 2 rfl ?_
              obtain ⟨v15, hv15, hD⟩ := Option.bind_eq_some_iff.mp hD
              refine k_ldI rfl (c_get (r := 36) (o := 9) (K := 10) rfl (by decide)) hv15 ?_
              cases hD
              exact k_iret rfl rfl
            · rw [c60_13, cond_false] at hD
              refine k_runB (pc' := 64) (loc' := [(0, .ref (r0 * 1024 + 13)), (2, .ref (36 * 1024 + 9)), (3, .int (x3 + 1)), (4, .int x4), (5, .int x5), (6, .int v5), (7, .int v6)]) (st' := [.ref (r0 * 1024 + 13)]) 1 rfl ?_
              refine k_gf r0 13 (K := 6) hr0 rfl rfl rfl rfl ?_
              refine k_runB (pc' := 68) (loc' := [(0, .ref (r0 * 1024 + 13)), (2, .ref (36 * 1024 + 9)), (3, .int (x3 + 1)), (4, .int x4), (5, .int x5), (6, .int v5), (7, .int v6)]) (st' := [.int 0, .ref (r0 * 1024 + 17)]) 1 rfl ?_
              obtain ⟨v16, hv16, hD⟩ := Option.bind_eq_some_iff.mp hD
              refine k_ldI rfl (c_get (r := r0) (o := 17) (K := 6) hr0 (by decide)) hv16 ?_
              refine k_runB (pc' := 75) (loc' := [(0, .ref (r0 * 1024 + 13)), (2, .ref (36 * 1024 + 9)), (3, .int (x3 + 1)), (4, .int x4), (5, .int x5), (6, .int v5), (7, .int v6)]) (st' := [.int v16]) 1 rfl ?_
              cases hD
              exact k_iret rfl rfl
/-- SleepWork$Laws.tellsTo(I[I)I  -/
def e_Laws_tellsTo (n : Nat) (P : Nat → Nat → Nat) (F : Nat → Nat → Int32) (A : Nat → Nat → Nat → Int32) (J : Nat → Nat → Nat → Int64) (r0 : Nat) (x1 : Int32) : Option (Int32 × (Nat → Nat → Nat) × (Nat → Nat → Int32) × (Nat → Nat → Nat → Int32) × (Nat → Nat → Nat → Int64)) :=
  (m_ld (A r0 14) 6 x1).bind fun v1 =>
  e_Laws_tellsTo_13 n P F A J r0 v1 ((-1)) 0
set_option maxRecDepth 10000 in
theorem t_e_Laws_tellsTo {n : Nat} {P : Nat → Nat → Nat} {F : Nat → Nat → Int32} {A : Nat → Nat → Nat → Int32} {J : Nat → Nat → Nat → Int64} {r0 : Nat} {x1 : Int32} (hr0 : c_kind r0 = 6) {w : Int32 × (Nat → Nat → Nat) × (Nat → Nat → Int32) × (Nat → Nat → Nat → Int32) × (Nat → Nat → Nat → Int64)} : e_Laws_tellsTo n P F A J r0 x1 = some w → k_run t lg (d + 1) 33 0 [(0, .ref (r0 * 1024 + 13)), (1, .int x1), (2, .ref (36 * 1024 + 9))] [] (c_h c B P F A J) (some (.int w.1), c_h c B w.2.1 w.2.2.1 w.2.2.2.1 w.2.2.2.2) := by
  intro hD
  unfold e_Laws_tellsTo at hD
  refine k_runB (pc' := 1) (loc' := [(0, .ref (r0 * 1024 + 13)), (1, .int x1), (2, .ref (36 * 1024 + 9))]) (st' := [.ref (r0 * 1024 + 13)]) 1 rfl ?_
  refine k_gf r0 13 (K := 6) hr0 rfl rfl rfl rfl ?_
  refine k_runB (pc' := 5) (loc' := [(0, .ref (r0 * 1024 + 13)), (1, .int x1), (2, .ref (36 * 1024 + 9))]) (st' := [.int x1, .ref (r0 * 1024 + 14)]) 1 rfl ?_
  obtain ⟨v1, hv1, hD⟩ := Option.bind_eq_some_iff.mp hD
  refine k_ldI rfl (c_get (r := r0) (o := 14) (K := 6) hr0 (by decide)) hv1 ?_
  refine k_runB (pc' := 13) (loc' := [(0, .ref (r0 * 1024 + 13)), (1, .int x1), (2, .ref (36 * 1024 + 9)), (3, .int v1), (4, .int ((-1))), (5, .int 0)]) (st' := []) 5 rfl ?_
  refine k_wk [0, 2, 3, 4, 5] (loc' := [(0, .ref (r0 * 1024 + 13)), (2, .ref (36 * 1024 + 9)), (3, .int v1), (4, .int ((-1))), (5, .int 0)]) rfl rfl ?_
  exact t_e_Laws_tellsTo_13  hr0 hD
/-- SleepWork$Sleep.chosenStep(III)I  -/
def e_Sleep_chosenStep (n : Nat) (P : Nat → Nat → Nat) (F : Nat → Nat → Int32) (A : Nat → Nat → Nat → Int32) (J : Nat → Nat → Nat → Int64) (x1 : Int32) (x2 : Int32) (x3 : Int32) : Option (Int32 × (Nat → Nat → Nat) × (Nat → Nat → Int32) × (Nat → Nat → Nat → Int32) × (Nat → Nat → Nat → Int64)) :=
  (m_ld (A 36 5) 6 x1).bind fun v1 =>
  (c_st A 36 9 6 0 v1).bind fun A2 =>
  (c_chk 2 (P 36 9)).bind fun q3 =>
  (m_ld (A2 36 5) 6 x1).bind fun v4 =>
  (m_ld (A2 q3 1) 36 ((x2 * 6) + v4)).bind fun v5 =>
  (c_st A2 36 9 6 1 v5).bind fun A6 =>
  (c_chk 6 (P 36 8)).bind fun q7 =>
  (m_ld (A6 q7 5) 6 x2).bind fun v8 =>
  (c_st A6 36 9 6 2 v8).bind fun A9 =>
  (c_st A9 36 9 6 3 x3).bind fun A10 =>
  (c_chk 2 (P 36 9)).bind fun q11 =>
  (m_ld (A10 q11 2) 6 x2).bind fun v12 =>
  (c_st A10 36 9 6 4 v12).bind fun A13 =>
  (m_ld (A13 36 6) 6 x1).bind fun v14 =>
  (c_st A13 36 9 6 5 v14).bind fun A15 =>
  (c_chk 6 (P 36 8)).bind fun q16 =>
  (e_Laws_tellsTo n P F A15 J q16 x1).bind fun (v17, P18, F19, A20, J21) =>
  (c_chk 6 (P18 36 8)).bind fun q22 =>
  (m_ld (A20 q22 5) 6 x2).bind fun v23 =>
  some (if 0 < (if v17 < (v23 - 1) then v17 else (v23 - 1)) then (if v17 < (v23 - 1) then v17 else (v23 - 1)) else 0, P18, F19, A20, J21)
set_option maxRecDepth 10000 in
theorem t_e_Sleep_chosenStep {n : Nat} {P : Nat → Nat → Nat} {F : Nat → Nat → Int32} {A : Nat → Nat → Nat → Int32} {J : Nat → Nat → Nat → Int64} {x1 : Int32} {x2 : Int32} {x3 : Int32}  {w : Int32 × (Nat → Nat → Nat) × (Nat → Nat → Int32) × (Nat → Nat → Nat → Int32) × (Nat → Nat → Nat → Int64)} : e_Sleep_chosenStep n P F A J x1 x2 x3 = some w → k_run t lg (d + 2) 81 0 [(0, .ref (36 * 1024)), (1, .int x1), (2, .int x2), (3, .int x3)] [] (c_h c B P F A J) (some (.int w.1), c_h c B w.2.1 w.2.2.1 w.2.2.2.1 w.2.2.2.2) := by
  intro hD
  unfold e_Sleep_chosenStep at hD
  refine k_runB (pc' := 1) (loc' := [(0, .ref (36 * 1024)), (1, .int x1), (2, .int x2), (3, .int x3)]) (st' := [.ref (36 * 1024)]) 1 rfl ?_
  refine k_gf 36 0 (K := 10) rfl rfl rfl rfl rfl ?_
  refine k_runB (pc' := 6) (loc' := [(0, .ref (36 * 1024)), (1, .int x1), (2, .int x2), (3, .int x3)]) (st' := [.ref (36 * 1024), .int 0, .ref (36 * 1024 + 9)]) 2 rfl ?_
  refine k_gf 36 0 (K := 10) rfl rfl rfl rfl rfl ?_
  refine k_runB (pc' := 10) (loc' := [(0, .ref (36 * 1024)), (1, .int x1), (2, .int x2), (3, .int x3)]) (st' := [.int x1, .ref (36 * 1024 + 5), .int 0, .ref (36 * 1024 + 9)]) 1 rfl ?_
  obtain ⟨v1, hv1, hD⟩ := Option.bind_eq_some_iff.mp hD
  refine k_ldI rfl (c_get (r := 36) (o := 5) (K := 10) rfl (by decide)) hv1 ?_
  obtain ⟨A2, hA2, hD⟩ := Option.bind_eq_some_iff.mp hD
  refine k_cstI 36 9 (K := 10) rfl rfl rfl rfl (fun _ => rfl) hA2 ?_
  refine k_runB (pc' := 13) (loc' := [(0, .ref (36 * 1024)), (1, .int x1), (2, .int x2), (3, .int x3)]) (st' := [.ref (36 * 1024)]) 1 rfl ?_
  refine k_gf 36 0 (K := 10) rfl rfl rfl rfl rfl ?_
  refine k_runB (pc' := 18) (loc' := [(0, .ref (36 * 1024)), (1, .int x1), (2, .int x2), (3, .int x3)]) (st' := [.ref (36 * 1024), .int 1, .ref (36 * 1024 + 9)]) 2 rfl ?_
  obtain ⟨q3, hq3, hD⟩ := Option.bind_eq_some_iff.mp hD
  refine k_gq 36 0 (K := 10) (K2 := 2) (key := 9) rfl rfl rfl rfl rfl hq3 (fun kq3 => ?_)
  refine k_gf q3 0 (K := 2) kq3 rfl rfl rfl rfl ?_
  refine k_runB (pc' := 29) (loc' := [(0, .ref (36 * 1024)), (1, .int x1), (2, .int x2), (3, .int x3)]) (st' := [.ref (36 * 1024), .int (x2 * 6), .ref (q3 * 1024 + 1), .int 1, .ref (36 * 1024 + 9)]) 4 rfl ?_
  refine k_gf 36 0 (K := 10) rfl rfl rfl rfl rfl ?_
  refine k_runB (pc' := 33) (loc' := [(0, .ref (36 * 1024)), (1, .int x1), (2, .int x2), (3, .int x3)]) (st' := [.int x1, .ref (36 * 1024 + 5), .int (x2 * 6), .ref (q3 * 1024 + 1), .int 1, .ref (36 * 1024 + 9)]) 1 rfl ?_
  obtain ⟨v4, hv4, hD⟩ := Option.bind_eq_some_iff.mp hD
  refine k_ldI rfl (c_get (r := 36) (o := 5) (K := 10) rfl (by decide)) hv4 ?_
  refine k_runB (pc' := 35) (loc' := [(0, .ref (36 * 1024)), (1, .int x1), (2, .int x2), (3, .int x3)]) (st' := [.int ((x2 * 6) + v4), .ref (q3 * 1024 + 1), .int 1, .ref (36 * 1024 + 9)]) 1 rfl ?_
  obtain ⟨v5, hv5, hD⟩ := Option.bind_eq_some_iff.mp hD
  refine k_ldI rfl (c_get (r := q3) (o := 1) (K := 2) kq3 (by decide)) hv5 ?_
  obtain ⟨A6, hA6, hD⟩ := Option.bind_eq_some_iff.mp hD
  refine k_cstI 36 9 (K := 10) rfl rfl rfl rfl (fun _ => rfl) hA6 ?_
  refine k_runB (pc' := 38) (loc' := [(0, .ref (36 * 1024)), (1, .int x1), (2, .int x2), (3, .int x3)]) (st' := [.ref (36 * 1024)]) 1 rfl ?_
  refine k_gf 36 0 (K := 10) rfl rfl rfl rfl rfl ?_
  refine k_runB (pc' := 43) (loc' := [(0, .ref (36 * 1024)), (1, .int x1), (2, .int x2), (3, .int x3)]) (st' := [.ref (36 * 1024), .int 2, .ref (36 * 1024 + 9)]) 2 rfl ?_
  obtain ⟨q7, hq7, hD⟩ := Option.bind_eq_some_iff.mp hD
  refine k_gq 36 0 (K := 10) (K2 := 6) (key := 8) rfl rfl rfl rfl rfl hq7 (fun kq7 => ?_)
  refine k_gf q7 0 (K := 6) kq7 rfl rfl rfl rfl ?_
  refine k_runB (pc' := 50) (loc' := [(0, .ref (36 * 1024)), (1, .int x1), (2, .int x2), (3, .int x3)]) (st' := [.int x2, .ref (q7 * 1024 + 5), .int 2, .ref (36 * 1024 + 9)]) 1 rfl ?_
  obtain ⟨v8, hv8, hD⟩ := Option.bind_eq_some_iff.mp hD
  refine k_ldI rfl (c_get (r := q7) (o := 5) (K := 6) kq7 (by decide)) hv8 ?_
  obtain ⟨A9, hA9, hD⟩ := Option.bind_eq_some_iff.mp hD
  refine k_cstI 36 9 (K := 10) rfl rfl rfl rfl (fun _ => rfl) hA9 ?_
  refine k_runB (pc' := 53) (loc' := [(0, .ref (36 * 1024)), (1, .int x1), (2, .int x2), (3, .int x3)]) (st' := [.ref (36 * 1024)]) 1 rfl ?_
  refine k_gf 36 0 (K := 10) rfl rfl rfl rfl rfl ?_
  refine k_runB (pc' := 58) (loc' := [(0, .ref (36 * 1024)), (1, .int x1), (2, .int x2), (3, .int x3)]) (st' := [.int x3, .int 3, .ref (36 * 1024 + 9)]) 2 rfl ?_
  obtain ⟨A10, hA10, hD⟩ := Option.bind_eq_some_iff.mp hD
  refine k_cstI 36 9 (K := 10) rfl rfl rfl rfl (fun _ => rfl) hA10 ?_
  refine k_runB (pc' := 60) (loc' := [(0, .ref (36 * 1024)), (1, .int x1), (2, .int x2), (3, .int x3)]) (st' := [.ref (36 * 1024)]) 1 rfl ?_
  refine k_gf 36 0 (K := 10) rfl rfl rfl rfl rfl ?_
  refine k_runB (pc' := 65) (loc' := [(0, .ref (36 * 1024)), (1, .int x1), (2, .int x2), (3, .int x3)]) (st' := [.ref (36 * 1024), .int 4, .ref (36 * 1024 + 9)]) 2 rfl ?_
  obtain ⟨q11, hq11, hD⟩ := Option.bind_eq_some_iff.mp hD
  refine k_gq 36 0 (K := 10) (K2 := 2) (key := 9) rfl rfl rfl rfl rfl hq11 (fun kq11 => ?_)
  refine k_gf q11 0 (K := 2) kq11 rfl rfl rfl rfl ?_
  refine k_runB (pc' := 72) (loc' := [(0, .ref (36 * 1024)), (1, .int x1), (2, .int x2), (3, .int x3)]) (st' := [.int x2, .ref (q11 * 1024 + 2), .int 4, .ref (36 * 1024 + 9)]) 1 rfl ?_
  obtain ⟨v12, hv12, hD⟩ := Option.bind_eq_some_iff.mp hD
  refine k_ldI rfl (c_get (r := q11) (o := 2) (K := 2) kq11 (by decide)) hv12 ?_
  obtain ⟨A13, hA13, hD⟩ := Option.bind_eq_some_iff.mp hD
  refine k_cstI 36 9 (K := 10) rfl rfl rfl rfl (fun _ => rfl) hA13 ?_
  refine k_runB (pc' := 75) (loc' := [(0, .ref (36 * 1024)), (1, .int x1), (2, .int x2), (3, .int x3)]) (st' := [.ref (36 * 1024)]) 1 rfl ?_
  refine k_gf 36 0 (K := 10) rfl rfl rfl rfl rfl ?_
  refine k_runB (pc' := 80) (loc' := [(0, .ref (36 * 1024)), (1, .int x1), (2, .int x2), (3, .int x3)]) (st' := [.ref (36 * 1024), .int 5, .ref (36 * 1024 + 9)]) 2 rfl ?_
  refine k_gf 36 0 (K := 10) rfl rfl rfl rfl rfl ?_
  refine k_runB (pc' := 84) (loc' := [(0, .ref (36 * 1024)), (1, .int x1), (2, .int x2), (3, .int x3)]) (st' := [.int x1, .ref (36 * 1024 + 6), .int 5, .ref (36 * 1024 + 9)]) 1 rfl ?_
  obtain ⟨v14, hv14, hD⟩ := Option.bind_eq_some_iff.mp hD
  refine k_ldI rfl (c_get (r := 36) (o := 6) (K := 10) rfl (by decide)) hv14 ?_
  obtain ⟨A15, hA15, hD⟩ := Option.bind_eq_some_iff.mp hD
  refine k_cstI 36 9 (K := 10) rfl rfl rfl rfl (fun _ => rfl) hA15 ?_
  refine k_runB (pc' := 87) (loc' := [(0, .ref (36 * 1024)), (1, .int x1), (2, .int x2), (3, .int x3)]) (st' := [.ref (36 * 1024)]) 1 rfl ?_
  obtain ⟨q16, hq16, hD⟩ := Option.bind_eq_some_iff.mp hD
  refine k_gq 36 0 (K := 10) (K2 := 6) (key := 8) rfl rfl rfl rfl rfl hq16 (fun kq16 => ?_)
  refine k_gf q16 0 (K := 6) kq16 rfl rfl rfl rfl ?_
  refine k_runB (pc' := 95) (loc' := [(0, .ref (36 * 1024)), (1, .int x1), (2, .int x2), (3, .int x3)]) (st' := [.ref (36 * 1024), .int x1, .ref (q16 * 1024 + 13)]) 2 rfl ?_
  refine k_gf 36 0 (K := 10) rfl rfl rfl rfl rfl ?_
  obtain ⟨⟨v17, P18, F19, A20, J21⟩, hv17, hD⟩ := Option.bind_eq_some_iff.mp hD
  dsimp only at hD
  refine k_runV rfl rfl rfl (c_get (r := q16) (o := 13) (K := 6) kq16 (by decide)) rfl rfl (t_e_Laws_tellsTo (d := d) kq16 hv17) ?_
  refine k_runB (pc' := 105) (loc' := [(0, .ref (36 * 1024)), (1, .int x1), (2, .int x2), (3, .int x3), (4, .int v17)]) (st' := [.ref (36 * 1024), .int 0]) 3 rfl ?_
  obtain ⟨q22, hq22, hD⟩ := Option.bind_eq_some_iff.mp hD
  refine k_gq 36 0 (K := 10) (K2 := 6) (key := 8) rfl rfl rfl rfl rfl hq22 (fun kq22 => ?_)
  refine k_gf q22 0 (K := 6) kq22 rfl rfl rfl rfl ?_
  refine k_runB (pc' := 112) (loc' := [(0, .ref (36 * 1024)), (1, .int x1), (2, .int x2), (3, .int x3), (4, .int v17)]) (st' := [.int x2, .ref (q22 * 1024 + 5), .int 0]) 1 rfl ?_
  obtain ⟨v23, hv23, hD⟩ := Option.bind_eq_some_iff.mp hD
  refine k_ldI rfl (c_get (r := q22) (o := 5) (K := 6) kq22 (by decide)) hv23 ?_
  refine k_runB (pc' := 123) (loc' := [(0, .ref (36 * 1024)), (1, .int x1), (2, .int x2), (3, .int x3), (4, .int v17)]) (st' := [.int (if 0 < (if v17 < (v23 - 1) then v17 else (v23 - 1)) then (if v17 < (v23 - 1) then v17 else (v23 - 1)) else 0)]) 5 rfl ?_
  cases hD
  exact k_iret rfl rfl
end MC
