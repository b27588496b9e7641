section Qz18
/-! the class's methods as functions (printed by wip/dec2.py) -/
section MC
variable {t : gT} {lg : Nat → Nat} {d : Nat} {c : Nat × Nat} {B : Nat → List gE}
def e_House_isEnded_18 : Nat → (Nat → Nat → Nat) → (Nat → Nat → Int32) → (Nat → Nat → Nat → Int32) → (Nat → Nat → Nat → Int64) → Nat → Nat → Int32 → Int32 → Option (Int32)
  | 0, _, _, _, _, _, _, _, _ => none
  | n + 1, P, F, A, J, r0, r1, x3, x4 => cond (g_cnd .ge x4 x3)
    (some (1))
    ((m_ld (A r1 1) 36 x4).bind fun v3 =>
    (m_ld (A r0 7) 36 x4).bind fun v4 =>
    cond (g_cnd .ge v3 v4)
    ((e_House_isEnded_18 n) P F A J r0 r1 x3 (x4 + 1))
    (some (0)))
set_option maxRecDepth 10000 in
theorem t_e_House_isEnded_18 {n : Nat}  {P : Nat → Nat → Nat} {F : Nat → Nat → Int32} {A : Nat → Nat → Nat → Int32} {J : Nat → Nat → Nat → Int64} {r0 : Nat} {r1 : Nat} {x3 : Int32} {x4 : Int32} (hr0 : c_kind r0 = 6) (hr1 : c_kind r1 = 2) {w : Int32} : e_House_isEnded_18 n P F A J r0 r1 x3 x4 = some w → k_run t lg (d) 25 18 [(0, .ref (r0 * 1024)), (1, .ref (r1 * 1024)), (3, .int x3), (4, .int x4)] [] (c_h c B P F A J) (some (.int w), c_h c B P F A J) := by
  induction n generalizing P F A J r0 r1 x3 x4 w with
  | zero => intro hD; cases hD
  | succ n ih =>
    intro hD
    have hK18 : ∀ (P : Nat → Nat → Nat) (F : Nat → Nat → Int32) (A : Nat → Nat → Nat → Int32) (J : Nat → Nat → Nat → Int64) (r0 : Nat) (r1 : Nat) (x3 : Int32) (x4 : Int32) (w : Int32), c_kind r0 = 6 → c_kind r1 = 2 → e_House_isEnded_18 n P F A J r0 r1 x3 x4 = some w → k_run t lg (d) 25 18 [(0, .ref (r0 * 1024)), (1, .ref (r1 * 1024)), (3, .int x3), (4, .int x4)] [] (c_h c B P F A J) (some (.int w), c_h c B P F A J) := fun _ _ _ _ _ _ _ _ _ kr0 kr1 h => ih kr0 kr1 h
    unfold e_House_isEnded_18 at hD
    refine k_runB (pc' := 21) (loc' := [(0, .ref (r0 * 1024)), (1, .ref (r1 * 1024)), (3, .int x3), (4, .int x4)]) (st' := [.int x3, .int x4]) 2 rfl ?_
    refine k_ic rfl (fun c21_1 => ?_) (fun c21_1 => ?_)
    · rw [c21_1, cond_true] at hD
      refine k_runB (pc' := 50) (loc' := [(0, .ref (r0 * 1024)), (1, .ref (r1 * 1024)), (3, .int x3), (4, .int x4)]) (st' := [.int 1]) 1 rfl ?_
      cases hD
      exact k_zret rfl rfl (Or.inr rfl)
    · rw [c21_1, cond_false] at hD
      refine k_runB (pc' := 25) (loc' := [(0, .ref (r0 * 1024)), (1, .ref (r1 * 1024)), (3, .int x3), (4, .int x4)]) (st' := [.ref (r1 * 1024)]) 1 rfl ?_
      refine k_gf r1 0 (K := 2) hr1 rfl rfl rfl rfl ?_
      refine k_runB (pc' := 30) (loc' := [(0, .ref (r0 * 1024)), (1, .ref (r1 * 1024)), (3, .int x3), (4, .int x4)]) (st' := [.int x4, .ref (r1 * 1024 + 1)]) 1 rfl ?_
      obtain ⟨v3, hv3, hD⟩ := Option.bind_eq_some_iff.mp hD
      refine k_ldI rfl (c_get (r := r1) (o := 1) (K := 2) hr1 (by decide)) hv3 ?_
      refine k_runB (pc' := 32) (loc' := [(0, .ref (r0 * 1024)), (1, .ref (r1 * 1024)), (3, .int x3), (4, .int x4)]) (st' := [.ref (r0 * 1024), .int v3]) 1 rfl ?_
      refine k_gf r0 0 (K := 6) hr0 rfl rfl rfl rfl ?_
      refine k_runB (pc' := 37) (loc' := [(0, .ref (r0 * 1024)), (1, .ref (r1 * 1024)), (3, .int x3), (4, .int x4)]) (st' := [.int x4, .ref (r0 * 1024 + 7), .int v3]) 1 rfl ?_
      obtain ⟨v4, hv4, hD⟩ := Option.bind_eq_some_iff.mp hD
      refine k_ldI rfl (c_get (r := r0) (o := 7) (K := 6) hr0 (by decide)) hv4 ?_
      refine k_ic rfl (fun c38_4 => ?_) (fun c38_4 => ?_)
      · rw [c38_4, cond_true] at hD
        refine k_runB (pc' := 18) (loc' := [(0, .ref (r0 * 1024)), (1, .ref (r1 * 1024)), (3, .int x3), (4, .int (x4 + 1))]) (st' := []) 2 rfl ?_
        refine k_wk [0, 1, 3, 4] (loc' := [(0, .ref (r0 * 1024)), (1, .ref (r1 * 1024)), (3, .int x3), (4, .int (x4 + 1))]) rfl rfl ?_
        exact hK18 _ _ _ _ _ _ _ _ _ hr0 hr1 hD
      · rw [c38_4, cond_false] at hD
        refine k_runB (pc' := 42) (loc' := [(0, .ref (r0 * 1024)), (1, .ref (r1 * 1024)), (3, .int x3), (4, .int x4)]) (st' := [.int 0]) 1 rfl ?_
        cases hD
        exact k_zret rfl rfl (Or.inl rfl)
/-- SleepWork$House.isEnded(LSleepWork$State;I)Z  -/
def e_House_isEnded (n : Nat) (P : Nat → Nat → Nat) (F : Nat → Nat → Int32) (A : Nat → Nat → Nat → Int32) (J : Nat → Nat → Nat → Int64) (r0 : Nat) (r1 : Nat) (x2 : Int32) : Option (Int32) :=
  (m_ld (A r0 5) 6 x2).bind fun v1 =>
  e_House_isEnded_18 n P F A J r0 r1 ((x2 * 6) + v1) (x2 * 6)
set_option maxRecDepth 10000 in
theorem t_e_House_isEnded {n : Nat} {P : Nat → Nat → Nat} {F : Nat → Nat → Int32} {A : Nat → Nat → Nat → Int32} {J : Nat → Nat → Nat → Int64} {r0 : Nat} {r1 : Nat} {x2 : Int32} (hr0 : c_kind r0 = 6) (hr1 : c_kind r1 = 2) {w : Int32} : e_House_isEnded n P F A J r0 r1 x2 = some w → k_run t lg (d) 25 0 [(0, .ref (r0 * 1024)), (1, .ref (r1 * 1024)), (2, .int x2)] [] (c_h c B P F A J) (some (.int w), c_h c B P F A J) := by
  intro hD
  unfold e_House_isEnded at hD
  refine k_runB (pc' := 5) (loc' := [(0, .ref (r0 * 1024)), (1, .ref (r1 * 1024)), (2, .int x2)]) (st' := [.ref (r0 * 1024), .int (x2 * 6)]) 4 rfl ?_
  refine k_gf r0 0 (K := 6) hr0 rfl rfl rfl rfl ?_
  refine k_runB (pc' := 9) (loc' := [(0, .ref (r0 * 1024)), (1, .ref (r1 * 1024)), (2, .int x2)]) (st' := [.int x2, .ref (r0 * 1024 + 5), .int (x2 * 6)]) 1 rfl ?_
  obtain ⟨v1, hv1, hD⟩ := Option.bind_eq_some_iff.mp hD
  refine k_ldI rfl (c_get (r := r0) (o := 5) (K := 6) hr0 (by decide)) hv1 ?_
  refine k_runB (pc' := 18) (loc' := [(0, .ref (r0 * 1024)), (1, .ref (r1 * 1024)), (2, .int x2), (3, .int ((x2 * 6) + v1)), (4, .int (x2 * 6))]) (st' := []) 6 rfl ?_
  refine k_wk [0, 1, 3, 4] (loc' := [(0, .ref (r0 * 1024)), (1, .ref (r1 * 1024)), (3, .int ((x2 * 6) + v1)), (4, .int (x2 * 6))]) rfl rfl ?_
  exact t_e_House_isEnded_18  hr0 hr1 hD
/-- SleepWork$Laws.joined(III)I  -/
def e_Laws_joined (P : Nat → Nat → Nat) (F : Nat → Nat → Int32) (A : Nat → Nat → Nat → Int32) (J : Nat → Nat → Nat → Int64) (x0 : Int32) (x1 : Int32) (x2 : Int32) : Option (Int32) :=
  cond (decide (x0 = 42))
  (some (x1 * x2))
  (cond (decide (x0 = 43))
  (some (x1 + x2))
  (cond (decide (x0 = 44))
  (cond (g_cnd .ne x2 0)
  ((m_div x1 x2).bind fun v3 =>
  some (v3))
  (some (0)))
  (cond (decide (x0 = 45))
  (some (x1 - x2))
  (cond (g_cnd .ne x2 0)
  ((m_div x1 x2).bind fun v5 =>
  some (v5))
  (some (0))))))
set_option maxRecDepth 10000 in
theorem t_e_Laws_joined {P : Nat → Nat → Nat} {F : Nat → Nat → Int32} {A : Nat → Nat → Nat → Int32} {J : Nat → Nat → Nat → Int64} {x0 : Int32} {x1 : Int32} {x2 : Int32}  {w : Int32} : e_Laws_joined P F A J x0 x1 x2 = some w → k_run t lg (d) 34 0 [(0, .int x0), (1, .int x1), (2, .int x2)] [] (c_h c B P F A J) (some (.int w), c_h c B P F A J) := by
  intro hD
  unfold e_Laws_joined at hD
  refine k_runB (pc' := 1) (loc' := [(0, .int x0), (1, .int x1), (2, .int x2)]) (st' := [.int x0]) 1 rfl ?_
  cases c1_0_0 : decide (x0 = 42) with
  | true =>
    rw [c1_0_0, cond_true] at hD
    refine k_tab (tgt := 40) rfl (by rw [of_decide_eq_true c1_0_0]; decide) ?_
    refine k_runB (pc' := 43) (loc' := [(0, .int x0), (1, .int x1), (2, .int x2)]) (st' := [.int (x1 * x2)]) 3 rfl ?_
    cases hD
    exact k_iret rfl rfl
  | false =>
    rw [c1_0_0, cond_false] at hD
    cases c1_0_1 : decide (x0 = 43) with
    | true =>
      rw [c1_0_1, cond_true] at hD
      refine k_tab (tgt := 32) rfl (by rw [of_decide_eq_true c1_0_1]; decide) ?_
      refine k_runB (pc' := 35) (loc' := [(0, .int x0), (1, .int x1), (2, .int x2)]) (st' := [.int (x1 + x2)]) 3 rfl ?_
      cases hD
      exact k_iret rfl rfl
    | false =>
      rw [c1_0_1, cond_false] at hD
      cases c1_0_2 : decide (x0 = 44) with
      | true =>
        rw [c1_0_2, cond_true] at hD
        refine k_tab (tgt := 44) rfl (by rw [of_decide_eq_true c1_0_2]; decide) ?_
        refine k_runB (pc' := 45) (loc' := [(0, .int x0), (1, .int x1), (2, .int x2)]) (st' := [.int x2]) 1 rfl ?_
        refine k_if rfl (fun c45_1 => ?_) (fun c45_1 => ?_)
        · rw [c45_1, cond_true] at hD
          refine k_runB (pc' := 54) (loc' := [(0, .int x0), (1, .int x1), (2, .int x2)]) (st' := [.int x2, .int x1]) 2 rfl ?_
          obtain ⟨v3, hv3, hD⟩ := Option.bind_eq_some_iff.mp hD
          refine k_dvI rfl hv3 ?_
          cases hD
          exact k_iret rfl rfl
        · rw [c45_1, cond_false] at hD
          refine k_runB (pc' := 55) (loc' := [(0, .int x0), (1, .int x1), (2, .int x2)]) (st' := [.int 0]) 2 rfl ?_
          cases hD
          exact k_iret rfl rfl
      | false =>
        rw [c1_0_2, cond_false] at hD
        cases c1_0_3 : decide (x0 = 45) with
        | true =>
          rw [c1_0_3, cond_true] at hD
          refine k_tab (tgt := 36) rfl (by rw [of_decide_eq_true c1_0_3]; decide) ?_
          refine k_runB (pc' := 39) (loc' := [(0, .int x0), (1, .int x1), (2, .int x2)]) (st' := [.int (x1 - x2)]) 3 rfl ?_
          cases hD
          exact k_iret rfl rfl
        | false =>
          rw [c1_0_3, cond_false] at hD
          refine k_tab (tgt := 44) rfl (by rw [if_pos (m_out (lo := 42) (hi := 45) [42, 43, 44, 45] (by decide) (by decide) (List.forall_mem_cons.mpr ⟨of_decide_eq_false c1_0_0, List.forall_mem_cons.mpr ⟨of_decide_eq_false c1_0_1, List.forall_mem_cons.mpr ⟨of_decide_eq_false c1_0_2, List.forall_mem_cons.mpr ⟨of_decide_eq_false c1_0_3, fun _ h => absurd h List.not_mem_nil⟩⟩⟩⟩))]; rfl) ?_
          refine k_runB (pc' := 45) (loc' := [(0, .int x0), (1, .int x1), (2, .int x2)]) (st' := [.int x2]) 1 rfl ?_
          refine k_if rfl (fun c45_3 => ?_) (fun c45_3 => ?_)
          · rw [c45_3, cond_true] at hD
            refine k_runB (pc' := 54) (loc' := [(0, .int x0), (1, .int x1), (2, .int x2)]) (st' := [.int x2, .int x1]) 2 rfl ?_
            obtain ⟨v5, hv5, hD⟩ := Option.bind_eq_some_iff.mp hD
            refine k_dvI rfl hv5 ?_
            cases hD
            exact k_iret rfl rfl
          · rw [c45_3, cond_false] at hD
            refine k_runB (pc' := 55) (loc' := [(0, .int x0), (1, .int x1), (2, .int x2)]) (st' := [.int 0]) 2 rfl ?_
            cases hD
            exact k_iret rfl rfl
def e_Laws_tellsTo_233 (n : Nat) (P : Nat → Nat → Nat) (F : Nat → Nat → Int32) (A : Nat → Nat → Nat → Int32) (J : Nat → Nat → Nat → Int64) (r0 : Nat) : Option (Int32 × (Nat → Nat → Nat) × (Nat → Nat → Int32) × (Nat → Nat → Nat → Int32) × (Nat → Nat → Nat → Int64)) :=
    (m_ld (A 36 9) 6 0).bind fun v17 =>
    some (v17, P, F, A, J)
set_option maxRecDepth 10000 in
theorem t_e_Laws_tellsTo_233 {n : Nat}  {P : Nat → Nat → Nat} {F : Nat → Nat → Int32} {A : Nat → Nat → Nat → Int32} {J : Nat → Nat → Nat → Int64} {r0 : Nat} (hr0 : c_kind r0 = 6) {w : Int32 × (Nat → Nat → Nat) × (Nat → Nat → Int32) × (Nat → Nat → Nat → Int32) × (Nat → Nat → Nat → Int64)} : e_Laws_tellsTo_233 n P F A J r0 = some w → k_run t lg (d + 1) 33 233 [(0, .ref (r0 * 1024 + 13)), (2, .ref (36 * 1024 + 9))] [] (c_h c B P F A J) (some (.int w.1), c_h c B w.2.1 w.2.2.1 w.2.2.2.1 w.2.2.2.2) := by
  intro hD
  unfold e_Laws_tellsTo_233 at hD
  refine k_runB (pc' := 235) (loc' := [(0, .ref (r0 * 1024 + 13)), (2, .ref (36 * 1024 + 9))]) (st' := [.int 0, .ref (36 * 1024 + 9)]) 2 rfl ?_
  obtain ⟨v17, hv17, hD⟩ := Option.bind_eq_some_iff.mp hD
  refine k_ldI rfl (c_get (r := 36) (o := 9) (K := 10) rfl (by decide)) hv17 ?_
  cases hD
  exact k_iret rfl rfl
def e_Laws_tellsTo_227 (K13 : (Nat → Nat → Nat) → (Nat → Nat → Int32) → (Nat → Nat → Nat → Int32) → (Nat → Nat → Nat → Int64) → Nat → Int32 → Int32 → Int32 → Option (Int32 × (Nat → Nat → Nat) × (Nat → Nat → Int32) × (Nat → Nat → Nat → Int32) × (Nat → Nat → Nat → Int64))) (n : Nat) (P : Nat → Nat → Nat) (F : Nat → Nat → Int32) (A : Nat → Nat → Nat → Int32) (J : Nat → Nat → Nat → Int64) (r0 : Nat) (x3 : Int32) (x4 : Int32) (x5 : Int32) : Option (Int32 × (Nat → Nat → Nat) × (Nat → Nat → Int32) × (Nat → Nat → Nat → Int32) × (Nat → Nat → Nat → Int64)) :=
    K13 P F A J r0 x3 x4 (x5 + 1)
set_option maxRecDepth 10000 in
theorem t_e_Laws_tellsTo_227 {n : Nat} {K13 : (Nat → Nat → Nat) → (Nat → Nat → Int32) → (Nat → Nat → Nat → Int32) → (Nat → Nat → Nat → Int64) → Nat → Int32 → Int32 → Int32 → Option (Int32 × (Nat → Nat → Nat) × (Nat → Nat → Int32) × (Nat → Nat → Nat → Int32) × (Nat → Nat → Nat → Int64))} (hK13 : ∀ (P : Nat → Nat → Nat) (F : Nat → Nat → Int32) (A : Nat → Nat → Nat → Int32) (J : Nat → Nat → Nat → Int64) (r0 : Nat) (x3 : Int32) (x4 : Int32) (x5 : Int32) (w : Int32 × (Nat → Nat → Nat) × (Nat → Nat → Int32) × (Nat → Nat → Nat → Int32) × (Nat → Nat → Nat → Int64)), c_kind r0 = 6 → K13 P F A J r0 x3 x4 x5 = some w → k_run t lg (d + 1) 33 13 [(0, .ref (r0 * 1024 + 13)), (2, .ref (36 * 1024 + 9)), (3, .int x3), (4, .int x4), (5, .int x5)] [] (c_h c B P F A J) (some (.int w.1), c_h c B w.2.1 w.2.2.1 w.2.2.2.1 w.2.2.2.2)) {P : Nat → Nat → Nat} {F : Nat → Nat → Int32} {A : Nat → Nat → Nat → Int32} {J : Nat → Nat → Nat → Int64} {r0 : Nat} {x3 : Int32} {x4 : Int32} {x5 : Int32} (hr0 : c_kind r0 = 6) {w : Int32 × (Nat → Nat → Nat) × (Nat → Nat → Int32) × (Nat → Nat → Nat → Int32) × (Nat → Nat → Nat → Int64)} : e_Laws_tellsTo_227 K13 n P F A J r0 x3 x4 x5 = some w → k_run t lg (d + 1) 33 227 [(0, .ref (r0 * 1024 + 13)), (2, .ref (36 * 1024 + 9)), (3, .int x3), (4, .int x4), (5, .int x5)] [] (c_h c B P F A J) (some (.int w.1), c_h c B w.2.1 w.2.2.1 w.2.2.2.1 w.2.2.2.2) := by
  intro hD
  unfold e_Laws_tellsTo_227 at hD
  refine k_runB (pc' := 13) (loc' := [(0, .ref (r0 * 1024 + 13)), (2, .ref (36 * 1024 + 9)), (3, .int x3), (4, .int x4), (5, .int (x5 + 1))]) (st' := []) 2 rfl ?_
  refine k_wk [0, 2, 3, 4, 5] (loc' := [(0, .ref (r0 * 1024 + 13)), (2, .ref (36 * 1024 + 9)), (3, .int x3), (4, .int x4), (5, .int (x5 + 1))]) rfl rfl ?_
  exact hK13 _ _ _ _ _ _ _ _ _ hr0 hD
def e_Laws_tellsTo_192 (K13 : (Nat → Nat → Nat) → (Nat → Nat → Int32) → (Nat → Nat → Nat → Int32) → (Nat → Nat → Nat → Int64) → Nat → Int32 → Int32 → Int32 → Option (Int32 × (Nat → Nat → Nat) × (Nat → Nat → Int32) × (Nat → Nat → Nat → Int32) × (Nat → Nat → Nat → Int64))) (n : Nat) (P : Nat → Nat → Nat) (F : Nat → Nat → Int32) (A : Nat → Nat → Nat → Int32) (J : Nat → Nat → Nat → Int64) (r0 : Nat) (x4 : Int32) (x5 : Int32) (s0 : Int32) : Option (Int32 × (Nat → Nat → Nat) × (Nat → Nat → Int32) × (Nat → Nat → Nat → Int32) × (Nat → Nat → Nat → Int64)) :=
    e_Laws_tellsTo_227 K13 n P F A J r0 s0 (x4 + (-1)) x5
set_option maxRecDepth 10000 in
theorem t_e_Laws_tellsTo_192 {n : Nat} {K13 : (Nat → Nat → Nat) → (Nat → Nat → Int32) → (Nat → Nat → Nat → Int32) → (Nat → Nat → Nat → Int64) → Nat → Int32 → Int32 → Int32 → Option (Int32 × (Nat → Nat → Nat) × (Nat → Nat → Int32) × (Nat → Nat → Nat → Int32) × (Nat → Nat → Nat → Int64))} (hK13 : ∀ (P : Nat → Nat → Nat) (F : Nat → Nat → Int32) (A : Nat → Nat → Nat → Int32) (J : Nat → Nat → Nat → Int64) (r0 : Nat) (x3 : Int32) (x4 : Int32) (x5 : Int32) (w : Int32 × (Nat → Nat → Nat) × (Nat → Nat → Int32) × (Nat → Nat → Nat → Int32) × (Nat → Nat → Nat → Int64)), c_kind r0 = 6 → K13 P F A J r0 x3 x4 x5 = some w → k_run t lg (d + 1) 33 13 [(0, .ref (r0 * 1024 + 13)), (2, .ref (36 * 1024 + 9)), (3, .int x3), (4, .int x4), (5, .int x5)] [] (c_h c B P F A J) (some (.int w.1), c_h c B w.2.1 w.2.2.1 w.2.2.2.1 w.2.2.2.2)) {P : Nat → Nat → Nat} {F : Nat → Nat → Int32} {A : Nat → Nat → Nat → Int32} {J : Nat → Nat → Nat → Int64} {r0 : Nat} {x4 : Int32} {x5 : Int32} {s0 : Int32} (hr0 : c_kind r0 = 6) {w : Int32 × (Nat → Nat → Nat) × (Nat → Nat → Int32) × (Nat → Nat → Nat → Int32) × (Nat → Nat → Nat → Int64)} : e_Laws_tellsTo_192 K13 n P F A J r0 x4 x5 s0 = some w → k_run t lg (d + 1) 33 192 [(0, .ref (r0 * 1024 + 13)), (2, .ref (36 * 1024 + 9)), (4, .int x4), (5, .int x5)] [.int s0] (c_h c B P F A J) (some (.int w.1), c_h c B w.2.1 w.2.2.1 w.2.2.2.1 w.2.2.2.2) := by
  intro hD
  unfold e_Laws_tellsTo_192 at hD
  refine k_runB (pc' := 227) (loc' := [(0, .ref (r0 * 1024 + 13)), (2, .ref (36 * 1024 + 9)), (3, .int s0), (4, .int (x4 + (-1))), (5, .int x5)]) (st' := []) 3 rfl ?_
  refine k_wk [0, 2, 3, 4, 5] (loc' := [(0, .ref (r0 * 1024 + 13)), (2, .ref (36 * 1024 + 9)), (3, .int s0), (4, .int (x4 + (-1))), (5, .int x5)]) rfl rfl ?_
  exact t_e_Laws_tellsTo_227 hK13 hr0 hD
def e_Laws_tellsTo_157 (K13 : (Nat → Nat → Nat) → (Nat → Nat → Int32) → (Nat → Nat → Nat → Int32) → (Nat → Nat → Nat → Int64) → Nat → Int32 → Int32 → Int32 → Option (Int32 × (Nat → Nat → Nat) × (Nat → Nat → Int32) × (Nat → Nat → Nat → Int32) × (Nat → Nat → Nat → Int64))) (n : Nat) (P : Nat → Nat → Nat) (F : Nat → Nat → Int32) (A : Nat → Nat → Nat → Int32) (J : Nat → Nat → Nat → Int64) (r0 : Nat) (x3 : Int32) (x4 : Int32) (x5 : Int32) (x6 : Int32) (x7 : Int32) : Option (Int32 × (Nat → Nat → Nat) × (Nat → Nat → Int32) × (Nat → Nat → Nat → Int32) × (Nat → Nat → Nat → Int64)) :=
    cond (g_cnd .ne x6 60)
    ((m_ld (A r0 17) 32 (x4 + (-1))).bind fun v25 =>
    (m_ld (A r0 17) 32 ((x4 + (-1)) + 1)).bind fun v26 =>
    (e_Laws_joined P F A J x6 v25 v26).bind fun v27 =>
    (c_st A r0 17 32 (x4 + (-1)) v27).bind fun A28 =>
    K13 P F A28 J r0 x3 (x4 + (-1)) (x5 + 1))
    ((m_ld (A r0 17) 32 (x4 + (-1))).bind fun v29 =>
    (m_ld (A r0 17) 32 ((x4 + (-1)) + 1)).bind fun v30 =>
    cond (g_cnd .ge v29 v30)
    (e_Laws_tellsTo_192 K13 n P F A J r0 (x4 + (-1)) x5 x7)
    (e_Laws_tellsTo_192 K13 n P F A J r0 (x4 + (-1)) x5 x3))
set_option maxRecDepth 10000 in
theorem t_e_Laws_tellsTo_157 {n : Nat} {K13 : (Nat → Nat → Nat) → (Nat → Nat → Int32) → (Nat → Nat → Nat → Int32) → (Nat → Nat → Nat → Int64) → Nat → Int32 → Int32 → Int32 → Option (Int32 × (Nat → Nat → Nat) × (Nat → Nat → Int32) × (Nat → Nat → Nat → Int32) × (Nat → Nat → Nat → Int64))} (hK13 : ∀ (P : Nat → Nat → Nat) (F : Nat → Nat → Int32) (A : Nat → Nat → Nat → Int32) (J : Nat → Nat → Nat → Int64) (r0 : Nat) (x3 : Int32) (x4 : Int32) (x5 : Int32) (w : Int32 × (Nat → Nat → Nat) × (Nat → Nat → Int32) × (Nat → Nat → Nat → Int32) × (Nat → Nat → Nat → Int64)), c_kind r0 = 6 → K13 P F A J r0 x3 x4 x5 = some w → k_run t lg (d + 1) 33 13 [(0, .ref (r0 * 1024 + 13)), (2, .ref (36 * 1024 + 9)), (3, .int x3), (4, .int x4), (5, .int x5)] [] (c_h c B P F A J) (some (.int w.1), c_h c B w.2.1 w.2.2.1 w.2.2.2.1 w.2.2.2.2)) {P : Nat → Nat → Nat} {F : Nat → Nat → Int32} {A : Nat → Nat → Nat → Int32} {J : Nat → Nat → Nat → Int64} {r0 : Nat} {x3 : Int32} {x4 : Int32} {x5 : Int32} {x6 : Int32} {x7 : Int32} (hr0 : c_kind r0 = 6) {w : Int32 × (Nat → Nat → Nat) × (Nat → Nat → Int32) × (Nat → Nat → Nat → Int32) × (Nat → Nat → Nat → Int64)} : e_Laws_tellsTo_157 K13 n P F A J r0 x3 x4 x5 x6 x7 = some w → k_run t lg (d + 1) 33 157 [(0, .ref (r0 * 1024 + 13)), (2, .ref (36 * 1024 + 9)), (3, .int x3), (4, .int x4), (5, .int x5), (6, .int x6), (7, .int x7)] [] (c_h c B P F A J) (some (.int w.1), c_h c B w.2.1 w.2.2.1 w.2.2.2.1 w.2.2.2.2) := by
  intro hD
  unfold e_Laws_tellsTo_157 at hD
  refine k_runB (pc' := 164) (loc' := [(0, .ref (r0 * 1024 + 13)), (2, .ref (36 * 1024 + 9)), (3, .int x3), (4, .int (x4 + (-1))), (5, .int x5), (6, .int x6), (7, .int x7)]) (st' := [.int 60, .int x6]) 3 rfl ?_
  refine k_ic rfl (fun c164_23 => ?_) (fun c164_23 => ?_)
  · rw [c164_23, cond_true] at hD
    refine k_runB (pc' := 200) (loc' := [(0, .ref (r0 * 1024 + 13)), (2, .ref (36 * 1024 + 9)), (3, .int x3), (4, .int (x4 + (-1))), (5, .int x5), (6, .int x6), (7, .int x7)]) (st' := [.ref (r0 * 1024 + 13)]) 1 rfl ?_
    refine k_gf r0 13 (K := 6) hr0 rfl rfl rfl rfl ?_
    refine k_runB (pc' := 208) (loc' := [(0, .ref (r0 * 1024 + 13)), (2, .ref (36 * 1024 + 9)), (3, .int x3), (4, .int (x4 + (-1))), (5, .int x5), (6, .int x6), (7, .int x7)]) (st' := [.ref (r0 * 1024 + 13), .int x6, .int (x4 + (-1)), .ref (r0 * 1024 + 17)]) 3 rfl ?_
    refine k_gf r0 13 (K := 6) hr0 rfl rfl rfl rfl ?_
    refine k_runB (pc' := 213) (loc' := [(0, .ref (r0 * 1024 + 13)), (2, .ref (36 * 1024 + 9)), (3, .int x3), (4, .int (x4 + (-1))), (5, .int x5), (6, .int x6), (7, .int x7)]) (st' := [.int (x4 + (-1)), .ref (r0 * 1024 + 17), .int x6, .int (x4 + (-1)), .ref (r0 * 1024 + 17)]) 1 rfl ?_
    obtain ⟨v25, hv25, hD⟩ := Option.bind_eq_some_iff.mp hD
    refine k_ldI rfl (c_get (r := r0) (o := 17) (K := 6) hr0 (by decide)) hv25 ?_
    refine k_runB (pc' := 215) (loc' := [(0, .ref (r0 * 1024 + 13)), (2, .ref (36 * 1024 + 9)), (3, .int x3), (4, .int (x4 + (-1))), (5, .int x5), (6, .int x6), (7, .int x7)]) (st' := [.ref (r0 * 1024 + 13), .int v25, .int x6, .int (x4 + (-1)), .ref (r0 * 1024 + 17)]) 1 rfl ?_
    refine k_gf r0 13 (K := 6) hr0 rfl rfl rfl rfl ?_
    refine k_runB (pc' := 222) (loc' := [(0, .ref (r0 * 1024 + 13)), (2, .ref (36 * 1024 + 9)), (3, .int x3), (4, .int (x4 + (-1))), (5, .int x5), (6, .int x6), (7, .int x7)]) (st' := [.int ((x4 + (-1)) + 1), .ref (r0 * 1024 + 17), .int v25, .int x6, .int (x4 + (-1)), .ref (r0 * 1024 + 17)]) 3 rfl ?_
    obtain ⟨v26, hv26, hD⟩ := Option.bind_eq_some_iff.mp hD
    refine k_ldI rfl (c_get (r := r0) (o := 17) (K := 6) hr0 (by decide)) hv26 ?_
    obtain ⟨v27, hv27, hD⟩ := Option.bind_eq_some_iff.mp hD
    refine k_runC rfl rfl rfl rfl (t_e_Laws_joined (d := d) hv27) ?_
    obtain ⟨A28, hA28, hD⟩ := Option.bind_eq_some_iff.mp hD
    refine k_cstI r0 17 (K := 6) hr0 rfl rfl rfl (fun _ => rfl) hA28 ?_
    refine k_runB (pc' := 13) (loc' := [(0, .ref (r0 * 1024 + 13)), (2, .ref (36 * 1024 + 9)), (3, .int x3), (4, .int (x4 + (-1))), (5, .int (x5 + 1)), (6, .int x6), (7, .int x7)]) (st' := []) 2 rfl ?_
    refine k_wk [0, 2, 3, 4, 5] (loc' := [(0, .ref (r0 * 1024 + 13)), (2, .ref (36 * 1024 + 9)), (3, .int x3), (4, .int (x4 + (-1))), (5, .int (x5 + 1))]) rfl rfl ?_
    exact hK13 _ _ _ _ _ _ _ _ _ hr0 hD
  · rw [c164_23, cond_false] at hD
    refine k_runB (pc' := 168) (loc' := [(0, .ref (r0 * 1024 + 13)), (2, .ref (36 * 1024 + 9)), (3, .int x3), (4, .int (x4 + (-1))), (5, .int x5), (6, .int x6), (7, .int x7)]) (st' := [.ref (r0 * 1024 + 13)]) 1 rfl ?_
    refine k_gf r0 13 (K := 6) hr0 rfl rfl rfl rfl ?_
    refine k_runB (pc' := 173) (loc' := [(0, .ref (r0 * 1024 + 13)), (2, .ref (36 * 1024 + 9)), (3, .int x3), (4, .int (x4 + (-1))), (5, .int x5), (6, .int x6), (7, .int x7)]) (st' := [.int (x4 + (-1)), .ref (r0 * 1024 + 17)]) 1 rfl ?_
    obtain ⟨v29, hv29, hD⟩ := Option.bind_eq_some_iff.mp hD
    refine k_ldI rfl (c_get (r := r0) (o := 17) (K := 6) hr0 (by decide)) hv29 ?_
    refine k_runB (pc' := 175) (loc' := [(0, .ref (r0 * 1024 + 13)), (2, .ref (36 * 1024 + 9)), (3, .int x3), (4, .int (x4 + (-1))), (5, .int x5), (6, .int x6), (7, .int x7)]) (st' := [.ref (r0 * 1024 + 13), .int v29]) 1 rfl ?_
    refine k_gf r0 13 (K := 6) hr0 rfl rfl rfl rfl ?_
    refine k_runB (pc' := 182) (loc' := [(0, .ref (r0 * 1024 + 13)), (2, .ref (36 * 1024 + 9)), (3, .int x3), (4, .int (x4 + (-1))), (5, .int x5), (6, .int x6), (7, .int x7)]) (st' := [.int ((x4 + (-1)) + 1), .ref (r0 * 1024 + 17), .int v29]) 3 rfl ?_
    obtain ⟨v30, hv30, hD⟩ := Option.bind_eq_some_iff.mp hD
    refine k_ldI rfl (c_get (r := r0) (o := 17) (K := 6) hr0 (by decide)) hv30 ?_
    refine k_ic rfl (fun c183_30 => ?_) (fun c183_30 => ?_)
    · rw [c183_30, cond_true] at hD
      refine k_runB (pc' := 192) (loc' := [(0, .ref (r0 * 1024 + 13)), (2, .ref (36 * 1024 + 9)), (3, .int x3), (4, .int (x4 + (-1))), (5, .int x5), (6, .int x6), (7, .int x7)]) (st' := [.int x7]) 1 rfl ?_
      refine k_wk [0, 2, 4, 5] (loc' := [(0, .ref (r0 * 1024 + 13)), (2, .ref (36 * 1024 + 9)), (4, .int (x4 + (-1))), (5, .int x5)]) rfl rfl ?_
      exact t_e_Laws_tellsTo_192 hK13 hr0 hD
    · rw [c183_30, cond_false] at hD
      refine k_runB (pc' := 192) (loc' := [(0, .ref (r0 * 1024 + 13)), (2, .ref (36 * 1024 + 9)), (3, .int x3), (4, .int (x4 + (-1))), (5, .int x5), (6, .int x6), (7, .int x7)]) (st' := [.int x3]) 2 rfl ?_
      refine k_wk [0, 2, 4, 5] (loc' := [(0, .ref (r0 * 1024 + 13)), (2, .ref (36 * 1024 + 9)), (4, .int (x4 + (-1))), (5, .int x5)]) rfl rfl ?_
      exact t_e_Laws_tellsTo_192 hK13 hr0 hD
def e_Laws_tellsTo_153 (n : Nat) (P : Nat → Nat → Nat) (F : Nat → Nat → Int32) (A : Nat → Nat → Nat → Int32) (J : Nat → Nat → Nat → Int64) (r0 : Nat) : Option (Int32 × (Nat → Nat → Nat) × (Nat → Nat → Int32) × (Nat → Nat → Nat → Int32) × (Nat → Nat → Nat → Int64)) :=
    (m_ld (A 36 9) 6 0).bind fun v23 =>
    some (v23, P, F, A, J)
set_option maxRecDepth 10000 in
theorem t_e_Laws_tellsTo_153 {n : Nat}  {P : Nat → Nat → Nat} {F : Nat → Nat → Int32} {A : Nat → Nat → Nat → Int32} {J : Nat → Nat → Nat → Int64} {r0 : Nat} (hr0 : c_kind r0 = 6) {w : Int32 × (Nat → Nat → Nat) × (Nat → Nat → Int32) × (Nat → Nat → Nat → Int32) × (Nat → Nat → Nat → Int64)} : e_Laws_tellsTo_153 n P F A J r0 = some w → k_run t lg (d + 1) 33 153 [(0, .ref (r0 * 1024 + 13)), (2, .ref (36 * 1024 + 9))] [] (c_h c B P F A J) (some (.int w.1), c_h c B w.2.1 w.2.2.1 w.2.2.2.1 w.2.2.2.2) := by
  intro hD
  unfold e_Laws_tellsTo_153 at hD
  refine k_runB (pc' := 155) (loc' := [(0, .ref (r0 * 1024 + 13)), (2, .ref (36 * 1024 + 9))]) (st' := [.int 0, .ref (36 * 1024 + 9)]) 2 rfl ?_
  obtain ⟨v23, hv23, hD⟩ := Option.bind_eq_some_iff.mp hD
  refine k_ldI rfl (c_get (r := 36) (o := 9) (K := 10) rfl (by decide)) hv23 ?_
  cases hD
  exact k_iret rfl rfl
def e_Laws_tellsTo_126 (K13 : (Nat → Nat → Nat) → (Nat → Nat → Int32) → (Nat → Nat → Nat → Int32) → (Nat → Nat → Nat → Int64) → Nat → Int32 → Int32 → Int32 → Option (Int32 × (Nat → Nat → Nat) × (Nat → Nat → Int32) × (Nat → Nat → Nat → Int32) × (Nat → Nat → Nat → Int64))) (n : Nat) (P : Nat → Nat → Nat) (F : Nat → Nat → Int32) (A : Nat → Nat → Nat → Int32) (J : Nat → Nat → Nat → Int64) (r0 : Nat) (x3 : Int32) (x4 : Int32) (x5 : Int32) (rs0 : Nat) (s1 : Int32) (s2 : Int32) : Option (Int32 × (Nat → Nat → Nat) × (Nat → Nat → Int32) × (Nat → Nat → Nat → Int32) × (Nat → Nat → Nat → Int64)) :=
    (c_st A rs0 17 32 s1 s2).bind fun A32 =>
    e_Laws_tellsTo_227 K13 n P F A32 J r0 x3 x4 x5
set_option maxRecDepth 10000 in
theorem t_e_Laws_tellsTo_126 {n : Nat} {K13 : (Nat → Nat → Nat) → (Nat → Nat → Int32) → (Nat → Nat → Nat → Int32) → (Nat → Nat → Nat → Int64) → Nat → Int32 → Int32 → Int32 → Option (Int32 × (Nat → Nat → Nat) × (Nat → Nat → Int32) × (Nat → Nat → Nat → Int32) × (Nat → Nat → Nat → Int64))} (hK13 : ∀ (P : Nat → Nat → Nat) (F : Nat → Nat → Int32) (A : Nat → Nat → Nat → Int32) (J : Nat → Nat → Nat → Int64) (r0 : Nat) (x3 : Int32) (x4 : Int32) (x5 : Int32) (w : Int32 × (Nat → Nat → Nat) × (Nat → Nat → Int32) × (Nat → Nat → Nat → Int32) × (Nat → Nat → Nat → Int64)), c_kind r0 = 6 → K13 P F A J r0 x3 x4 x5 = some w → k_run t lg (d + 1) 33 13 [(0, .ref (r0 * 1024 + 13)), (2, .ref (36 * 1024 + 9)), (3, .int x3), (4, .int x4), (5, .int x5)] [] (c_h c B P F A J) (some (.int w.1), c_h c B w.2.1 w.2.2.1 w.2.2.2.1 w.2.2.2.2)) {P : Nat → Nat → Nat} {F : Nat → Nat → Int32} {A : Nat → Nat → Nat → Int32} {J : Nat → Nat → Nat → Int64} {r0 : Nat} {x3 : Int32} {x4 : Int32} {x5 : Int32} {rs0 : Nat} {s1 : Int32} {s2 : Int32} (hr0 : c_kind r0 = 6) (hrs0 : c_kind rs0 = 6) {w : Int32 × (Nat → Nat → Nat) × (Nat → Nat → Int32) × (Nat → Nat → Nat → Int32) × (Nat → Nat → Nat → Int64)} : e_Laws_tellsTo_126 K13 n P F A J r0 x3 x4 x5 rs0 s1 s2 = some w → k_run t lg (d + 1) 33 126 [(0, .ref (r0 * 1024 + 13)), (2, .ref (36 * 1024 + 9)), (3, .int x3), (4, .int x4), (5, .int x5)] [.int s2, .int s1, .ref (rs0 * 1024 + 17)] (c_h c B P F A J) (some (.int w.1), c_h c B w.2.1 w.2.2.1 w.2.2.2.1 w.2.2.2.2) := by
  intro hD
  unfold e_Laws_tellsTo_126 at hD
  obtain ⟨A32, hA32, hD⟩ := Option.bind_eq_some_iff.mp hD
  refine k_cstI rs0 17 (K := 6) hrs0 rfl rfl rfl (fun _ => rfl) hA32 ?_
  refine k_runB (pc' := 227) (loc' := [(0, .ref (r0 * 1024 + 13)), (2, .ref (36 * 1024 + 9)), (3, .int x3), (4, .int x4), (5, .int x5)]) (st' := []) 1 rfl ?_
  refine k_wk [0, 2, 3, 4, 5] (loc' := [(0, .ref (r0 * 1024 + 13)), (2, .ref (36 * 1024 + 9)), (3, .int x3), (4, .int x4), (5, .int x5)]) rfl rfl ?_
  exact t_e_Laws_tellsTo_227 hK13 hr0 hD
def e_Laws_tellsTo_88 (K13 : (Nat → Nat → Nat) → (Nat → Nat → Int32) → (Nat → Nat → Nat → Int32) → (Nat → Nat → Nat → Int64) → Nat → Int32 → Int32 → Int32 → Option (Int32 × (Nat → Nat → Nat) × (Nat → Nat → Int32) × (Nat → Nat → Nat → Int32) × (Nat → Nat → Nat → Int64))) (n : Nat) (P : Nat → Nat → Nat) (F : Nat → Nat → Int32) (A : Nat → Nat → Nat → Int32) (J : Nat → Nat → Nat → Int64) (r0 : Nat) (x3 : Int32) (x4 : Int32) (x5 : Int32) (x6 : Int32) (x7 : Int32) : Option (Int32 × (Nat → Nat → Nat) × (Nat → Nat → Int32) × (Nat → Nat → Nat → Int32) × (Nat → Nat → Nat → Int64)) :=
    cond (g_cnd .lt (x4 + 1) (Int32.ofNat 32))
    (cond (g_cnd .ne x6 1)
    ((m_ld (A 36 9) 6 x7).bind fun v20 =>
    (c_st A r0 17 32 (x4 + 1) v20).bind fun A21 =>
    e_Laws_tellsTo_227 K13 n P F A21 J r0 x3 (x4 + 1) x5)
    (e_Laws_tellsTo_126 K13 n P F A J r0 x3 (x4 + 1) x5 r0 (x4 + 1) x7))
    ((m_ld (A 36 9) 6 0).bind fun v22 =>
    some (v22, P, F, A, J))
set_option maxRecDepth 10000 in
theorem t_e_Laws_tellsTo_88 {n : Nat} {K13 : (Nat → Nat → Nat) → (Nat → Nat → Int32) → (Nat → Nat → Nat → Int32) → (Nat → Nat → Nat → Int64) → Nat → Int32 → Int32 → Int32 → Option (Int32 × (Nat → Nat → Nat) × (Nat → Nat → Int32) × (Nat → Nat → Nat → Int32) × (Nat → Nat → Nat → Int64))} (hK13 : ∀ (P : Nat → Nat → Nat) (F : Nat → Nat → Int32) (A : Nat → Nat → Nat → Int32) (J : Nat → Nat → Nat → Int64) (r0 : Nat) (x3 : Int32) (x4 : Int32) (x5 : Int32) (w : Int32 × (Nat → Nat → Nat) × (Nat → Nat → Int32) × (Nat → Nat → Nat → Int32) × (Nat → Nat → Nat → Int64)), c_kind r0 = 6 → K13 P F A J r0 x3 x4 x5 = some w → k_run t lg (d + 1) 33 13 [(0, .ref (r0 * 1024 + 13)), (2, .ref (36 * 1024 + 9)), (3, .int x3), (4, .int x4), (5, .int x5)] [] (c_h c B P F A J) (some (.int w.1), c_h c B w.2.1 w.2.2.1 w.2.2.2.1 w.2.2.2.2)) {P : Nat → Nat → Nat} {F : Nat → Nat → Int32} {A : Nat → Nat → Nat → Int32} {J : Nat → Nat → Nat → Int64} {r0 : Nat} {x3 : Int32} {x4 : Int32} {x5 : Int32} {x6 : Int32} {x7 : Int32} (hr0 : c_kind r0 = 6) {w : Int32 × (Nat → Nat → Nat) × (Nat → Nat → Int32) × (Nat → Nat → Nat → Int32) × (Nat → Nat → Nat → Int64)} : e_Laws_tellsTo_88 K13 n P F A J r0 x3 x4 x5 x6 x7 = some w → k_run t lg (d + 1) 33 88 [(0, .ref (r0 * 1024 + 13)), (2, .ref (36 * 1024 + 9)), (3, .int x3), (4, .int x4), (5, .int x5), (6, .int x6), (7, .int x7)] [] (c_h c B P F A J) (some (.int w.1), c_h c B w.2.1 w.2.2.1 w.2.2.2.1 w.2.2.2.2) := by
  intro hD
  unfold e_Laws_tellsTo_88 at hD
  refine k_runB (pc' := 94) (loc' := [(0, .ref (r0 * 1024 + 13)), (2, .ref (36 * 1024 + 9)), (3, .int x3), (4, .int (x4 + 1)), (5, .int x5), (6, .int x6), (7, .int x7)]) (st' := [.ref (r0 * 1024 + 13), .int (x4 + 1)]) 3 rfl ?_
  refine k_gf r0 13 (K := 6) hr0 rfl rfl rfl rfl ?_
  refine k_cln r0 17 (K := 6) hr0 rfl rfl rfl ?_
  refine k_ic rfl (fun c98_17 => ?_) (fun c98_17 => ?_)
  · rw [c98_17, cond_true] at hD
    refine k_runB (pc' := 106) (loc' := [(0, .ref (r0 * 1024 + 13)), (2, .ref (36 * 1024 + 9)), (3, .int x3), (4, .int (x4 + 1)), (5, .int x5), (6, .int x6), (7, .int x7)]) (st' := [.ref (r0 * 1024 + 13)]) 1 rfl ?_
    refine k_gf r0 13 (K := 6) hr0 rfl rfl rfl rfl ?_
    refine k_runB (pc' := 114) (loc' := [(0, .ref (r0 * 1024 + 13)), (2, .ref (36 * 1024 + 9)), (3, .int x3), (4, .int (x4 + 1)), (5, .int x5), (6, .int x6), (7, .int x7)]) (st' := [.int 1, .int x6, .int (x4 + 1), .ref (r0 * 1024 + 17)]) 3 rfl ?_
    refine k_ic rfl (fun c114_18 => ?_) (fun c114_18 => ?_)
    · rw [c114_18, cond_true] at hD
      refine k_runB (pc' := 125) (loc' := [(0, .ref (r0 * 1024 + 13)), (2, .ref (36 * 1024 + 9)), (3, .int x3), (4, .int (x4 + 1)), (5, .int x5), (6, .int x6), (7, .int x7)]) (st' := [.int x7, .ref (36 * 1024 + 9), .int (x4 + 1), .ref (r0 * 1024 + 17)]) 2 rfl ?_
      obtain ⟨v20, hv20, hD⟩ := Option.bind_eq_some_iff.mp hD
      refine k_ldI rfl (c_get (r := 36) (o := 9) (K := 10) rfl (by decide)) hv20 ?_
      obtain ⟨A21, hA21, hD⟩ := Option.bind_eq_some_iff.mp hD
      refine k_cstI r0 17 (K := 6) hr0 rfl rfl rfl (fun _ => rfl) hA21 ?_
      refine k_runB (pc' := 227) (loc' := [(0, .ref (r0 * 1024 + 13)), (2, .ref (36 * 1024 + 9)), (3, .int x3), (4, .int (x4 + 1)), (5, .int x5), (6, .int x6), (7, .int x7)]) (st' := []) 1 rfl ?_
      refine k_wk [0, 2, 3, 4, 5] (loc' := [(0, .ref (r0 * 1024 + 13)), (2, .ref (36 * 1024 + 9)), (3, .int x3), (4, .int (x4 + 1)), (5, .int x5)]) rfl rfl ?_
      exact t_e_Laws_tellsTo_227 hK13 hr0 hD
    · rw [c114_18, cond_false] at hD
      refine k_runB (pc' := 126) (loc' := [(0, .ref (r0 * 1024 + 13)), (2, .ref (36 * 1024 + 9)), (3, .int x3), (4, .int (x4 + 1)), (5, .int x5), (6, .int x6), (7, .int x7)]) (st' := [.int x7, .int (x4 + 1), .ref (r0 * 1024 + 17)]) 2 rfl ?_
      refine k_wk [0, 2, 3, 4, 5] (loc' := [(0, .ref (r0 * 1024 + 13)), (2, .ref (36 * 1024 + 9)), (3, .int x3), (4, .int (x4 + 1)), (5, .int x5)]) rfl rfl ?_
      exact t_e_Laws_tellsTo_126 hK13 hr0 hr0 hD
  · rw [c98_17, cond_false] at hD
    refine k_runB (pc' := 103) (loc' := [(0, .ref (r0 * 1024 + 13)), (2, .ref (36 * 1024 + 9)), (3, .int x3), (4, .int (x4 + 1)), (5, .int x5), (6, .int x6), (7, .int x7)]) (st' := [.int 0, .ref (36 * 1024 + 9)]) 2 rfl ?_
    obtain ⟨v22, hv22, hD⟩ := Option.bind_eq_some_iff.mp hD
    refine k_ldI rfl (c_get (r := 36) (o := 9) (K := 10) rfl (by decide)) hv22 ?_
    cases hD
    exact k_iret rfl rfl
def e_Laws_tellsTo_13 : Nat → (Nat → Nat → Nat) → (Nat → Nat → Int32) → (Nat → Nat → Nat → Int32) → (Nat → Nat → Nat → Int64) → Nat → Int32 → Int32 → Int32 → Option (Int32 × (Nat → Nat → Nat) × (Nat → Nat → Int32) × (Nat → Nat → Nat → Int32) × (Nat → Nat → Nat → Int64))
  | 0, _, _, _, _, _, _, _, _ => none
  | n + 1, P, F, A, J, r0, x3, x4, x5 => cond (g_cnd .ge x5 (F r0 1304))
    (e_Laws_tellsTo_233 n P F A J r0)
    (cond (g_cnd .lt x3 0)
    (e_Laws_tellsTo_233 n P F A J r0)
    (cond (g_cnd .ge x3 (F r0 1304))
    (e_Laws_tellsTo_233 n P F A J r0)
    ((m_ld (A r0 15) 400 x3).bind fun v5 =>
    (m_ld (A r0 16) 400 x3).bind fun v6 =>
    cond (g_cnd .ne v5 0)
    (cond (g_cnd .eq v5 1)
    (e_Laws_tellsTo_88 (e_Laws_tellsTo_13 n) n P F A J r0 (x3 + 1) x4 x5 v5 v6)
    (cond (g_cnd .ne v5 2)
    (cond (g_cnd .lt x4 1)
    (e_Laws_tellsTo_153 n P F A J r0)
    (cond (g_cnd .ne v5 47)
    (e_Laws_tellsTo_157 (e_Laws_tellsTo_13 n) n P F A J r0 (x3 + 1) x4 x5 v5 v6)
    ((m_ld (A r0 17) 32 x4).bind fun v12 =>
    cond (g_cnd .ne v12 0)
    (e_Laws_tellsTo_157 (e_Laws_tellsTo_13 n) n P F A J r0 (x3 + 1) x4 x5 v5 v6)
    (e_Laws_tellsTo_153 n P F A J r0))))
    (e_Laws_tellsTo_88 (e_Laws_tellsTo_13 n) n P F A J r0 (x3 + 1) x4 x5 v5 v6)))
    (cond (g_cnd .ne x4 0)
    ((m_ld (A 36 9) 6 0).bind fun v15 =>
    some (v15, P, F, A, J))
    ((m_ld (A r0 17) 32 0).bind fun v16 =>
    some (v16, P, F, A, J))))))
set_option maxRecDepth 10000 in
theorem t_e_Laws_tellsTo_13 {n : Nat}  {P : Nat → Nat → Nat} {F : Nat → Nat → Int32} {A : Nat → Nat → Nat → Int32} {J : Nat → Nat → Nat → Int64} {r0 : Nat} {x3 : Int32} {x4 : Int32} {x5 : Int32} (hr0 : c_kind r0 = 6) {w : Int32 × (Nat → Nat → Nat) × (Nat → Nat → Int32) × (Nat → Nat → Nat → Int32) × (Nat → Nat → Nat → Int64)} : e_Laws_tellsTo_13 n P F A J r0 x3 x4 x5 = some w → k_run t lg (d + 1) 33 13 [(0, .ref (r0 * 1024 + 13)), (2, .ref (36 * 1024 + 9)), (3, .int x3), (4, .int x4), (5, .int x5)] [] (c_h c B P F A J) (some (.int w.1), c_h c B w.2.1 w.2.2.1 w.2.2.2.1 w.2.2.2.2) := by
  induction n generalizing P F A J r0 x3 x4 x5 w with
  | zero => intro hD; cases hD
  | succ n ih =>
    intro hD
    have hK13 : ∀ (P : Nat → Nat → Nat) (F : Nat → Nat → Int32) (A : Nat → Nat → Nat → Int32) (J : Nat → Nat → Nat → Int64) (r0 : Nat) (x3 : Int32) (x4 : Int32) (x5 : Int32) (w : Int32 × (Nat → Nat → Nat) × (Nat → Nat → Int32) × (Nat → Nat → Nat → Int32) × (Nat → Nat → Nat → Int64)), c_kind r0 = 6 → e_Laws_tellsTo_13 n P F A J r0 x3 x4 x5 = some w → k_run t lg (d + 1) 33 13 [(0, .ref (r0 * 1024 + 13)), (2, .ref (36 * 1024 + 9)), (3, .int x3), (4, .int x4), (5, .int x5)] [] (c_h c B P F A J) (some (.int w.1), c_h c B w.2.1 w.2.2.1 w.2.2.2.1 w.2.2.2.2) := fun _ _ _ _ _ _ _ _ _ kr0 h => ih kr0 h
    unfold e_Laws_tellsTo_13 at hD
    refine k_runB (pc' := 16) (loc' := [(0, .ref (r0 * 1024 + 13)), (2, .ref (36 * 1024 + 9)), (3, .int x3), (4, .int x4), (5, .int x5)]) (st' := [.ref (r0 * 1024 + 13), .int x5]) 2 rfl ?_
    refine k_gf r0 13 (K := 6) hr0 rfl rfl rfl rfl ?_
    refine k_ic rfl (fun c19_1 => ?_) (fun c19_1 => ?_)
    · rw [c19_1, cond_true] at hD
      refine k_wk [0, 2] (loc' := [(0, .ref (r0 * 1024 + 13)), (2, .ref (36 * 1024 + 9))]) rfl rfl ?_
      exact t_e_Laws_tellsTo_233  hr0 hD
    · rw [c19_1, cond_false] at hD
      refine k_runB (pc' := 23) (loc' := [(0, .ref (r0 * 1024 + 13)), (2, .ref (36 * 1024 + 9)), (3, .int x3), (4, .int x4), (5, .int x5)]) (st' := [.int x3]) 1 rfl ?_
      refine k_if rfl (fun c23_2 => ?_) (fun c23_2 => ?_)
      · rw [c23_2, cond_true] at hD
        refine k_wk [0, 2] (loc' := [(0, .ref (r0 * 1024 + 13)), (2, .ref (36 * 1024 + 9))]) rfl rfl ?_
        exact t_e_Laws_tellsTo_233  hr0 hD
      · rw [c23_2, cond_false] at hD
        refine k_runB (pc' := 28) (loc' := [(0, .ref (r0 * 1024 + 13)), (2, .ref (36 * 1024 + 9)), (3, .int x3), (4, .int x4), (5, .int x5)]) (st' := [.ref (r0 * 1024 + 13), .int x3]) 2 rfl ?_
        refine k_gf r0 13 (K := 6) hr0 rfl rfl rfl rfl ?_
        refine k_ic rfl (fun c31_3 => ?_) (fun c31_3 => ?_)
        · rw [c31_3, cond_true] at hD
          refine k_wk [0, 2] (loc' := [(0, .ref (r0 * 1024 + 13)), (2, .ref (36 * 1024 + 9))]) rfl rfl ?_
          exact t_e_Laws_tellsTo_233  hr0 hD
        · rw [c31_3, cond_false] at hD
          refine k_runB (pc' := 35) (loc' := [(0, .ref (r0 * 1024 + 13)), (2, .ref (36 * 1024 + 9)), (3, .int x3), (4, .int x4), (5, .int x5)]) (st' := [.ref (r0 * 1024 + 13)]) 1 rfl ?_
          refine k_gf r0 13 (K := 6) hr0 rfl rfl rfl rfl ?_
          refine k_runB (pc' := 39) (loc' := [(0, .ref (r0 * 1024 + 13)), (2, .ref (36 * 1024 + 9)), (3, .int x3), (4, .int x4), (5, .int x5)]) (st' := [.int x3, .ref (r0 * 1024 + 15)]) 1 rfl ?_
          obtain ⟨v5, hv5, hD⟩ := Option.bind_eq_some_iff.mp hD
          refine k_ldI rfl (c_get (r := r0) (o := 15) (K := 6) hr0 (by decide)) hv5 ?_
          refine k_runB (pc' := 43) (loc' := [(0, .ref (r0 * 1024 + 13)), (2, .ref (36 * 1024 + 9)), (3, .int x3), (4, .int x4), (5, .int x5), (6, .int v5)]) (st' := [.ref (r0 * 1024 + 13)]) 2 rfl ?_
          refine k_gf r0 13 (K := 6) hr0 rfl rfl rfl rfl ?_
          refine k_runB (pc' := 47) (loc' := [(0, .ref (r0 * 1024 + 13)), (2, .ref (36 * 1024 + 9)), (3, .int x3), (4, .int x4), (5, .int x5), (6, .int v5)]) (st' := [.int x3, .ref (r0 * 1024 + 16)]) 1 rfl ?_
          obtain ⟨v6, hv6, hD⟩ := Option.bind_eq_some_iff.mp hD
          refine k_ldI rfl (c_get (r := r0) (o := 16) (K := 6) hr0 (by decide)) hv6 ?_
          refine k_runB (pc' := 55) (loc' := [(0, .ref (r0 * 1024 + 13)), (2, .ref (36 * 1024 + 9)), (3, .int (x3 + 1)), (4, .int x4), (5, .int x5), (6, .int v5), (7, .int v6)]) (st' := [.int v5]) 3 rfl ?_
          refine k_if rfl (fun c55_6 => ?_) (fun c55_6 => ?_)
          · rw [c55_6, cond_true] at hD
            refine k_runB (pc' := 79) (loc' := [(0, .ref (r0 * 1024 + 13)), (2, .ref (36 * 1024 + 9)), (3, .int (x3 + 1)), (4, .int x4), (5, .int x5), (6, .int v5), (7, .int v6)]) (st' := [.int 1, .int v5]) 2 rfl ?_
            refine k_ic rfl (fun c79_7 => ?_) (fun c79_7 => ?_)
            · rw [c79_7, cond_true] at hD
              refine k_wk [0, 2, 3, 4, 5, 6, 7] (loc' := [(0, .ref (r0 * 1024 + 13)), (2, .ref (36 * 1024 + 9)), (3, .int (x3 + 1)), (4, .int x4), (5, .int x5), (6, .int v5), (7, .int v6)]) rfl rfl ?_
              exact t_e_Laws_tellsTo_88 hK13 hr0 hD
            · rw [c79_7, cond_false] at hD
              refine k_runB (pc' := 85) (loc' := [(0, .ref (r0 * 1024 + 13)), (2, .ref (36 * 1024 + 9)), (3, .int (x3 + 1)), (4, .int x4), (5, .int x5), (6, .int v5), (7, .int v6)]) (st' := [.int 2, .int v5]) 2 rfl ?_
              refine k_ic rfl (fun c85_8 => ?_) (fun c85_8 => ?_)
              · rw [c85_8, cond_true] at hD
                refine k_runB (pc' := 133) (loc' := [(0, .ref (r0 * 1024 + 13)), (2, .ref (36 * 1024 + 9)), (3, .int (x3 + 1)), (4, .int x4), (5, .int x5), (6, .int v5), (7, .int v6)]) (st' := [.int 1, .int x4]) 2 rfl ?_
                refine k_ic rfl (fun c133_9 => ?_) (fun c133_9 => ?_)
                · rw [c133_9, cond_true] at hD
                  refine k_wk [0, 2] (loc' := [(0, .ref (r0 * 1024 + 13)), (2, .ref (36 * 1024 + 9))]) rfl rfl ?_
                  exact t_e_Laws_tellsTo_153  hr0 hD
                · rw [c133_9, cond_false] at hD
                  refine k_runB (pc' := 140) (loc' := [(0, .ref (r0 * 1024 + 13)), (2, .ref (36 * 1024 + 9)), (3, .int (x3 + 1)), (4, .int x4), (5, .int x5), (6, .int v5), (7, .int v6)]) (st' := [.int 47, .int v5]) 2 rfl ?_
                  refine k_ic rfl (fun c140_10 => ?_) (fun c140_10 => ?_)
                  · rw [c140_10, cond_true] at hD
                    refine k_wk [0, 2, 3, 4, 5, 6, 7] (loc' := [(0, .ref (r0 * 1024 + 13)), (2, .ref (36 * 1024 + 9)), (3, .int (x3 + 1)), (4, .int x4), (5, .int x5), (6, .int v5), (7, .int v6)]) rfl rfl ?_
                    exact t_e_Laws_tellsTo_157 hK13 hr0 hD
                  · rw [c140_10, cond_false] at hD
                    refine k_runB (pc' := 144) (loc' := [(0, .ref (r0 * 1024 + 13)), (2, .ref (36 * 1024 + 9)), (3, .int (x3 + 1)), (4, .int x4), (5, .int x5), (6, .int v5), (7, .int v6)]) (st' := [.ref (r0 * 1024 + 13)]) 1 rfl ?_
                    refine k_gf r0 13 (K := 6) hr0 rfl rfl rfl rfl ?_
                    refine k_runB (pc' := 149) (loc' := [(0, .ref (r0 * 1024 + 13)), (2, .ref (36 * 1024 + 9)), (3, .int (x3 + 1)), (4, .int x4), (5, .int x5), (6, .int v5), (7, .int v6)]) (st' := [.int x4, .ref (r0 * 1024 + 17)]) 1 rfl ?_
                    obtain ⟨v12, hv12, hD⟩ := Option.bind_eq_some_iff.mp hD
                    refine k_ldI rfl (c_get (r := r0) (o := 17) (K := 6) hr0 (by decide)) hv12 ?_
                    refine k_if rfl (fun c150_12 => ?_) (fun c150_12 => ?_)
                    · rw [c150_12, cond_true] at hD
                      refine k_wk [0, 2, 3, 4, 5, 6, 7] (loc' := [(0, .ref (r0 * 1024 + 13)), (2, .ref (36 * 1024 + 9)), (3, .int (x3 + 1)), (4, .int x4), (5, .int x5), (6, .int v5), (7, .int v6)]) rfl rfl ?_
                      exact t_e_Laws_tellsTo_157 hK13 hr0 hD
                    · rw [c150_12, cond_false] at hD
                      refine k_wk [0, 2] (loc' := [(0, .ref (r0 * 1024 + 13)), (2, .ref (36 * 1024 + 9))]) rfl rfl ?_
                      exact t_e_Laws_tellsTo_153  hr0 hD
              · rw [c85_8, cond_false] at hD
                refine k_wk [0, 2, 3, 4, 5, 6, 7] (loc' := [(0, .ref (r0 * 1024 + 13)), (2, .ref (36 * 1024 + 9)), (3, .int (x3 + 1)), (4, .int x4), (5, .int x5), (6, .int v5), (7, .int v6)]) rfl rfl ?_
                exact t_e_Laws_tellsTo_88 hK13 hr0 hD
          · rw [c55_6, cond_false] at hD
            refine k_runB (pc' := 60) (loc' := [(0, .ref (r0 * 1024 + 13)), (2, .ref (36 * 1024 + 9)), (3, .int (x3 + 1)), (4, .int x4), (5, .int x5), (6, .int v5), (7, .int v6)]) (st' := [.int x4]) 1 rfl ?_
            refine k_if rfl (fun c60_13 => ?_) (fun c60_13 => ?_)
            · rw [c60_13, cond_true] at hD
              refine k_runB (pc' := 74) (loc' := [(0, .ref (r0 * 1024 + 13)), (2, .ref (36 * 1024 + 9)), (3, .int (x3 + 1)), (4, .int x4), (5, .int x5), (6, .int v5), (7, .int v6)]) (st' := [.int 0, .ref (36 * 1024 + 9)]) 2 rfl ?_
              obtain ⟨v15, hv15, hD⟩ := Option.bind_eq_some_iff.mp hD
              refine k_ldI rfl (c_get (r := 36) (o := 9) (K := 10) rfl (by decide)) hv15 ?_
              cases hD
              exact k_iret rfl rfl
            · rw [c60_13, cond_false] at hD
              refine k_runB (pc' := 64) (loc' := [(0, .ref (r0 * 1024 + 13)), (2, .ref (36 * 1024 + 9)), (3, .int (x3 + 1)), (4, .int x4), (5, .int x5), (6, .int v5), (7, .int v6)]) (st' := [.ref (r0 * 1024 + 13)]) 1 rfl ?_
              refine k_gf r0 13 (K := 6) hr0 rfl rfl rfl rfl ?_
              refine k_runB (pc' := 68) (loc' := [(0, .ref (r0 * 1024 + 13)), (2, .ref (36 * 1024 + 9)), (3, .int (x3 + 1)), (4, .int x4), (5, .int x5), (6, .int v5), (7, .int v6)]) (st' := [.int 0, .ref (r0 * 1024 + 17)]) 1 rfl ?_
              obtain ⟨v16, hv16, hD⟩ := Option.bind_eq_some_iff.mp hD
              refine k_ldI rfl (c_get (r := r0) (o := 17) (K := 6) hr0 (by decide)) hv16 ?_
              refine k_runB (pc' := 75) (loc' := [(0, .ref (r0 * 1024 + 13)), (2, .ref (36 * 1024 + 9)), (3, .int (x3 + 1)), (4, .int x4), (5, .int x5), (6, .int v5), (7, .int v6)]) (st' := [.int v16]) 1 rfl ?_
              cases hD
              exact k_iret rfl rfl
/-- SleepWork$Laws.tellsTo(I[I)I  -/
def e_Laws_tellsTo (n : Nat) (P : Nat → Nat → Nat) (F : Nat → Nat → Int32) (A : Nat → Nat → Nat → Int32) (J : Nat → Nat → Nat → Int64) (r0 : Nat) (x1 : Int32) : Option (Int32 × (Nat → Nat → Nat) × (Nat → Nat → Int32) × (Nat → Nat → Nat → Int32) × (Nat → Nat → Nat → Int64)) :=
  (m_ld (A r0 14) 6 x1).bind fun v1 =>
  e_Laws_tellsTo_13 n P F A J r0 v1 ((-1)) 0
set_option maxRecDepth 10000 in
theorem t_e_Laws_tellsTo {n : Nat} {P : Nat → Nat → Nat} {F : Nat → Nat → Int32} {A : Nat → Nat → Nat → Int32} {J : Nat → Nat → Nat → Int64} {r0 : Nat} {x1 : Int32} (hr0 : c_kind r0 = 6) {w : Int32 × (Nat → Nat → Nat) × (Nat → Nat → Int32) × (Nat → Nat → Nat → Int32) × (Nat → Nat → Nat → Int64)} : e_Laws_tellsTo n P F A J r0 x1 = some w → k_run t lg (d + 1) 33 0 [(0, .ref (r0 * 1024 + 13)), (1, .int x1), (2, .ref (36 * 1024 + 9))] [] (c_h c B P F A J) (some (.int w.1), c_h c B w.2.1 w.2.2.1 w.2.2.2.1 w.2.2.2.2) := by
  intro hD
  unfold e_Laws_tellsTo at hD
  refine k_runB (pc' := 1) (loc' := [(0, .ref (r0 * 1024 + 13)), (1, .int x1), (2, .ref (36 * 1024 + 9))]) (st' := [.ref (r0 * 1024 + 13)]) 1 rfl ?_
  refine k_gf r0 13 (K := 6) hr0 rfl rfl rfl rfl ?_
  refine k_runB (pc' := 5) (loc' := [(0, .ref (r0 * 1024 + 13)), (1, .int x1), (2, .ref (36 * 1024 + 9))]) (st' := [.int x1, .ref (r0 * 1024 + 14)]) 1 rfl ?_
  obtain ⟨v1, hv1, hD⟩ := Option.bind_eq_some_iff.mp hD
  refine k_ldI rfl (c_get (r := r0) (o := 14) (K := 6) hr0 (by decide)) hv1 ?_
  refine k_runB (pc' := 13) (loc' := [(0, .ref (r0 * 1024 + 13)), (1, .int x1), (2, .ref (36 * 1024 + 9)), (3, .int v1), (4, .int ((-1))), (5, .int 0)]) (st' := []) 5 rfl ?_
  refine k_wk [0, 2, 3, 4, 5] (loc' := [(0, .ref (r0 * 1024 + 13)), (2, .ref (36 * 1024 + 9)), (3, .int v1), (4, .int ((-1))), (5, .int 0)]) rfl rfl ?_
  exact t_e_Laws_tellsTo_13  hr0 hD
/-- SleepWork$Sleep.chosenStep(III)I  -/
def e_Sleep_chosenStep (n : Nat) (P : Nat → Nat → Nat) (F : Nat → Nat → Int32) (A : Nat → Nat → Nat → Int32) (J : Nat → Nat → Nat → Int64) (x1 : Int32) (x2 : Int32) (x3 : Int32) : Option (Int32 × (Nat → Nat → Nat) × (Nat → Nat → Int32) × (Nat → Nat → Nat → Int32) × (Nat → Nat → Nat → Int64)) :=
  (m_ld (A 36 5) 6 x1).bind fun v1 =>
  (c_st A 36 9 6 0 v1).bind fun A2 =>
  (c_chk 2 (P 36 9)).bind fun q3 =>
  (m_ld (A2 36 5) 6 x1).bind fun v4 =>
  (m_ld (A2 q3 1) 36 ((x2 * 6) + v4)).bind fun v5 =>
  (c_st A2 36 9 6 1 v5).bind fun A6 =>
  (c_chk 6 (P 36 8)).bind fun q7 =>
  (m_ld (A6 q7 5) 6 x2).bind fun v8 =>
  (c_st A6 36 9 6 2 v8).bind fun A9 =>
  (c_st A9 36 9 6 3 x3).bind fun A10 =>
  (c_chk 2 (P 36 9)).bind fun q11 =>
  (m_ld (A10 q11 2) 6 x2).bind fun v12 =>
  (c_st A10 36 9 6 4 v12).bind fun A13 =>
  (m_ld (A13 36 6) 6 x1).bind fun v14 =>
  (c_st A13 36 9 6 5 v14).bind fun A15 =>
  (c_chk 6 (P 36 8)).bind fun q16 =>
  (e_Laws_tellsTo n P F A15 J q16 x1).bind fun (v17, P18, F19, A20, J21) =>
  (c_chk 6 (P18 36 8)).bind fun q22 =>
  (m_ld (A20 q22 5) 6 x2).bind fun v23 =>
  some (if 0 < (if v17 < (v23 - 1) then v17 else (v23 - 1)) then (if v17 < (v23 - 1) then v17 else (v23 - 1)) else 0, P18, F19, A20, J21)
set_option maxRecDepth 10000 in
theorem t_e_Sleep_chosenStep {n : Nat} {P : Nat → Nat → Nat} {F : Nat → Nat → Int32} {A : Nat → Nat → Nat → Int32} {J : Nat → Nat → Nat → Int64} {x1 : Int32} {x2 : Int32} {x3 : Int32}  {w : Int32 × (Nat → Nat → Nat) × (Nat → Nat → Int32) × (Nat → Nat → Nat → Int32) × (Nat → Nat → Nat → Int64)} : e_Sleep_chosenStep n P F A J x1 x2 x3 = some w → k_run t lg (d + 2) 81 0 [(0, .ref (36 * 1024)), (1, .int x1), (2, .int x2), (3, .int x3)] [] (c_h c B P F A J) (some (.int w.1), c_h c B w.2.1 w.2.2.1 w.2.2.2.1 w.2.2.2.2) := by
  intro hD
  unfold e_Sleep_chosenStep at hD
  refine k_runB (pc' := 1) (loc' := [(0, .ref (36 * 1024)), (1, .int x1), (2, .int x2), (3, .int x3)]) (st' := [.ref (36 * 1024)]) 1 rfl ?_
  refine k_gf 36 0 (K := 10) rfl rfl rfl rfl rfl ?_
  refine k_runB (pc' := 6) (loc' := [(0, .ref (36 * 1024)), (1, .int x1), (2, .int x2), (3, .int x3)]) (st' := [.ref (36 * 1024), .int 0, .ref (36 * 1024 + 9)]) 2 rfl ?_
  refine k_gf 36 0 (K := 10) rfl rfl rfl rfl rfl ?_
  refine k_runB (pc' := 10) (loc' := [(0, .ref (36 * 1024)), (1, .int x1), (2, .int x2), (3, .int x3)]) (st' := [.int x1, .ref (36 * 1024 + 5), .int 0, .ref (36 * 1024 + 9)]) 1 rfl ?_
  obtain ⟨v1, hv1, hD⟩ := Option.bind_eq_some_iff.mp hD
  refine k_ldI rfl (c_get (r := 36) (o := 5) (K := 10) rfl (by decide)) hv1 ?_
  obtain ⟨A2, hA2, hD⟩ := Option.bind_eq_some_iff.mp hD
  refine k_cstI 36 9 (K := 10) rfl rfl rfl rfl (fun _ => rfl) hA2 ?_
  refine k_runB (pc' := 13) (loc' := [(0, .ref (36 * 1024)), (1, .int x1), (2, .int x2), (3, .int x3)]) (st' := [.ref (36 * 1024)]) 1 rfl ?_
  refine k_gf 36 0 (K := 10) rfl rfl rfl rfl rfl ?_
  refine k_runB (pc' := 18) (loc' := [(0, .ref (36 * 1024)), (1, .int x1), (2, .int x2), (3, .int x3)]) (st' := [.ref (36 * 1024), .int 1, .ref (36 * 1024 + 9)]) 2 rfl ?_
  obtain ⟨q3, hq3, hD⟩ := Option.bind_eq_some_iff.mp hD
  refine k_gq 36 0 (K := 10) (K2 := 2) (key := 9) rfl rfl rfl rfl rfl hq3 (fun kq3 => ?_)
  refine k_gf q3 0 (K := 2) kq3 rfl rfl rfl rfl ?_
  refine k_runB (pc' := 29) (loc' := [(0, .ref (36 * 1024)), (1, .int x1), (2, .int x2), (3, .int x3)]) (st' := [.ref (36 * 1024), .int (x2 * 6), .ref (q3 * 1024 + 1), .int 1, .ref (36 * 1024 + 9)]) 4 rfl ?_
  refine k_gf 36 0 (K := 10) rfl rfl rfl rfl rfl ?_
  refine k_runB (pc' := 33) (loc' := [(0, .ref (36 * 1024)), (1, .int x1), (2, .int x2), (3, .int x3)]) (st' := [.int x1, .ref (36 * 1024 + 5), .int (x2 * 6), .ref (q3 * 1024 + 1), .int 1, .ref (36 * 1024 + 9)]) 1 rfl ?_
  obtain ⟨v4, hv4, hD⟩ := Option.bind_eq_some_iff.mp hD
  refine k_ldI rfl (c_get (r := 36) (o := 5) (K := 10) rfl (by decide)) hv4 ?_
  refine k_runB (pc' := 35) (loc' := [(0, .ref (36 * 1024)), (1, .int x1), (2, .int x2), (3, .int x3)]) (st' := [.int ((x2 * 6) + v4), .ref (q3 * 1024 + 1), .int 1, .ref (36 * 1024 + 9)]) 1 rfl ?_
  obtain ⟨v5, hv5, hD⟩ := Option.bind_eq_some_iff.mp hD
  refine k_ldI rfl (c_get (r := q3) (o := 1) (K := 2) kq3 (by decide)) hv5 ?_
  obtain ⟨A6, hA6, hD⟩ := Option.bind_eq_some_iff.mp hD
  refine k_cstI 36 9 (K := 10) rfl rfl rfl rfl (fun _ => rfl) hA6 ?_
  refine k_runB (pc' := 38) (loc' := [(0, .ref (36 * 1024)), (1, .int x1), (2, .int x2), (3, .int x3)]) (st' := [.ref (36 * 1024)]) 1 rfl ?_
  refine k_gf 36 0 (K := 10) rfl rfl rfl rfl rfl ?_
  refine k_runB (pc' := 43) (loc' := [(0, .ref (36 * 1024)), (1, .int x1), (2, .int x2), (3, .int x3)]) (st' := [.ref (36 * 1024), .int 2, .ref (36 * 1024 + 9)]) 2 rfl ?_
  obtain ⟨q7, hq7, hD⟩ := Option.bind_eq_some_iff.mp hD
  refine k_gq 36 0 (K := 10) (K2 := 6) (key := 8) rfl rfl rfl rfl rfl hq7 (fun kq7 => ?_)
  refine k_gf q7 0 (K := 6) kq7 rfl rfl rfl rfl ?_
  refine k_runB (pc' := 50) (loc' := [(0, .ref (36 * 1024)), (1, .int x1), (2, .int x2), (3, .int x3)]) (st' := [.int x2, .ref (q7 * 1024 + 5), .int 2, .ref (36 * 1024 + 9)]) 1 rfl ?_
  obtain ⟨v8, hv8, hD⟩ := Option.bind_eq_some_iff.mp hD
  refine k_ldI rfl (c_get (r := q7) (o := 5) (K := 6) kq7 (by decide)) hv8 ?_
  obtain ⟨A9, hA9, hD⟩ := Option.bind_eq_some_iff.mp hD
  refine k_cstI 36 9 (K := 10) rfl rfl rfl rfl (fun _ => rfl) hA9 ?_
  refine k_runB (pc' := 53) (loc' := [(0, .ref (36 * 1024)), (1, .int x1), (2, .int x2), (3, .int x3)]) (st' := [.ref (36 * 1024)]) 1 rfl ?_
  refine k_gf 36 0 (K := 10) rfl rfl rfl rfl rfl ?_
  refine k_runB (pc' := 58) (loc' := [(0, .ref (36 * 1024)), (1, .int x1), (2, .int x2), (3, .int x3)]) (st' := [.int x3, .int 3, .ref (36 * 1024 + 9)]) 2 rfl ?_
  obtain ⟨A10, hA10, hD⟩ := Option.bind_eq_some_iff.mp hD
  refine k_cstI 36 9 (K := 10) rfl rfl rfl rfl (fun _ => rfl) hA10 ?_
  refine k_runB (pc' := 60) (loc' := [(0, .ref (36 * 1024)), (1, .int x1), (2, .int x2), (3, .int x3)]) (st' := [.ref (36 * 1024)]) 1 rfl ?_
  refine k_gf 36 0 (K := 10) rfl rfl rfl rfl rfl ?_
  refine k_runB (pc' := 65) (loc' := [(0, .ref (36 * 1024)), (1, .int x1), (2, .int x2), (3, .int x3)]) (st' := [.ref (36 * 1024), .int 4, .ref (36 * 1024 + 9)]) 2 rfl ?_
  obtain ⟨q11, hq11, hD⟩ := Option.bind_eq_some_iff.mp hD
  refine k_gq 36 0 (K := 10) (K2 := 2) (key := 9) rfl rfl rfl rfl rfl hq11 (fun kq11 => ?_)
  refine k_gf q11 0 (K := 2) kq11 rfl rfl rfl rfl ?_
  refine k_runB (pc' := 72) (loc' := [(0, .ref (36 * 1024)), (1, .int x1), (2, .int x2), (3, .int x3)]) (st' := [.int x2, .ref (q11 * 1024 + 2), .int 4, .ref (36 * 1024 + 9)]) 1 rfl ?_
  obtain ⟨v12, hv12, hD⟩ := Option.bind_eq_some_iff.mp hD
  refine k_ldI rfl (c_get (r := q11) (o := 2) (K := 2) kq11 (by decide)) hv12 ?_
  obtain ⟨A13, hA13, hD⟩ := Option.bind_eq_some_iff.mp hD
  refine k_cstI 36 9 (K := 10) rfl rfl rfl rfl (fun _ => rfl) hA13 ?_
  refine k_runB (pc' := 75) (loc' := [(0, .ref (36 * 1024)), (1, .int x1), (2, .int x2), (3, .int x3)]) (st' := [.ref (36 * 1024)]) 1 rfl ?_
  refine k_gf 36 0 (K := 10) rfl rfl rfl rfl rfl ?_
  refine k_runB (pc' := 80) (loc' := [(0, .ref (36 * 1024)), (1, .int x1), (2, .int x2), (3, .int x3)]) (st' := [.ref (36 * 1024), .int 5, .ref (36 * 1024 + 9)]) 2 rfl ?_
  refine k_gf 36 0 (K := 10) rfl rfl rfl rfl rfl ?_
  refine k_runB (pc' := 84) (loc' := [(0, .ref (36 * 1024)), (1, .int x1), (2, .int x2), (3, .int x3)]) (st' := [.int x1, .ref (36 * 1024 + 6), .int 5, .ref (36 * 1024 + 9)]) 1 rfl ?_
  obtain ⟨v14, hv14, hD⟩ := Option.bind_eq_some_iff.mp hD
  refine k_ldI rfl (c_get (r := 36) (o := 6) (K := 10) rfl (by decide)) hv14 ?_
  obtain ⟨A15, hA15, hD⟩ := Option.bind_eq_some_iff.mp hD
  refine k_cstI 36 9 (K := 10) rfl rfl rfl rfl (fun _ => rfl) hA15 ?_
  refine k_runB (pc' := 87) (loc' := [(0, .ref (36 * 1024)), (1, .int x1), (2, .int x2), (3, .int x3)]) (st' := [.ref (36 * 1024)]) 1 rfl ?_
  obtain ⟨q16, hq16, hD⟩ := Option.bind_eq_some_iff.mp hD
  refine k_gq 36 0 (K := 10) (K2 := 6) (key := 8) rfl rfl rfl rfl rfl hq16 (fun kq16 => ?_)
  refine k_gf q16 0 (K := 6) kq16 rfl rfl rfl rfl ?_
  refine k_runB (pc' := 95) (loc' := [(0, .ref (36 * 1024)), (1, .int x1), (2, .int x2), (3, .int x3)]) (st' := [.ref (36 * 1024), .int x1, .ref (q16 * 1024 + 13)]) 2 rfl ?_
  refine k_gf 36 0 (K := 10) rfl rfl rfl rfl rfl ?_
  obtain ⟨⟨v17, P18, F19, A20, J21⟩, hv17, hD⟩ := Option.bind_eq_some_iff.mp hD
  dsimp only at hD
  refine k_runV rfl rfl rfl (c_get (r := q16) (o := 13) (K := 6) kq16 (by decide)) rfl rfl (t_e_Laws_tellsTo (d := d) kq16 hv17) ?_
  refine k_runB (pc' := 105) (loc' := [(0, .ref (36 * 1024)), (1, .int x1), (2, .int x2), (3, .int x3), (4, .int v17)]) (st' := [.ref (36 * 1024), .int 0]) 3 rfl ?_
  obtain ⟨q22, hq22, hD⟩ := Option.bind_eq_some_iff.mp hD
  refine k_gq 36 0 (K := 10) (K2 := 6) (key := 8) rfl rfl rfl rfl rfl hq22 (fun kq22 => ?_)
  refine k_gf q22 0 (K := 6) kq22 rfl rfl rfl rfl ?_
  refine k_runB (pc' := 112) (loc' := [(0, .ref (36 * 1024)), (1, .int x1), (2, .int x2), (3, .int x3), (4, .int v17)]) (st' := [.int x2, .ref (q22 * 1024 + 5), .int 0]) 1 rfl ?_
  obtain ⟨v23, hv23, hD⟩ := Option.bind_eq_some_iff.mp hD
  refine k_ldI rfl (c_get (r := q22) (o := 5) (K := 6) kq22 (by decide)) hv23 ?_
  refine k_runB (pc' := 123) (loc' := [(0, .ref (36 * 1024)), (1, .int x1), (2, .int x2), (3, .int x3), (4, .int v17)]) (st' := [.int (if 0 < (if v17 < (v23 - 1) then v17 else (v23 - 1)) then (if v17 < (v23 - 1) then v17 else (v23 - 1)) else 0)]) 5 rfl ?_
  cases hD
  exact k_iret rfl rfl
end MC
end Qz18
section Qz19
/-! the class's methods as functions (printed by wip/dec2.py) -/
section MC
variable {t : gT} {lg : Nat → Nat} {d : Nat} {c : Nat × Nat} {B : Nat → List gE}
/-- SleepWork$Sleep.lieDown(II)V  -/
def e_Sleep_lieDown (P : Nat → Nat → Nat) (F : Nat → Nat → Int32) (A : Nat → Nat → Nat → Int32) (J : Nat → Nat → Nat → Int64) (x1 : Int32) (x2 : Int32) : Option (Unit × (Nat → Nat → Nat) × (Nat → Nat → Int32) × (Nat → Nat → Nat → Int32) × (Nat → Nat → Nat → Int64)) :=
  (c_chk 2 (P 36 9)).bind fun q1 =>
  (c_st A q1 7 6 x1 x2).bind fun A2 =>
  (c_st A2 36 3 6 x1 1000000).bind fun A3 =>
  some ((), P, F, A3, J)
set_option maxRecDepth 10000 in
theorem t_e_Sleep_lieDown {P : Nat → Nat → Nat} {F : Nat → Nat → Int32} {A : Nat → Nat → Nat → Int32} {J : Nat → Nat → Nat → Int64} {x1 : Int32} {x2 : Int32}  {w : Unit × (Nat → Nat → Nat) × (Nat → Nat → Int32) × (Nat → Nat → Nat → Int32) × (Nat → Nat → Nat → Int64)} : e_Sleep_lieDown P F A J x1 x2 = some w → k_run t lg (d) 80 0 [(0, .ref (36 * 1024)), (1, .int x1), (2, .int x2)] [] (c_h c B P F A J) (none, c_h c B w.2.1 w.2.2.1 w.2.2.2.1 w.2.2.2.2) := by
  intro hD
  unfold e_Sleep_lieDown at hD
  refine k_runB (pc' := 1) (loc' := [(0, .ref (36 * 1024)), (1, .int x1), (2, .int x2)]) (st' := [.ref (36 * 1024)]) 1 rfl ?_
  obtain ⟨q1, hq1, hD⟩ := Option.bind_eq_some_iff.mp hD
  refine k_gq 36 0 (K := 10) (K2 := 2) (key := 9) rfl rfl rfl rfl rfl hq1 (fun kq1 => ?_)
  refine k_gf q1 0 (K := 2) kq1 rfl rfl rfl rfl ?_
  refine k_runB (pc' := 9) (loc' := [(0, .ref (36 * 1024)), (1, .int x1), (2, .int x2)]) (st' := [.int x2, .int x1, .ref (q1 * 1024 + 7)]) 2 rfl ?_
  obtain ⟨A2, hA2, hD⟩ := Option.bind_eq_some_iff.mp hD
  refine k_cstI q1 7 (K := 2) kq1 rfl rfl rfl (fun _ => rfl) hA2 ?_
  refine k_runB (pc' := 11) (loc' := [(0, .ref (36 * 1024)), (1, .int x1), (2, .int x2)]) (st' := [.ref (36 * 1024)]) 1 rfl ?_
  refine k_gf 36 0 (K := 10) rfl rfl rfl rfl rfl ?_
  refine k_runB (pc' := 17) (loc' := [(0, .ref (36 * 1024)), (1, .int x1), (2, .int x2)]) (st' := [.int 1000000, .int x1, .ref (36 * 1024 + 3)]) 2 rfl ?_
  obtain ⟨A3, hA3, hD⟩ := Option.bind_eq_some_iff.mp hD
  refine k_cstI 36 3 (K := 10) rfl rfl rfl rfl (fun _ => rfl) hA3 ?_
  cases hD
  exact k_vret rfl rfl
def e_Sleep_begin_168 (n : Nat) (P : Nat → Nat → Nat) (F : Nat → Nat → Int32) (A : Nat → Nat → Nat → Int32) (J : Nat → Nat → Nat → Int64) (x1 : Int32) (x2 : Int32) (x3 : Int32) (x5 : Int32) : Option (Unit × (Nat → Nat → Nat) × (Nat → Nat → Int32) × (Nat → Nat → Nat → Int32) × (Nat → Nat → Nat → Int64)) :=
    (c_chk 2 (P 36 9)).bind fun q31 =>
    (m_ld (A q31 2) 6 x3).bind fun v32 =>
    (c_st A q31 2 6 x3 (v32 - 1)).bind fun A33 =>
    (c_st A33 36 4 6 x1 x5).bind fun A34 =>
    (c_chk 6 (P 36 8)).bind fun q35 =>
    (m_ld (A34 q35 6) 36 ((x3 * 6) + x5)).bind fun v36 =>
    (c_st A34 36 3 6 x1 (x2 + v36)).bind fun A37 =>
    some ((), P, F, A37, J)
set_option maxRecDepth 10000 in
theorem t_e_Sleep_begin_168 {n : Nat}  {P : Nat → Nat → Nat} {F : Nat → Nat → Int32} {A : Nat → Nat → Nat → Int32} {J : Nat → Nat → Nat → Int64} {x1 : Int32} {x2 : Int32} {x3 : Int32} {x5 : Int32}  {w : Unit × (Nat → Nat → Nat) × (Nat → Nat → Int32) × (Nat → Nat → Nat → Int32) × (Nat → Nat → Nat → Int64)} : e_Sleep_begin_168 n P F A J x1 x2 x3 x5 = some w → k_run t lg (d + 3) 79 168 [(0, .ref (36 * 1024)), (1, .int x1), (2, .int x2), (3, .int x3), (5, .int x5)] [] (c_h c B P F A J) (none, c_h c B w.2.1 w.2.2.1 w.2.2.2.1 w.2.2.2.2) := by
  intro hD
  unfold e_Sleep_begin_168 at hD
  refine k_runB (pc' := 169) (loc' := [(0, .ref (36 * 1024)), (1, .int x1), (2, .int x2), (3, .int x3), (5, .int x5)]) (st' := [.ref (36 * 1024)]) 1 rfl ?_
  obtain ⟨q31, hq31, hD⟩ := Option.bind_eq_some_iff.mp hD
  refine k_gq 36 0 (K := 10) (K2 := 2) (key := 9) rfl rfl rfl rfl rfl hq31 (fun kq31 => ?_)
  refine k_gf q31 0 (K := 2) kq31 rfl rfl rfl rfl ?_
  refine k_runB (pc' := 177) (loc' := [(0, .ref (36 * 1024)), (1, .int x1), (2, .int x2), (3, .int x3), (5, .int x5)]) (st' := [.int x3, .ref (q31 * 1024 + 2), .int x3, .ref (q31 * 1024 + 2)]) 2 rfl ?_
  obtain ⟨v32, hv32, hD⟩ := Option.bind_eq_some_iff.mp hD
  refine k_ldI rfl (c_get (r := q31) (o := 2) (K := 2) kq31 (by decide)) hv32 ?_
  refine k_runB (pc' := 180) (loc' := [(0, .ref (36 * 1024)), (1, .int x1), (2, .int x2), (3, .int x3), (5, .int x5)]) (st' := [.int (v32 - 1), .int x3, .ref (q31 * 1024 + 2)]) 2 rfl ?_
  obtain ⟨A33, hA33, hD⟩ := Option.bind_eq_some_iff.mp hD
  refine k_cstI q31 2 (K := 2) kq31 rfl rfl rfl (fun _ => rfl) hA33 ?_
  refine k_runB (pc' := 182) (loc' := [(0, .ref (36 * 1024)), (1, .int x1), (2, .int x2), (3, .int x3), (5, .int x5)]) (st' := [.ref (36 * 1024)]) 1 rfl ?_
  refine k_gf 36 0 (K := 10) rfl rfl rfl rfl rfl ?_
  refine k_runB (pc' := 188) (loc' := [(0, .ref (36 * 1024)), (1, .int x1), (2, .int x2), (3, .int x3), (5, .int x5)]) (st' := [.int x5, .int x1, .ref (36 * 1024 + 4)]) 2 rfl ?_
  obtain ⟨A34, hA34, hD⟩ := Option.bind_eq_some_iff.mp hD
  refine k_cstI 36 4 (K := 10) rfl rfl rfl rfl (fun _ => rfl) hA34 ?_
  refine k_runB (pc' := 190) (loc' := [(0, .ref (36 * 1024)), (1, .int x1), (2, .int x2), (3, .int x3), (5, .int x5)]) (st' := [.ref (36 * 1024)]) 1 rfl ?_
  refine k_gf 36 0 (K := 10) rfl rfl rfl rfl rfl ?_
  refine k_runB (pc' := 196) (loc' := [(0, .ref (36 * 1024)), (1, .int x1), (2, .int x2), (3, .int x3), (5, .int x5)]) (st' := [.ref (36 * 1024), .int x2, .int x1, .ref (36 * 1024 + 3)]) 3 rfl ?_
  obtain ⟨q35, hq35, hD⟩ := Option.bind_eq_some_iff.mp hD
  refine k_gq 36 0 (K := 10) (K2 := 6) (key := 8) rfl rfl rfl rfl rfl hq35 (fun kq35 => ?_)
  refine k_gf q35 0 (K := 6) kq35 rfl rfl rfl rfl ?_
  refine k_runB (pc' := 209) (loc' := [(0, .ref (36 * 1024)), (1, .int x1), (2, .int x2), (3, .int x3), (5, .int x5)]) (st' := [.int ((x3 * 6) + x5), .ref (q35 * 1024 + 6), .int x2, .int x1, .ref (36 * 1024 + 3)]) 5 rfl ?_
  obtain ⟨v36, hv36, hD⟩ := Option.bind_eq_some_iff.mp hD
  refine k_ldI rfl (c_get (r := q35) (o := 6) (K := 6) kq35 (by decide)) hv36 ?_
  refine k_runB (pc' := 211) (loc' := [(0, .ref (36 * 1024)), (1, .int x1), (2, .int x2), (3, .int x3), (5, .int x5)]) (st' := [.int (x2 + v36), .int x1, .ref (36 * 1024 + 3)]) 1 rfl ?_
  obtain ⟨A37, hA37, hD⟩ := Option.bind_eq_some_iff.mp hD
  refine k_cstI 36 3 (K := 10) rfl rfl rfl rfl (fun _ => rfl) hA37 ?_
  cases hD
  exact k_vret rfl rfl
def e_Sleep_begin_140 (n : Nat) (P : Nat → Nat → Nat) (F : Nat → Nat → Int32) (A : Nat → Nat → Nat → Int32) (J : Nat → Nat → Nat → Int64) (x1 : Int32) (x2 : Int32) (x3 : Int32) (x5 : Int32) (x6 : Int32) : Option (Unit × (Nat → Nat → Nat) × (Nat → Nat → Int32) × (Nat → Nat → Nat → Int32) × (Nat → Nat → Nat → Int64)) :=
    (m_ld (A 36 8) 6 x6).bind fun v38 =>
    cond (g_cnd .eq v38 0)
    ((c_st A 36 8 6 x6 1).bind fun A40 =>
    (c_chk 2 (P 36 9)).bind fun q41 =>
    (m_ld (A40 q41 2) 6 x3).bind fun v42 =>
    (c_st A40 q41 2 6 x3 (v42 - 1)).bind fun A43 =>
    (c_st A43 36 4 6 x1 x5).bind fun A44 =>
    (c_chk 6 (P 36 8)).bind fun q45 =>
    (m_ld (A44 q45 6) 36 ((x3 * 6) + x5)).bind fun v46 =>
    (c_st A44 36 3 6 x1 (x2 + v46)).bind fun A47 =>
    some ((), P, F, A47, J))
    ((c_st A 36 3 6 x1 (x2 + 1)).bind fun A48 =>
    some ((), P, F, A48, J))
set_option maxRecDepth 10000 in
theorem t_e_Sleep_begin_140 {n : Nat}  {P : Nat → Nat → Nat} {F : Nat → Nat → Int32} {A : Nat → Nat → Nat → Int32} {J : Nat → Nat → Nat → Int64} {x1 : Int32} {x2 : Int32} {x3 : Int32} {x5 : Int32} {x6 : Int32}  {w : Unit × (Nat → Nat → Nat) × (Nat → Nat → Int32) × (Nat → Nat → Nat → Int32) × (Nat → Nat → Nat → Int64)} : e_Sleep_begin_140 n P F A J x1 x2 x3 x5 x6 = some w → k_run t lg (d + 3) 79 140 [(0, .ref (36 * 1024)), (1, .int x1), (2, .int x2), (3, .int x3), (5, .int x5), (6, .int x6)] [] (c_h c B P F A J) (none, c_h c B w.2.1 w.2.2.1 w.2.2.2.1 w.2.2.2.2) := by
  intro hD
  unfold e_Sleep_begin_140 at hD
  refine k_runB (pc' := 141) (loc' := [(0, .ref (36 * 1024)), (1, .int x1), (2, .int x2), (3, .int x3), (5, .int x5), (6, .int x6)]) (st' := [.ref (36 * 1024)]) 1 rfl ?_
  refine k_gf 36 0 (K := 10) rfl rfl rfl rfl rfl ?_
  refine k_runB (pc' := 146) (loc' := [(0, .ref (36 * 1024)), (1, .int x1), (2, .int x2), (3, .int x3), (5, .int x5), (6, .int x6)]) (st' := [.int x6, .ref (36 * 1024 + 8)]) 1 rfl ?_
  obtain ⟨v38, hv38, hD⟩ := Option.bind_eq_some_iff.mp hD
  refine k_ldI rfl (c_get (r := 36) (o := 8) (K := 10) rfl (by decide)) hv38 ?_
  refine k_if rfl (fun c147_38 => ?_) (fun c147_38 => ?_)
  · rw [c147_38, cond_true] at hD
    refine k_runB (pc' := 161) (loc' := [(0, .ref (36 * 1024)), (1, .int x1), (2, .int x2), (3, .int x3), (5, .int x5), (6, .int x6)]) (st' := [.ref (36 * 1024)]) 1 rfl ?_
    refine k_gf 36 0 (K := 10) rfl rfl rfl rfl rfl ?_
    refine k_runB (pc' := 167) (loc' := [(0, .ref (36 * 1024)), (1, .int x1), (2, .int x2), (3, .int x3), (5, .int x5), (6, .int x6)]) (st' := [.int 1, .int x6, .ref (36 * 1024 + 8)]) 2 rfl ?_
    obtain ⟨A40, hA40, hD⟩ := Option.bind_eq_some_iff.mp hD
    refine k_cstI 36 8 (K := 10) rfl rfl rfl rfl (fun _ => rfl) hA40 ?_
    refine k_runB (pc' := 169) (loc' := [(0, .ref (36 * 1024)), (1, .int x1), (2, .int x2), (3, .int x3), (5, .int x5), (6, .int x6)]) (st' := [.ref (36 * 1024)]) 1 rfl ?_
    obtain ⟨q41, hq41, hD⟩ := Option.bind_eq_some_iff.mp hD
    refine k_gq 36 0 (K := 10) (K2 := 2) (key := 9) rfl rfl rfl rfl rfl hq41 (fun kq41 => ?_)
    refine k_gf q41 0 (K := 2) kq41 rfl rfl rfl rfl ?_
    refine k_runB (pc' := 177) (loc' := [(0, .ref (36 * 1024)), (1, .int x1), (2, .int x2), (3, .int x3), (5, .int x5), (6, .int x6)]) (st' := [.int x3, .ref (q41 * 1024 + 2), .int x3, .ref (q41 * 1024 + 2)]) 2 rfl ?_
    obtain ⟨v42, hv42, hD⟩ := Option.bind_eq_some_iff.mp hD
    refine k_ldI rfl (c_get (r := q41) (o := 2) (K := 2) kq41 (by decide)) hv42 ?_
    refine k_runB (pc' := 180) (loc' := [(0, .ref (36 * 1024)), (1, .int x1), (2, .int x2), (3, .int x3), (5, .int x5), (6, .int x6)]) (st' := [.int (v42 - 1), .int x3, .ref (q41 * 1024 + 2)]) 2 rfl ?_
    obtain ⟨A43, hA43, hD⟩ := Option.bind_eq_some_iff.mp hD
    refine k_cstI q41 2 (K := 2) kq41 rfl rfl rfl (fun _ => rfl) hA43 ?_
    refine k_runB (pc' := 182) (loc' := [(0, .ref (36 * 1024)), (1, .int x1), (2, .int x2), (3, .int x3), (5, .int x5), (6, .int x6)]) (st' := [.ref (36 * 1024)]) 1 rfl ?_
    refine k_gf 36 0 (K := 10) rfl rfl rfl rfl rfl ?_
    refine k_runB (pc' := 188) (loc' := [(0, .ref (36 * 1024)), (1, .int x1), (2, .int x2), (3, .int x3), (5, .int x5), (6, .int x6)]) (st' := [.int x5, .int x1, .ref (36 * 1024 + 4)]) 2 rfl ?_
    obtain ⟨A44, hA44, hD⟩ := Option.bind_eq_some_iff.mp hD
    refine k_cstI 36 4 (K := 10) rfl rfl rfl rfl (fun _ => rfl) hA44 ?_
    refine k_runB (pc' := 190) (loc' := [(0, .ref (36 * 1024)), (1, .int x1), (2, .int x2), (3, .int x3), (5, .int x5), (6, .int x6)]) (st' := [.ref (36 * 1024)]) 1 rfl ?_
    refine k_gf 36 0 (K := 10) rfl rfl rfl rfl rfl ?_
    refine k_runB (pc' := 196) (loc' := [(0, .ref (36 * 1024)), (1, .int x1), (2, .int x2), (3, .int x3), (5, .int x5), (6, .int x6)]) (st' := [.ref (36 * 1024), .int x2, .int x1, .ref (36 * 1024 + 3)]) 3 rfl ?_
    obtain ⟨q45, hq45, hD⟩ := Option.bind_eq_some_iff.mp hD
    refine k_gq 36 0 (K := 10) (K2 := 6) (key := 8) rfl rfl rfl rfl rfl hq45 (fun kq45 => ?_)
    refine k_gf q45 0 (K := 6) kq45 rfl rfl rfl rfl ?_
    refine k_runB (pc' := 209) (loc' := [(0, .ref (36 * 1024)), (1, .int x1), (2, .int x2), (3, .int x3), (5, .int x5), (6, .int x6)]) (st' := [.int ((x3 * 6) + x5), .ref (q45 * 1024 + 6), .int x2, .int x1, .ref (36 * 1024 + 3)]) 5 rfl ?_
    obtain ⟨v46, hv46, hD⟩ := Option.bind_eq_some_iff.mp hD
    refine k_ldI rfl (c_get (r := q45) (o := 6) (K := 6) kq45 (by decide)) hv46 ?_
    refine k_runB (pc' := 211) (loc' := [(0, .ref (36 * 1024)), (1, .int x1), (2, .int x2), (3, .int x3), (5, .int x5), (6, .int x6)]) (st' := [.int (x2 + v46), .int x1, .ref (36 * 1024 + 3)]) 1 rfl ?_
    obtain ⟨A47, hA47, hD⟩ := Option.bind_eq_some_iff.mp hD
    refine k_cstI 36 3 (K := 10) rfl rfl rfl rfl (fun _ => rfl) hA47 ?_
    cases hD
    exact k_vret rfl rfl
  · rw [c147_38, cond_false] at hD
    refine k_runB (pc' := 151) (loc' := [(0, .ref (36 * 1024)), (1, .int x1), (2, .int x2), (3, .int x3), (5, .int x5), (6, .int x6)]) (st' := [.ref (36 * 1024)]) 1 rfl ?_
    refine k_gf 36 0 (K := 10) rfl rfl rfl rfl rfl ?_
    refine k_runB (pc' := 158) (loc' := [(0, .ref (36 * 1024)), (1, .int x1), (2, .int x2), (3, .int x3), (5, .int x5), (6, .int x6)]) (st' := [.int (x2 + 1), .int x1, .ref (36 * 1024 + 3)]) 4 rfl ?_
    obtain ⟨A48, hA48, hD⟩ := Option.bind_eq_some_iff.mp hD
    refine k_cstI 36 3 (K := 10) rfl rfl rfl rfl (fun _ => rfl) hA48 ?_
    cases hD
    exact k_vret rfl rfl
def e_Sleep_begin_59 (n : Nat) (P : Nat → Nat → Nat) (F : Nat → Nat → Int32) (A : Nat → Nat → Nat → Int32) (J : Nat → Nat → Nat → Int64) (x1 : Int32) (x2 : Int32) (s1 : Int32) (s2 : Int32) : Option (Unit × (Nat → Nat → Nat) × (Nat → Nat → Int32) × (Nat → Nat → Nat → Int32) × (Nat → Nat → Nat → Int64)) :=
    (c_st A 36 7 6 s1 s2).bind fun A49 =>
    (e_Sleep_lieDown P F A49 J x1 x2).bind fun (_, P51, F52, A53, J54) =>
    some ((), P51, F52, A53, J54)
set_option maxRecDepth 10000 in
theorem t_e_Sleep_begin_59 {n : Nat}  {P : Nat → Nat → Nat} {F : Nat → Nat → Int32} {A : Nat → Nat → Nat → Int32} {J : Nat → Nat → Nat → Int64} {x1 : Int32} {x2 : Int32} {s1 : Int32} {s2 : Int32}  {w : Unit × (Nat → Nat → Nat) × (Nat → Nat → Int32) × (Nat → Nat → Nat → Int32) × (Nat → Nat → Nat → Int64)} : e_Sleep_begin_59 n P F A J x1 x2 s1 s2 = some w → k_run t lg (d + 3) 79 59 [(0, .ref (36 * 1024)), (1, .int x1), (2, .int x2)] [.int s2, .int s1, .ref (36 * 1024 + 7)] (c_h c B P F A J) (none, c_h c B w.2.1 w.2.2.1 w.2.2.2.1 w.2.2.2.2) := by
  intro hD
  unfold e_Sleep_begin_59 at hD
  obtain ⟨A49, hA49, hD⟩ := Option.bind_eq_some_iff.mp hD
  refine k_cstI 36 7 (K := 10) rfl rfl rfl rfl (fun _ => rfl) hA49 ?_
  refine k_runB (pc' := 63) (loc' := [(0, .ref (36 * 1024)), (1, .int x1), (2, .int x2)]) (st' := [.int x2, .int x1, .ref (36 * 1024)]) 3 rfl ?_
  obtain ⟨⟨v50, P51, F52, A53, J54⟩, hv50, hD⟩ := Option.bind_eq_some_iff.mp hD
  dsimp only at hD
  refine k_runV rfl rfl rfl (c_get (r := 36) (o := 0) (K := 10) rfl (by decide)) rfl rfl (t_e_Sleep_lieDown (d := d + 2) hv50) ?_
  cases hD
  exact k_vret rfl rfl
def e_Sleep_begin_44 (n : Nat) (P : Nat → Nat → Nat) (F : Nat → Nat → Int32) (A : Nat → Nat → Nat → Int32) (J : Nat → Nat → Nat → Int64) (x1 : Int32) (x2 : Int32) (x4 : Int32) : Option (Unit × (Nat → Nat → Nat) × (Nat → Nat → Int32) × (Nat → Nat → Nat → Int32) × (Nat → Nat → Nat → Int64)) :=
    cond (g_cnd .eq x4 0)
    (e_Sleep_begin_59 n P F A J x1 x2 x1 0)
    (e_Sleep_begin_59 n P F A J x1 x2 x1 1)
set_option maxRecDepth 10000 in
theorem t_e_Sleep_begin_44 {n : Nat}  {P : Nat → Nat → Nat} {F : Nat → Nat → Int32} {A : Nat → Nat → Nat → Int32} {J : Nat → Nat → Nat → Int64} {x1 : Int32} {x2 : Int32} {x4 : Int32}  {w : Unit × (Nat → Nat → Nat) × (Nat → Nat → Int32) × (Nat → Nat → Nat → Int32) × (Nat → Nat → Nat → Int64)} : e_Sleep_begin_44 n P F A J x1 x2 x4 = some w → k_run t lg (d + 3) 79 44 [(0, .ref (36 * 1024)), (1, .int x1), (2, .int x2), (4, .int x4)] [] (c_h c B P F A J) (none, c_h c B w.2.1 w.2.2.1 w.2.2.2.1 w.2.2.2.2) := by
  intro hD
  unfold e_Sleep_begin_44 at hD
  refine k_runB (pc' := 45) (loc' := [(0, .ref (36 * 1024)), (1, .int x1), (2, .int x2), (4, .int x4)]) (st' := [.ref (36 * 1024)]) 1 rfl ?_
  refine k_gf 36 0 (K := 10) rfl rfl rfl rfl rfl ?_
  refine k_runB (pc' := 51) (loc' := [(0, .ref (36 * 1024)), (1, .int x1), (2, .int x2), (4, .int x4)]) (st' := [.int x4, .int x1, .ref (36 * 1024 + 7)]) 2 rfl ?_
  refine k_if rfl (fun c51_29 => ?_) (fun c51_29 => ?_)
  · rw [c51_29, cond_true] at hD
    refine k_runB (pc' := 59) (loc' := [(0, .ref (36 * 1024)), (1, .int x1), (2, .int x2), (4, .int x4)]) (st' := [.int 0, .int x1, .ref (36 * 1024 + 7)]) 1 rfl ?_
    refine k_wk [0, 1, 2] (loc' := [(0, .ref (36 * 1024)), (1, .int x1), (2, .int x2)]) rfl rfl ?_
    exact t_e_Sleep_begin_59   hD
  · rw [c51_29, cond_false] at hD
    refine k_runB (pc' := 59) (loc' := [(0, .ref (36 * 1024)), (1, .int x1), (2, .int x2), (4, .int x4)]) (st' := [.int 1, .int x1, .ref (36 * 1024 + 7)]) 2 rfl ?_
    refine k_wk [0, 1, 2] (loc' := [(0, .ref (36 * 1024)), (1, .int x1), (2, .int x2)]) rfl rfl ?_
    exact t_e_Sleep_begin_59   hD
/-- SleepWork$Sleep.begin(II)V  -/
def e_Sleep_begin (n : Nat) (P : Nat → Nat → Nat) (F : Nat → Nat → Int32) (A : Nat → Nat → Nat → Int32) (J : Nat → Nat → Nat → Int64) (x1 : Int32) (x2 : Int32) : Option (Unit × (Nat → Nat → Nat) × (Nat → Nat → Int32) × (Nat → Nat → Nat → Int32) × (Nat → Nat → Nat → Int64)) :=
  (c_chk 2 (P 36 9)).bind fun q1 =>
  (m_ld (A q1 3) 6 x1).bind fun v2 =>
  (m_div v2 6).bind fun v3 =>
  (c_chk 6 (P 36 8)).bind fun q4 =>
  (c_chk 2 (P 36 9)).bind fun q5 =>
  (e_House_isEnded n P F A J q4 q5 v3).bind fun v6 =>
  cond (g_cnd .ne v6 0)
  (e_Sleep_begin_44 n P F A J x1 x2 v6)
  ((c_chk 2 (P 36 9)).bind fun q8 =>
  (m_ld (A q8 2) 6 v3).bind fun v9 =>
  cond (g_cnd .gt v9 0)
  ((e_Sleep_chosenStep n P F A J x1 v3 x2).bind fun (v11, P12, F13, A14, J15) =>
  (c_chk 6 (P12 36 8)).bind fun q16 =>
  (m_ld (A14 q16 10) 36 ((v3 * 6) + v11)).bind fun v17 =>
  cond (g_cnd .lt v17 0)
  (e_Sleep_begin_168 n P12 F13 A14 J15 x1 x2 v3 v11)
  ((c_chk 2 (P12 36 9)).bind fun q19 =>
  (m_ld (A14 q19 4) 6 v17).bind fun v20 =>
  cond (g_cnd .eq v20 (100 + x1))
  (e_Sleep_begin_140 n P12 F13 A14 J15 x1 x2 v3 v11 v17)
  ((c_chk 6 (P12 36 8)).bind fun q22 =>
  (m_ld (A14 q22 4) 6 v3).bind fun v23 =>
  cond (g_cnd .eq v20 v23)
  (e_Sleep_begin_140 n P12 F13 A14 J15 x1 x2 v3 v11 v17)
  ((e_Sleep_lieDown P12 F13 A14 J15 x1 x2).bind fun (_, P26, F27, A28, J29) =>
  some ((), P26, F27, A28, J29)))))
  (e_Sleep_begin_44 n P F A J x1 x2 v6))
set_option maxRecDepth 10000 in
theorem t_e_Sleep_begin {n : Nat} {P : Nat → Nat → Nat} {F : Nat → Nat → Int32} {A : Nat → Nat → Nat → Int32} {J : Nat → Nat → Nat → Int64} {x1 : Int32} {x2 : Int32}  {w : Unit × (Nat → Nat → Nat) × (Nat → Nat → Int32) × (Nat → Nat → Nat → Int32) × (Nat → Nat → Nat → Int64)} : e_Sleep_begin n P F A J x1 x2 = some w → k_run t lg (d + 3) 79 0 [(0, .ref (36 * 1024)), (1, .int x1), (2, .int x2)] [] (c_h c B P F A J) (none, c_h c B w.2.1 w.2.2.1 w.2.2.2.1 w.2.2.2.2) := by
  intro hD
  unfold e_Sleep_begin at hD
  refine k_runB (pc' := 1) (loc' := [(0, .ref (36 * 1024)), (1, .int x1), (2, .int x2)]) (st' := [.ref (36 * 1024)]) 1 rfl ?_
  obtain ⟨q1, hq1, hD⟩ := Option.bind_eq_some_iff.mp hD
  refine k_gq 36 0 (K := 10) (K2 := 2) (key := 9) rfl rfl rfl rfl rfl hq1 (fun kq1 => ?_)
  refine k_gf q1 0 (K := 2) kq1 rfl rfl rfl rfl ?_
  refine k_runB (pc' := 8) (loc' := [(0, .ref (36 * 1024)), (1, .int x1), (2, .int x2)]) (st' := [.int x1, .ref (q1 * 1024 + 3)]) 1 rfl ?_
  obtain ⟨v2, hv2, hD⟩ := Option.bind_eq_some_iff.mp hD
  refine k_ldI rfl (c_get (r := q1) (o := 3) (K := 2) kq1 (by decide)) hv2 ?_
  refine k_runB (pc' := 11) (loc' := [(0, .ref (36 * 1024)), (1, .int x1), (2, .int x2)]) (st' := [.int 6, .int v2]) 1 rfl ?_
  obtain ⟨v3, hv3, hD⟩ := Option.bind_eq_some_iff.mp hD
  refine k_dvI rfl hv3 ?_
  refine k_runB (pc' := 14) (loc' := [(0, .ref (36 * 1024)), (1, .int x1), (2, .int x2), (3, .int v3)]) (st' := [.ref (36 * 1024)]) 2 rfl ?_
  obtain ⟨q4, hq4, hD⟩ := Option.bind_eq_some_iff.mp hD
  refine k_gq 36 0 (K := 10) (K2 := 6) (key := 8) rfl rfl rfl rfl rfl hq4 (fun kq4 => ?_)
  refine k_runB (pc' := 18) (loc' := [(0, .ref (36 * 1024)), (1, .int x1), (2, .int x2), (3, .int v3)]) (st' := [.ref (36 * 1024), .ref (q4 * 1024)]) 1 rfl ?_
  obtain ⟨q5, hq5, hD⟩ := Option.bind_eq_some_iff.mp hD
  refine k_gq 36 0 (K := 10) (K2 := 2) (key := 9) rfl rfl rfl rfl rfl hq5 (fun kq5 => ?_)
  refine k_runB (pc' := 22) (loc' := [(0, .ref (36 * 1024)), (1, .int x1), (2, .int x2), (3, .int v3)]) (st' := [.int v3, .ref (q5 * 1024), .ref (q4 * 1024)]) 1 rfl ?_
  obtain ⟨v6, hv6, hD⟩ := Option.bind_eq_some_iff.mp hD
  refine k_runV rfl rfl rfl (c_get (r := q4) (o := 0) (K := 6) kq4 (by decide)) rfl rfl (t_e_House_isEnded (d := d + 2) kq4 kq5 hv6) ?_
  refine k_runB (pc' := 29) (loc' := [(0, .ref (36 * 1024)), (1, .int x1), (2, .int x2), (3, .int v3), (4, .int v6)]) (st' := [.int v6]) 2 rfl ?_
  refine k_if rfl (fun c29_6 => ?_) (fun c29_6 => ?_)
  · rw [c29_6, cond_true] at hD
    refine k_wk [0, 1, 2, 4] (loc' := [(0, .ref (36 * 1024)), (1, .int x1), (2, .int x2), (4, .int v6)]) rfl rfl ?_
    exact t_e_Sleep_begin_44   hD
  · rw [c29_6, cond_false] at hD
    refine k_runB (pc' := 33) (loc' := [(0, .ref (36 * 1024)), (1, .int x1), (2, .int x2), (3, .int v3), (4, .int v6)]) (st' := [.ref (36 * 1024)]) 1 rfl ?_
    obtain ⟨q8, hq8, hD⟩ := Option.bind_eq_some_iff.mp hD
    refine k_gq 36 0 (K := 10) (K2 := 2) (key := 9) rfl rfl rfl rfl rfl hq8 (fun kq8 => ?_)
    refine k_gf q8 0 (K := 2) kq8 rfl rfl rfl rfl ?_
    refine k_runB (pc' := 40) (loc' := [(0, .ref (36 * 1024)), (1, .int x1), (2, .int x2), (3, .int v3), (4, .int v6)]) (st' := [.int v3, .ref (q8 * 1024 + 2)]) 1 rfl ?_
    obtain ⟨v9, hv9, hD⟩ := Option.bind_eq_some_iff.mp hD
    refine k_ldI rfl (c_get (r := q8) (o := 2) (K := 2) kq8 (by decide)) hv9 ?_
    refine k_if rfl (fun c41_9 => ?_) (fun c41_9 => ?_)
    · rw [c41_9, cond_true] at hD
      refine k_runB (pc' := 71) (loc' := [(0, .ref (36 * 1024)), (1, .int x1), (2, .int x2), (3, .int v3), (4, .int v6)]) (st' := [.int x2, .int v3, .int x1, .ref (36 * 1024)]) 4 rfl ?_
      obtain ⟨⟨v11, P12, F13, A14, J15⟩, hv11, hD⟩ := Option.bind_eq_some_iff.mp hD
      dsimp only at hD
      refine k_runV rfl rfl rfl (c_get (r := 36) (o := 0) (K := 10) rfl (by decide)) rfl rfl (t_e_Sleep_chosenStep (d := d) hv11) ?_
      refine k_runB (pc' := 77) (loc' := [(0, .ref (36 * 1024)), (1, .int x1), (2, .int x2), (3, .int v3), (4, .int v6), (5, .int v11)]) (st' := [.ref (36 * 1024)]) 2 rfl ?_
      obtain ⟨q16, hq16, hD⟩ := Option.bind_eq_some_iff.mp hD
      refine k_gq 36 0 (K := 10) (K2 := 6) (key := 8) rfl rfl rfl rfl rfl hq16 (fun kq16 => ?_)
      refine k_gf q16 0 (K := 6) kq16 rfl rfl rfl rfl ?_
      refine k_runB (pc' := 90) (loc' := [(0, .ref (36 * 1024)), (1, .int x1), (2, .int x2), (3, .int v3), (4, .int v6), (5, .int v11)]) (st' := [.int ((v3 * 6) + v11), .ref (q16 * 1024 + 10)]) 5 rfl ?_
      obtain ⟨v17, hv17, hD⟩ := Option.bind_eq_some_iff.mp hD
      refine k_ldI rfl (c_get (r := q16) (o := 10) (K := 6) kq16 (by decide)) hv17 ?_
      refine k_runB (pc' := 95) (loc' := [(0, .ref (36 * 1024)), (1, .int x1), (2, .int x2), (3, .int v3), (4, .int v6), (5, .int v11), (6, .int v17)]) (st' := [.int v17]) 2 rfl ?_
      refine k_if rfl (fun c95_17 => ?_) (fun c95_17 => ?_)
      · rw [c95_17, cond_true] at hD
        refine k_wk [0, 1, 2, 3, 5] (loc' := [(0, .ref (36 * 1024)), (1, .int x1), (2, .int x2), (3, .int v3), (5, .int v11)]) rfl rfl ?_
        exact t_e_Sleep_begin_168   hD
      · rw [c95_17, cond_false] at hD
        refine k_runB (pc' := 99) (loc' := [(0, .ref (36 * 1024)), (1, .int x1), (2, .int x2), (3, .int v3), (4, .int v6), (5, .int v11), (6, .int v17)]) (st' := [.ref (36 * 1024)]) 1 rfl ?_
        obtain ⟨q19, hq19, hD⟩ := Option.bind_eq_some_iff.mp hD
        refine k_gq 36 0 (K := 10) (K2 := 2) (key := 9) rfl rfl rfl rfl rfl hq19 (fun kq19 => ?_)
        refine k_gf q19 0 (K := 2) kq19 rfl rfl rfl rfl ?_
        refine k_runB (pc' := 107) (loc' := [(0, .ref (36 * 1024)), (1, .int x1), (2, .int x2), (3, .int v3), (4, .int v6), (5, .int v11), (6, .int v17)]) (st' := [.int v17, .ref (q19 * 1024 + 4)]) 1 rfl ?_
        obtain ⟨v20, hv20, hD⟩ := Option.bind_eq_some_iff.mp hD
        refine k_ldI rfl (c_get (r := q19) (o := 4) (K := 2) kq19 (by decide)) hv20 ?_
        refine k_runB (pc' := 116) (loc' := [(0, .ref (36 * 1024)), (1, .int x1), (2, .int x2), (3, .int v3), (4, .int v6), (5, .int v11), (6, .int v17), (7, .int v20)]) (st' := [.int (100 + x1), .int v20]) 5 rfl ?_
        refine k_ic rfl (fun c116_20 => ?_) (fun c116_20 => ?_)
        · rw [c116_20, cond_true] at hD
          refine k_wk [0, 1, 2, 3, 5, 6] (loc' := [(0, .ref (36 * 1024)), (1, .int x1), (2, .int x2), (3, .int v3), (5, .int v11), (6, .int v17)]) rfl rfl ?_
          exact t_e_Sleep_begin_140   hD
        · rw [c116_20, cond_false] at hD
          refine k_runB (pc' := 122) (loc' := [(0, .ref (36 * 1024)), (1, .int x1), (2, .int x2), (3, .int v3), (4, .int v6), (5, .int v11), (6, .int v17), (7, .int v20)]) (st' := [.ref (36 * 1024), .int v20]) 2 rfl ?_
          obtain ⟨q22, hq22, hD⟩ := Option.bind_eq_some_iff.mp hD
          refine k_gq 36 0 (K := 10) (K2 := 6) (key := 8) rfl rfl rfl rfl rfl hq22 (fun kq22 => ?_)
          refine k_gf q22 0 (K := 6) kq22 rfl rfl rfl rfl ?_
          refine k_runB (pc' := 129) (loc' := [(0, .ref (36 * 1024)), (1, .int x1), (2, .int x2), (3, .int v3), (4, .int v6), (5, .int v11), (6, .int v17), (7, .int v20)]) (st' := [.int v3, .ref (q22 * 1024 + 4), .int v20]) 1 rfl ?_
          obtain ⟨v23, hv23, hD⟩ := Option.bind_eq_some_iff.mp hD
          refine k_ldI rfl (c_get (r := q22) (o := 4) (K := 6) kq22 (by decide)) hv23 ?_
          refine k_ic rfl (fun c130_23 => ?_) (fun c130_23 => ?_)
          · rw [c130_23, cond_true] at hD
            refine k_wk [0, 1, 2, 3, 5, 6] (loc' := [(0, .ref (36 * 1024)), (1, .int x1), (2, .int x2), (3, .int v3), (5, .int v11), (6, .int v17)]) rfl rfl ?_
            exact t_e_Sleep_begin_140   hD
          · rw [c130_23, cond_false] at hD
            refine k_runB (pc' := 136) (loc' := [(0, .ref (36 * 1024)), (1, .int x1), (2, .int x2), (3, .int v3), (4, .int v6), (5, .int v11), (6, .int v17), (7, .int v20)]) (st' := [.int x2, .int x1, .ref (36 * 1024)]) 3 rfl ?_
            obtain ⟨⟨v25, P26, F27, A28, J29⟩, hv25, hD⟩ := Option.bind_eq_some_iff.mp hD
            dsimp only at hD
            refine k_runV rfl rfl rfl (c_get (r := 36) (o := 0) (K := 10) rfl (by decide)) rfl rfl (t_e_Sleep_lieDown (d := d + 2) hv25) ?_
            cases hD
            exact k_vret rfl rfl
    · rw [c41_9, cond_false] at hD
      refine k_wk [0, 1, 2, 4] (loc' := [(0, .ref (36 * 1024)), (1, .int x1), (2, .int x2), (4, .int v6)]) rfl rfl ?_
      exact t_e_Sleep_begin_44   hD
def e_Sleep_goTill_119 (n : Nat) (P : Nat → Nat → Nat) (F : Nat → Nat → Int32) (A : Nat → Nat → Nat → Int32) (J : Nat → Nat → Nat → Int64) : Option (Unit × (Nat → Nat → Nat) × (Nat → Nat → Int32) × (Nat → Nat → Nat → Int32) × (Nat → Nat → Nat → Int64)) :=
    (e_Sleep_wakeUp n P F A J).bind fun (_, P22, F23, A24, J25) =>
    some ((), P22, F23, A24, J25)
set_option maxRecDepth 10000 in
theorem t_e_Sleep_goTill_119 (ht : ∀ ci k, t.1 ci k = k_ty ci k) {n : Nat}  {P : Nat → Nat → Nat} {F : Nat → Nat → Int32} {A : Nat → Nat → Nat → Int32} {J : Nat → Nat → Nat → Int64}   {w : Unit × (Nat → Nat → Nat) × (Nat → Nat → Int32) × (Nat → Nat → Nat → Int32) × (Nat → Nat → Nat → Int64)} : e_Sleep_goTill_119 n P F A J = some w → k_run t lg (d + 4) 75 119 [(0, .ref (36 * 1024))] [] (c_h c B P F A J) (none, c_h c B w.2.1 w.2.2.1 w.2.2.2.1 w.2.2.2.2) := by
  intro hD
  unfold e_Sleep_goTill_119 at hD
  refine k_runB (pc' := 120) (loc' := [(0, .ref (36 * 1024))]) (st' := [.ref (36 * 1024)]) 1 rfl ?_
  obtain ⟨⟨v21, P22, F23, A24, J25⟩, hv21, hD⟩ := Option.bind_eq_some_iff.mp hD
  dsimp only at hD
  refine k_runV rfl rfl rfl (c_get (r := 36) (o := 0) (K := 10) rfl (by decide)) rfl rfl (t_e_Sleep_wakeUp (d := d + 3) hv21) ?_
  cases hD
  exact k_vret rfl rfl
def e_Sleep_goTill_111 (K31 : (Nat → Nat → Nat) → (Nat → Nat → Int32) → (Nat → Nat → Nat → Int32) → (Nat → Nat → Nat → Int64) → Int32 → Int32 → Int32 → Option (Unit × (Nat → Nat → Nat) × (Nat → Nat → Int32) × (Nat → Nat → Nat → Int32) × (Nat → Nat → Nat → Int64))) (n : Nat) (P : Nat → Nat → Nat) (F : Nat → Nat → Int32) (A : Nat → Nat → Nat → Int32) (J : Nat → Nat → Nat → Int64) (x1 : Int32) (x5 : Int32) (s0 : Int32) : Option (Unit × (Nat → Nat → Nat) × (Nat → Nat → Int32) × (Nat → Nat → Nat → Int32) × (Nat → Nat → Nat → Int64)) :=
    K31 P F A J x1 s0 (x5 + 1)
set_option maxRecDepth 10000 in
theorem t_e_Sleep_goTill_111 (ht : ∀ ci k, t.1 ci k = k_ty ci k) {n : Nat} {K31 : (Nat → Nat → Nat) → (Nat → Nat → Int32) → (Nat → Nat → Nat → Int32) → (Nat → Nat → Nat → Int64) → Int32 → Int32 → Int32 → Option (Unit × (Nat → Nat → Nat) × (Nat → Nat → Int32) × (Nat → Nat → Nat → Int32) × (Nat → Nat → Nat → Int64))} (hK31 : ∀ (P : Nat → Nat → Nat) (F : Nat → Nat → Int32) (A : Nat → Nat → Nat → Int32) (J : Nat → Nat → Nat → Int64) (x1 : Int32) (x4 : Int32) (x5 : Int32) (w : Unit × (Nat → Nat → Nat) × (Nat → Nat → Int32) × (Nat → Nat → Nat → Int32) × (Nat → Nat → Nat → Int64)), K31 P F A J x1 x4 x5 = some w → k_run t lg (d + 4) 75 31 [(0, .ref (36 * 1024)), (1, .int x1), (4, .int x4), (5, .int x5)] [] (c_h c B P F A J) (none, c_h c B w.2.1 w.2.2.1 w.2.2.2.1 w.2.2.2.2)) {P : Nat → Nat → Nat} {F : Nat → Nat → Int32} {A : Nat → Nat → Nat → Int32} {J : Nat → Nat → Nat → Int64} {x1 : Int32} {x5 : Int32} {s0 : Int32}  {w : Unit × (Nat → Nat → Nat) × (Nat → Nat → Int32) × (Nat → Nat → Nat → Int32) × (Nat → Nat → Nat → Int64)} : e_Sleep_goTill_111 K31 n P F A J x1 x5 s0 = some w → k_run t lg (d + 4) 75 111 [(0, .ref (36 * 1024)), (1, .int x1), (5, .int x5)] [.int s0] (c_h c B P F A J) (none, c_h c B w.2.1 w.2.2.1 w.2.2.2.1 w.2.2.2.2) := by
  intro hD
  unfold e_Sleep_goTill_111 at hD
  refine k_runB (pc' := 31) (loc' := [(0, .ref (36 * 1024)), (1, .int x1), (4, .int s0), (5, .int (x5 + 1))]) (st' := []) 3 rfl ?_
  refine k_wk [0, 1, 4, 5] (loc' := [(0, .ref (36 * 1024)), (1, .int x1), (4, .int s0), (5, .int (x5 + 1))]) rfl rfl ?_
  exact hK31 _ _ _ _ _ _ _ _  hD
def e_Sleep_goTill_96 (K31 : (Nat → Nat → Nat) → (Nat → Nat → Int32) → (Nat → Nat → Nat → Int32) → (Nat → Nat → Nat → Int64) → Int32 → Int32 → Int32 → Option (Unit × (Nat → Nat → Nat) × (Nat → Nat → Int32) × (Nat → Nat → Nat → Int32) × (Nat → Nat → Nat → Int64))) (n : Nat) (P : Nat → Nat → Nat) (F : Nat → Nat → Int32) (A : Nat → Nat → Nat → Int32) (J : Nat → Nat → Nat → Int64) (x1 : Int32) (x4 : Int32) (x5 : Int32) : Option (Unit × (Nat → Nat → Nat) × (Nat → Nat → Int32) × (Nat → Nat → Nat → Int32) × (Nat → Nat → Nat → Int64)) :=
    cond (g_cnd .ge x4 x1)
    (e_Sleep_goTill_111 K31 n P F A J x1 x5 1000000)
    ((e_Sleep_nextMinute n P F A J).bind fun (v37, P38, F39, A40, J41) =>
    e_Sleep_goTill_111 K31 n P38 F39 A40 J41 x1 x5 v37)
set_option maxRecDepth 10000 in
theorem t_e_Sleep_goTill_96 (ht : ∀ ci k, t.1 ci k = k_ty ci k) {n : Nat} {K31 : (Nat → Nat → Nat) → (Nat → Nat → Int32) → (Nat → Nat → Nat → Int32) → (Nat → Nat → Nat → Int64) → Int32 → Int32 → Int32 → Option (Unit × (Nat → Nat → Nat) × (Nat → Nat → Int32) × (Nat → Nat → Nat → Int32) × (Nat → Nat → Nat → Int64))} (hK31 : ∀ (P : Nat → Nat → Nat) (F : Nat → Nat → Int32) (A : Nat → Nat → Nat → Int32) (J : Nat → Nat → Nat → Int64) (x1 : Int32) (x4 : Int32) (x5 : Int32) (w : Unit × (Nat → Nat → Nat) × (Nat → Nat → Int32) × (Nat → Nat → Nat → Int32) × (Nat → Nat → Nat → Int64)), K31 P F A J x1 x4 x5 = some w → k_run t lg (d + 4) 75 31 [(0, .ref (36 * 1024)), (1, .int x1), (4, .int x4), (5, .int x5)] [] (c_h c B P F A J) (none, c_h c B w.2.1 w.2.2.1 w.2.2.2.1 w.2.2.2.2)) {P : Nat → Nat → Nat} {F : Nat → Nat → Int32} {A : Nat → Nat → Nat → Int32} {J : Nat → Nat → Nat → Int64} {x1 : Int32} {x4 : Int32} {x5 : Int32}  {w : Unit × (Nat → Nat → Nat) × (Nat → Nat → Int32) × (Nat → Nat → Nat → Int32) × (Nat → Nat → Nat → Int64)} : e_Sleep_goTill_96 K31 n P F A J x1 x4 x5 = some w → k_run t lg (d + 4) 75 96 [(0, .ref (36 * 1024)), (1, .int x1), (4, .int x4), (5, .int x5)] [] (c_h c B P F A J) (none, c_h c B w.2.1 w.2.2.1 w.2.2.2.1 w.2.2.2.2) := by
  intro hD
  unfold e_Sleep_goTill_96 at hD
  refine k_runB (pc' := 99) (loc' := [(0, .ref (36 * 1024)), (1, .int x1), (4, .int x4), (5, .int x5)]) (st' := [.int x1, .int x4]) 2 rfl ?_
  refine k_ic rfl (fun c99_35 => ?_) (fun c99_35 => ?_)
  · rw [c99_35, cond_true] at hD
    refine k_runB (pc' := 111) (loc' := [(0, .ref (36 * 1024)), (1, .int x1), (4, .int x4), (5, .int x5)]) (st' := [.int 1000000]) 1 rfl ?_
    refine k_wk [0, 1, 5] (loc' := [(0, .ref (36 * 1024)), (1, .int x1), (5, .int x5)]) rfl rfl ?_
    exact t_e_Sleep_goTill_111 ht hK31  hD
  · rw [c99_35, cond_false] at hD
    refine k_runB (pc' := 103) (loc' := [(0, .ref (36 * 1024)), (1, .int x1), (4, .int x4), (5, .int x5)]) (st' := [.ref (36 * 1024)]) 1 rfl ?_
    obtain ⟨⟨v37, P38, F39, A40, J41⟩, hv37, hD⟩ := Option.bind_eq_some_iff.mp hD
    dsimp only at hD
    refine k_runV rfl rfl rfl (c_get (r := 36) (o := 0) (K := 10) rfl (by decide)) rfl rfl (t_e_Sleep_nextMinute (d := d + 3) hv37) ?_
    refine k_runB (pc' := 111) (loc' := [(0, .ref (36 * 1024)), (1, .int x1), (4, .int x4), (5, .int x5)]) (st' := [.int v37]) 1 rfl ?_
    refine k_wk [0, 1, 5] (loc' := [(0, .ref (36 * 1024)), (1, .int x1), (5, .int x5)]) rfl rfl ?_
    exact t_e_Sleep_goTill_111 ht hK31  hD
def e_Sleep_goTill_90 (K31 : (Nat → Nat → Nat) → (Nat → Nat → Int32) → (Nat → Nat → Nat → Int32) → (Nat → Nat → Nat → Int64) → Int32 → Int32 → Int32 → Option (Unit × (Nat → Nat → Nat) × (Nat → Nat → Int32) × (Nat → Nat → Nat → Int32) × (Nat → Nat → Nat → Int64))) (K52 : (Nat → Nat → Nat) → (Nat → Nat → Int32) → (Nat → Nat → Nat → Int32) → (Nat → Nat → Nat → Int64) → Int32 → Int32 → Int32 → Int32 → Option (Unit × (Nat → Nat → Nat) × (Nat → Nat → Int32) × (Nat → Nat → Nat → Int32) × (Nat → Nat → Nat → Int64))) (n : Nat) (P : Nat → Nat → Nat) (F : Nat → Nat → Int32) (A : Nat → Nat → Nat → Int32) (J : Nat → Nat → Nat → Int64) (x1 : Int32) (x4 : Int32) (x5 : Int32) (x6 : Int32) : Option (Unit × (Nat → Nat → Nat) × (Nat → Nat → Int32) × (Nat → Nat → Nat → Int32) × (Nat → Nat → Nat → Int64)) :=
    K52 P F A J x1 x4 x5 (x6 + 1)
set_option maxRecDepth 10000 in
theorem t_e_Sleep_goTill_90 (ht : ∀ ci k, t.1 ci k = k_ty ci k) {n : Nat} {K31 : (Nat → Nat → Nat) → (Nat → Nat → Int32) → (Nat → Nat → Nat → Int32) → (Nat → Nat → Nat → Int64) → Int32 → Int32 → Int32 → Option (Unit × (Nat → Nat → Nat) × (Nat → Nat → Int32) × (Nat → Nat → Nat → Int32) × (Nat → Nat → Nat → Int64))} {K52 : (Nat → Nat → Nat) → (Nat → Nat → Int32) → (Nat → Nat → Nat → Int32) → (Nat → Nat → Nat → Int64) → Int32 → Int32 → Int32 → Int32 → Option (Unit × (Nat → Nat → Nat) × (Nat → Nat → Int32) × (Nat → Nat → Nat → Int32) × (Nat → Nat → Nat → Int64))} (hK31 : ∀ (P : Nat → Nat → Nat) (F : Nat → Nat → Int32) (A : Nat → Nat → Nat → Int32) (J : Nat → Nat → Nat → Int64) (x1 : Int32) (x4 : Int32) (x5 : Int32) (w : Unit × (Nat → Nat → Nat) × (Nat → Nat → Int32) × (Nat → Nat → Nat → Int32) × (Nat → Nat → Nat → Int64)), K31 P F A J x1 x4 x5 = some w → k_run t lg (d + 4) 75 31 [(0, .ref (36 * 1024)), (1, .int x1), (4, .int x4), (5, .int x5)] [] (c_h c B P F A J) (none, c_h c B w.2.1 w.2.2.1 w.2.2.2.1 w.2.2.2.2)) (hK52 : ∀ (P : Nat → Nat → Nat) (F : Nat → Nat → Int32) (A : Nat → Nat → Nat → Int32) (J : Nat → Nat → Nat → Int64) (x1 : Int32) (x4 : Int32) (x5 : Int32) (x6 : Int32) (w : Unit × (Nat → Nat → Nat) × (Nat → Nat → Int32) × (Nat → Nat → Nat → Int32) × (Nat → Nat → Nat → Int64)), K52 P F A J x1 x4 x5 x6 = some w → k_run t lg (d + 4) 75 52 [(0, .ref (36 * 1024)), (1, .int x1), (4, .int x4), (5, .int x5), (6, .int x6)] [] (c_h c B P F A J) (none, c_h c B w.2.1 w.2.2.1 w.2.2.2.1 w.2.2.2.2)) {P : Nat → Nat → Nat} {F : Nat → Nat → Int32} {A : Nat → Nat → Nat → Int32} {J : Nat → Nat → Nat → Int64} {x1 : Int32} {x4 : Int32} {x5 : Int32} {x6 : Int32}  {w : Unit × (Nat → Nat → Nat) × (Nat → Nat → Int32) × (Nat → Nat → Nat → Int32) × (Nat → Nat → Nat → Int64)} : e_Sleep_goTill_90 K31 K52 n P F A J x1 x4 x5 x6 = some w → k_run t lg (d + 4) 75 90 [(0, .ref (36 * 1024)), (1, .int x1), (4, .int x4), (5, .int x5), (6, .int x6)] [] (c_h c B P F A J) (none, c_h c B w.2.1 w.2.2.1 w.2.2.2.1 w.2.2.2.2) := by
  intro hD
  unfold e_Sleep_goTill_90 at hD
  refine k_runB (pc' := 52) (loc' := [(0, .ref (36 * 1024)), (1, .int x1), (4, .int x4), (5, .int x5), (6, .int (x6 + 1))]) (st' := []) 2 rfl ?_
  refine k_wk [0, 1, 4, 5, 6] (loc' := [(0, .ref (36 * 1024)), (1, .int x1), (4, .int x4), (5, .int x5), (6, .int (x6 + 1))]) rfl rfl ?_
  exact hK52 _ _ _ _ _ _ _ _ _  hD
def e_Sleep_goTill_52 (K31 : (Nat → Nat → Nat) → (Nat → Nat → Int32) → (Nat → Nat → Nat → Int32) → (Nat → Nat → Nat → Int64) → Int32 → Int32 → Int32 → Option (Unit × (Nat → Nat → Nat) × (Nat → Nat → Int32) × (Nat → Nat → Nat → Int32) × (Nat → Nat → Nat → Int64))) : Nat → (Nat → Nat → Nat) → (Nat → Nat → Int32) → (Nat → Nat → Nat → Int32) → (Nat → Nat → Nat → Int64) → Int32 → Int32 → Int32 → Int32 → Option (Unit × (Nat → Nat → Nat) × (Nat → Nat → Int32) × (Nat → Nat → Nat → Int32) × (Nat → Nat → Nat → Int64))
  | 0, _, _, _, _, _, _, _, _ => none
  | n + 1, P, F, A, J, x1, x4, x5, x6 => (c_chk 6 (P 36 8)).bind fun q26 =>
    cond (g_cnd .ge x6 (F q26 17))
    (e_Sleep_goTill_96 K31 n P F A J x1 x4 x5)
    (cond (g_cnd .ge x4 x1)
    (e_Sleep_goTill_96 K31 n P F A J x1 x4 x5)
    ((m_ld (A 36 3) 6 x6).bind fun v29 =>
    cond (g_cnd .ne v29 x4)
    (e_Sleep_goTill_90 K31 (e_Sleep_goTill_52 K31 n) n P F A J x1 x4 x5 x6)
    ((e_Sleep_begin n P F A J x6 x4).bind fun (_, P32, F33, A34, J35) =>
    (e_Sleep_goTill_52 K31 n) P32 F33 A34 J35 x1 x4 x5 (x6 + 1))))
set_option maxRecDepth 10000 in
theorem t_e_Sleep_goTill_52 (ht : ∀ ci k, t.1 ci k = k_ty ci k) {n : Nat} {K31 : (Nat → Nat → Nat) → (Nat → Nat → Int32) → (Nat → Nat → Nat → Int32) → (Nat → Nat → Nat → Int64) → Int32 → Int32 → Int32 → Option (Unit × (Nat → Nat → Nat) × (Nat → Nat → Int32) × (Nat → Nat → Nat → Int32) × (Nat → Nat → Nat → Int64))} (hK31 : ∀ (P : Nat → Nat → Nat) (F : Nat → Nat → Int32) (A : Nat → Nat → Nat → Int32) (J : Nat → Nat → Nat → Int64) (x1 : Int32) (x4 : Int32) (x5 : Int32) (w : Unit × (Nat → Nat → Nat) × (Nat → Nat → Int32) × (Nat → Nat → Nat → Int32) × (Nat → Nat → Nat → Int64)), K31 P F A J x1 x4 x5 = some w → k_run t lg (d + 4) 75 31 [(0, .ref (36 * 1024)), (1, .int x1), (4, .int x4), (5, .int x5)] [] (c_h c B P F A J) (none, c_h c B w.2.1 w.2.2.1 w.2.2.2.1 w.2.2.2.2)) {P : Nat → Nat → Nat} {F : Nat → Nat → Int32} {A : Nat → Nat → Nat → Int32} {J : Nat → Nat → Nat → Int64} {x1 : Int32} {x4 : Int32} {x5 : Int32} {x6 : Int32}  {w : Unit × (Nat → Nat → Nat) × (Nat → Nat → Int32) × (Nat → Nat → Nat → Int32) × (Nat → Nat → Nat → Int64)} : e_Sleep_goTill_52 K31 n P F A J x1 x4 x5 x6 = some w → k_run t lg (d + 4) 75 52 [(0, .ref (36 * 1024)), (1, .int x1), (4, .int x4), (5, .int x5), (6, .int x6)] [] (c_h c B P F A J) (none, c_h c B w.2.1 w.2.2.1 w.2.2.2.1 w.2.2.2.2) := by
  induction n generalizing P F A J x1 x4 x5 x6 w with
  | zero => intro hD; cases hD
  | succ n ih =>
    intro hD
    have hK52 : ∀ (P : Nat → Nat → Nat) (F : Nat → Nat → Int32) (A : Nat → Nat → Nat → Int32) (J : Nat → Nat → Nat → Int64) (x1 : Int32) (x4 : Int32) (x5 : Int32) (x6 : Int32) (w : Unit × (Nat → Nat → Nat) × (Nat → Nat → Int32) × (Nat → Nat → Nat → Int32) × (Nat → Nat → Nat → Int64)), e_Sleep_goTill_52 K31 n P F A J x1 x4 x5 x6 = some w → k_run t lg (d + 4) 75 52 [(0, .ref (36 * 1024)), (1, .int x1), (4, .int x4), (5, .int x5), (6, .int x6)] [] (c_h c B P F A J) (none, c_h c B w.2.1 w.2.2.1 w.2.2.2.1 w.2.2.2.2) := fun _ _ _ _ _ _ _ _ _  h => ih  h
    unfold e_Sleep_goTill_52 at hD
    refine k_runB (pc' := 55) (loc' := [(0, .ref (36 * 1024)), (1, .int x1), (4, .int x4), (5, .int x5), (6, .int x6)]) (st' := [.ref (36 * 1024), .int x6]) 2 rfl ?_
    obtain ⟨q26, hq26, hD⟩ := Option.bind_eq_some_iff.mp hD
    refine k_gq 36 0 (K := 10) (K2 := 6) (key := 8) rfl rfl rfl rfl rfl hq26 (fun kq26 => ?_)
    refine k_gf q26 0 (K := 6) kq26 rfl rfl rfl rfl ?_
    refine k_ic rfl (fun c61_26 => ?_) (fun c61_26 => ?_)
    · rw [c61_26, cond_true] at hD
      refine k_wk [0, 1, 4, 5] (loc' := [(0, .ref (36 * 1024)), (1, .int x1), (4, .int x4), (5, .int x5)]) rfl rfl ?_
      exact t_e_Sleep_goTill_96 ht hK31  hD
    · rw [c61_26, cond_false] at hD
      refine k_runB (pc' := 67) (loc' := [(0, .ref (36 * 1024)), (1, .int x1), (4, .int x4), (5, .int x5), (6, .int x6)]) (st' := [.int x1, .int x4]) 2 rfl ?_
      refine k_ic rfl (fun c67_27 => ?_) (fun c67_27 => ?_)
      · rw [c67_27, cond_true] at hD
        refine k_wk [0, 1, 4, 5] (loc' := [(0, .ref (36 * 1024)), (1, .int x1), (4, .int x4), (5, .int x5)]) rfl rfl ?_
        exact t_e_Sleep_goTill_96 ht hK31  hD
      · rw [c67_27, cond_false] at hD
        refine k_runB (pc' := 71) (loc' := [(0, .ref (36 * 1024)), (1, .int x1), (4, .int x4), (5, .int x5), (6, .int x6)]) (st' := [.ref (36 * 1024)]) 1 rfl ?_
        refine k_gf 36 0 (K := 10) rfl rfl rfl rfl rfl ?_
        refine k_runB (pc' := 76) (loc' := [(0, .ref (36 * 1024)), (1, .int x1), (4, .int x4), (5, .int x5), (6, .int x6)]) (st' := [.int x6, .ref (36 * 1024 + 3)]) 1 rfl ?_
        obtain ⟨v29, hv29, hD⟩ := Option.bind_eq_some_iff.mp hD
        refine k_ldI rfl (c_get (r := 36) (o := 3) (K := 10) rfl (by decide)) hv29 ?_
        refine k_runB (pc' := 79) (loc' := [(0, .ref (36 * 1024)), (1, .int x1), (4, .int x4), (5, .int x5), (6, .int x6)]) (st' := [.int x4, .int v29]) 1 rfl ?_
        refine k_ic rfl (fun c79_29 => ?_) (fun c79_29 => ?_)
        · rw [c79_29, cond_true] at hD
          refine k_wk [0, 1, 4, 5, 6] (loc' := [(0, .ref (36 * 1024)), (1, .int x1), (4, .int x4), (5, .int x5), (6, .int x6)]) rfl rfl ?_
          exact t_e_Sleep_goTill_90 ht hK31 hK52  hD
        · rw [c79_29, cond_false] at hD
          refine k_runB (pc' := 87) (loc' := [(0, .ref (36 * 1024)), (1, .int x1), (4, .int x4), (5, .int x5), (6, .int x6)]) (st' := [.int x4, .int x6, .ref (36 * 1024)]) 3 rfl ?_
          obtain ⟨⟨v31, P32, F33, A34, J35⟩, hv31, hD⟩ := Option.bind_eq_some_iff.mp hD
          dsimp only at hD
          refine k_runV rfl rfl rfl (c_get (r := 36) (o := 0) (K := 10) rfl (by decide)) rfl rfl (t_e_Sleep_begin (d := d) hv31) ?_
          refine k_runB (pc' := 52) (loc' := [(0, .ref (36 * 1024)), (1, .int x1), (4, .int x4), (5, .int x5), (6, .int (x6 + 1))]) (st' := []) 2 rfl ?_
          refine k_wk [0, 1, 4, 5, 6] (loc' := [(0, .ref (36 * 1024)), (1, .int x1), (4, .int x4), (5, .int x5), (6, .int (x6 + 1))]) rfl rfl ?_
          exact hK52 _ _ _ _ _ _ _ _ _  hD
def e_Sleep_goTill_31 : Nat → (Nat → Nat → Nat) → (Nat → Nat → Int32) → (Nat → Nat → Nat → Int32) → (Nat → Nat → Nat → Int64) → Int32 → Int32 → Int32 → Option (Unit × (Nat → Nat → Nat) × (Nat → Nat → Int32) × (Nat → Nat → Nat → Int32) × (Nat → Nat → Nat → Int64))
  | 0, _, _, _, _, _, _, _ => none
  | n + 1, P, F, A, J, x1, x4, x5 => cond (g_cnd .gt x5 x1)
    (e_Sleep_goTill_119 n P F A J)
    (cond (g_cnd .gt x4 x1)
    (e_Sleep_goTill_119 n P F A J)
    ((e_Sleep_finishAll n P F A J x4).bind fun (_, P17, F18, A19, J20) =>
    e_Sleep_goTill_52 (e_Sleep_goTill_31 n) n P17 F18 A19 J20 x1 x4 x5 0))
set_option maxRecDepth 10000 in
theorem t_e_Sleep_goTill_31 (ht : ∀ ci k, t.1 ci k = k_ty ci k) {n : Nat}  {P : Nat → Nat → Nat} {F : Nat → Nat → Int32} {A : Nat → Nat → Nat → Int32} {J : Nat → Nat → Nat → Int64} {x1 : Int32} {x4 : Int32} {x5 : Int32}  {w : Unit × (Nat → Nat → Nat) × (Nat → Nat → Int32) × (Nat → Nat → Nat → Int32) × (Nat → Nat → Nat → Int64)} : e_Sleep_goTill_31 n P F A J x1 x4 x5 = some w → k_run t lg (d + 4) 75 31 [(0, .ref (36 * 1024)), (1, .int x1), (4, .int x4), (5, .int x5)] [] (c_h c B P F A J) (none, c_h c B w.2.1 w.2.2.1 w.2.2.2.1 w.2.2.2.2) := by
  induction n generalizing P F A J x1 x4 x5 w with
  | zero => intro hD; cases hD
  | succ n ih =>
    intro hD
    have hK31 : ∀ (P : Nat → Nat → Nat) (F : Nat → Nat → Int32) (A : Nat → Nat → Nat → Int32) (J : Nat → Nat → Nat → Int64) (x1 : Int32) (x4 : Int32) (x5 : Int32) (w : Unit × (Nat → Nat → Nat) × (Nat → Nat → Int32) × (Nat → Nat → Nat → Int32) × (Nat → Nat → Nat → Int64)), e_Sleep_goTill_31 n P F A J x1 x4 x5 = some w → k_run t lg (d + 4) 75 31 [(0, .ref (36 * 1024)), (1, .int x1), (4, .int x4), (5, .int x5)] [] (c_h c B P F A J) (none, c_h c B w.2.1 w.2.2.1 w.2.2.2.1 w.2.2.2.2) := fun _ _ _ _ _ _ _ _  h => ih  h
    unfold e_Sleep_goTill_31 at hD
    refine k_runB (pc' := 34) (loc' := [(0, .ref (36 * 1024)), (1, .int x1), (4, .int x4), (5, .int x5)]) (st' := [.int x1, .int x5]) 2 rfl ?_
    refine k_ic rfl (fun c34_13 => ?_) (fun c34_13 => ?_)
    · rw [c34_13, cond_true] at hD
      refine k_wk [0] (loc' := [(0, .ref (36 * 1024))]) rfl rfl ?_
      exact t_e_Sleep_goTill_119 ht   hD
    · rw [c34_13, cond_false] at hD
      refine k_runB (pc' := 40) (loc' := [(0, .ref (36 * 1024)), (1, .int x1), (4, .int x4), (5, .int x5)]) (st' := [.int x1, .int x4]) 2 rfl ?_
      refine k_ic rfl (fun c40_14 => ?_) (fun c40_14 => ?_)
      · rw [c40_14, cond_true] at hD
        refine k_wk [0] (loc' := [(0, .ref (36 * 1024))]) rfl rfl ?_
        exact t_e_Sleep_goTill_119 ht   hD
      · rw [c40_14, cond_false] at hD
        refine k_runB (pc' := 46) (loc' := [(0, .ref (36 * 1024)), (1, .int x1), (4, .int x4), (5, .int x5)]) (st' := [.int x4, .ref (36 * 1024)]) 2 rfl ?_
        obtain ⟨⟨v16, P17, F18, A19, J20⟩, hv16, hD⟩ := Option.bind_eq_some_iff.mp hD
        dsimp only at hD
        refine k_runV rfl rfl rfl (c_get (r := 36) (o := 0) (K := 10) rfl (by decide)) rfl rfl (t_e_Sleep_finishAll (d := d + 2) hv16) ?_
        refine k_runB (pc' := 52) (loc' := [(0, .ref (36 * 1024)), (1, .int x1), (4, .int x4), (5, .int x5), (6, .int 0)]) (st' := []) 2 rfl ?_
        refine k_wk [0, 1, 4, 5, 6] (loc' := [(0, .ref (36 * 1024)), (1, .int x1), (4, .int x4), (5, .int x5), (6, .int 0)]) rfl rfl ?_
        exact t_e_Sleep_goTill_52 ht hK31  hD
/-- SleepWork$Sleep.goTill(ILSleepWork$House;LSleepWork$State;)V  -/
def e_Sleep_goTill (n : Nat) (P : Nat → Nat → Nat) (F : Nat → Nat → Int32) (A : Nat → Nat → Nat → Int32) (J : Nat → Nat → Nat → Int64) (x1 : Int32) (r2 : Nat) (r3 : Nat) : Option (Unit × (Nat → Nat → Nat) × (Nat → Nat → Int32) × (Nat → Nat → Nat → Int32) × (Nat → Nat → Nat → Int64)) :=
  (c_pp P 36 8 r2).bind fun P1 =>
  (c_pp P1 36 9 r3).bind fun P2 =>
  (c_fi A 36 8 6 0).bind fun A3 =>
  (e_Sleep_getUp n P2 F A3 J).bind fun (_, P5, F6, A7, J8) =>
  (e_Sleep_nextMinute n P5 F6 A7 J8).bind fun (v9, P10, F11, A12, J13) =>
  e_Sleep_goTill_31 n P10 F11 A12 J13 x1 v9 0
set_option maxRecDepth 10000 in
theorem t_e_Sleep_goTill (ht : ∀ ci k, t.1 ci k = k_ty ci k) {n : Nat} {P : Nat → Nat → Nat} {F : Nat → Nat → Int32} {A : Nat → Nat → Nat → Int32} {J : Nat → Nat → Nat → Int64} {x1 : Int32} {r2 : Nat} {r3 : Nat} (hr2 : c_kind r2 = 6) (hr3 : c_kind r3 = 2) {w : Unit × (Nat → Nat → Nat) × (Nat → Nat → Int32) × (Nat → Nat → Nat → Int32) × (Nat → Nat → Nat → Int64)} : e_Sleep_goTill n P F A J x1 r2 r3 = some w → k_run t lg (d + 4) 75 0 [(0, .ref (36 * 1024)), (1, .int x1), (2, .ref (r2 * 1024)), (3, .ref (r3 * 1024))] [] (c_h c B P F A J) (none, c_h c B w.2.1 w.2.2.1 w.2.2.2.1 w.2.2.2.2) := by
  intro hD
  unfold e_Sleep_goTill at hD
  refine k_runB (pc' := 2) (loc' := [(0, .ref (36 * 1024)), (1, .int x1), (2, .ref (r2 * 1024)), (3, .ref (r3 * 1024))]) (st' := [.ref (r2 * 1024), .ref (36 * 1024)]) 2 rfl ?_
  obtain ⟨P1, hP1, hD⟩ := Option.bind_eq_some_iff.mp hD
  refine k_cpp 36 0 (K := 10) (key := 8) (C := "SleepWork$House") (q := r2) rfl rfl (ht 6 8) rfl rfl rfl hP1 ?_
  refine k_runB (pc' := 7) (loc' := [(0, .ref (36 * 1024)), (1, .int x1), (2, .ref (r2 * 1024)), (3, .ref (r3 * 1024))]) (st' := [.ref (r3 * 1024), .ref (36 * 1024)]) 2 rfl ?_
  obtain ⟨P2, hP2, hD⟩ := Option.bind_eq_some_iff.mp hD
  refine k_cpp 36 0 (K := 10) (key := 9) (C := "SleepWork$State") (q := r3) rfl rfl (ht 6 9) rfl rfl rfl hP2 ?_
  refine k_runB (pc' := 11) (loc' := [(0, .ref (36 * 1024)), (1, .int x1), (2, .ref (r2 * 1024)), (3, .ref (r3 * 1024))]) (st' := [.ref (36 * 1024)]) 1 rfl ?_
  refine k_gf 36 0 (K := 10) rfl rfl rfl rfl rfl ?_
  refine k_runB (pc' := 15) (loc' := [(0, .ref (36 * 1024)), (1, .int x1), (2, .ref (r2 * 1024)), (3, .ref (r3 * 1024))]) (st' := [.int 0, .ref (36 * 1024 + 8)]) 1 rfl ?_
  obtain ⟨A3, hA3, hD⟩ := Option.bind_eq_some_iff.mp hD
  refine k_runC rfl rfl rfl rfl (t_fillI 36 8 (K := 10) (n := 6) rfl (fun _ => rfl) (fun _ _ => rfl) (by decide) hA3) ?_
  refine k_runB (pc' := 19) (loc' := [(0, .ref (36 * 1024)), (1, .int x1), (2, .ref (r2 * 1024)), (3, .ref (r3 * 1024))]) (st' := [.ref (36 * 1024)]) 1 rfl ?_
  obtain ⟨⟨v4, P5, F6, A7, J8⟩, hv4, hD⟩ := Option.bind_eq_some_iff.mp hD
  dsimp only at hD
  refine k_runV rfl rfl rfl (c_get (r := 36) (o := 0) (K := 10) rfl (by decide)) rfl rfl (t_e_Sleep_getUp (d := d) ht hv4) ?_
  refine k_runB (pc' := 23) (loc' := [(0, .ref (36 * 1024)), (1, .int x1), (2, .ref (r2 * 1024)), (3, .ref (r3 * 1024))]) (st' := [.ref (36 * 1024)]) 1 rfl ?_
  obtain ⟨⟨v9, P10, F11, A12, J13⟩, hv9, hD⟩ := Option.bind_eq_some_iff.mp hD
  dsimp only at hD
  refine k_runV rfl rfl rfl (c_get (r := 36) (o := 0) (K := 10) rfl (by decide)) rfl rfl (t_e_Sleep_nextMinute (d := d + 3) hv9) ?_
  refine k_runB (pc' := 31) (loc' := [(0, .ref (36 * 1024)), (1, .int x1), (2, .ref (r2 * 1024)), (3, .ref (r3 * 1024)), (4, .int v9), (5, .int 0)]) (st' := []) 3 rfl ?_
  refine k_wk [0, 1, 4, 5] (loc' := [(0, .ref (36 * 1024)), (1, .int x1), (4, .int v9), (5, .int 0)]) rfl rfl ?_
  exact t_e_Sleep_goTill_31 ht   hD
/-- SleepWork$Evening.goBy()V  -/
def e_Evening_goBy (n : Nat) (P : Nat → Nat → Nat) (F : Nat → Nat → Int32) (A : Nat → Nat → Nat → Int32) (J : Nat → Nat → Nat → Int64) : Option (Unit × (Nat → Nat → Nat) × (Nat → Nat → Int32) × (Nat → Nat → Nat → Int32) × (Nat → Nat → Nat → Int64)) :=
  (c_chk 6 (P 32 4)).bind fun q1 =>
  (c_chk 6 (P 32 4)).bind fun q2 =>
  (e_Sleep_goTill n P F A J (F q1 18) q2 2).bind fun (_, P4, F5, A6, J7) =>
  (c_pf F5 2 8 ((F5 2 8) + 1)).bind fun F8 =>
  (e_Evening_setStale P4 F8 A6 J7).bind fun (_, P10, F11, A12, J13) =>
  some ((), P10, F11, A12, J13)
set_option maxRecDepth 10000 in
theorem t_e_Evening_goBy (ht : ∀ ci k, t.1 ci k = k_ty ci k) {n : Nat} {P : Nat → Nat → Nat} {F : Nat → Nat → Int32} {A : Nat → Nat → Nat → Int32} {J : Nat → Nat → Nat → Int64}   {w : Unit × (Nat → Nat → Nat) × (Nat → Nat → Int32) × (Nat → Nat → Nat → Int32) × (Nat → Nat → Nat → Int64)} : e_Evening_goBy n P F A J = some w → k_run t lg (d + 5) 4 0 [(0, .ref (32 * 1024))] [] (c_h c B P F A J) (none, c_h c B w.2.1 w.2.2.1 w.2.2.2.1 w.2.2.2.2) := by
  intro hD
  unfold e_Evening_goBy at hD
  refine k_runB (pc' := 1) (loc' := [(0, .ref (32 * 1024))]) (st' := [.ref (32 * 1024)]) 1 rfl ?_
  refine k_gf 32 0 (K := 7) rfl rfl rfl rfl rfl ?_
  refine k_runB (pc' := 5) (loc' := [(0, .ref (32 * 1024))]) (st' := [.ref (32 * 1024), .ref (36 * 1024)]) 1 rfl ?_
  obtain ⟨q1, hq1, hD⟩ := Option.bind_eq_some_iff.mp hD
  refine k_gq 32 0 (K := 7) (K2 := 6) (key := 4) rfl rfl rfl rfl rfl hq1 (fun kq1 => ?_)
  refine k_gf q1 0 (K := 6) kq1 rfl rfl rfl rfl ?_
  refine k_runB (pc' := 12) (loc' := [(0, .ref (32 * 1024))]) (st' := [.ref (32 * 1024), .int (F q1 18), .ref (36 * 1024)]) 1 rfl ?_
  obtain ⟨q2, hq2, hD⟩ := Option.bind_eq_some_iff.mp hD
  refine k_gq 32 0 (K := 7) (K2 := 6) (key := 4) rfl rfl rfl rfl rfl hq2 (fun kq2 => ?_)
  refine k_runB (pc' := 16) (loc' := [(0, .ref (32 * 1024))]) (st' := [.ref (32 * 1024), .ref (q2 * 1024), .int (F q1 18), .ref (36 * 1024)]) 1 rfl ?_
  refine k_gf 32 0 (K := 7) rfl rfl rfl rfl rfl ?_
  obtain ⟨⟨v3, P4, F5, A6, J7⟩, hv3, hD⟩ := Option.bind_eq_some_iff.mp hD
  dsimp only at hD
  refine k_runV rfl rfl rfl (c_get (r := 36) (o := 0) (K := 10) rfl (by decide)) rfl rfl (t_e_Sleep_goTill (d := d) ht kq2 rfl hv3) ?_
  refine k_runB (pc' := 23) (loc' := [(0, .ref (32 * 1024))]) (st' := [.ref (32 * 1024)]) 1 rfl ?_
  refine k_gf 32 0 (K := 7) rfl rfl rfl rfl rfl ?_
  refine k_runB (pc' := 27) (loc' := [(0, .ref (32 * 1024))]) (st' := [.ref (2 * 1024), .ref (2 * 1024)]) 1 rfl ?_
  refine k_gf 2 0 (K := 2) rfl rfl rfl rfl rfl ?_
  refine k_runB (pc' := 32) (loc' := [(0, .ref (32 * 1024))]) (st' := [.int ((F5 2 8) + 1), .ref (2 * 1024)]) 2 rfl ?_
  obtain ⟨F8, hF8, hD⟩ := Option.bind_eq_some_iff.mp hD
  refine k_cpt 2 0 (K := 2) (key := 8) rfl rfl (ht 7 8) rfl rfl rfl hF8 ?_
  refine k_runB (pc' := 36) (loc' := [(0, .ref (32 * 1024))]) (st' := [.ref (32 * 1024)]) 1 rfl ?_
  obtain ⟨⟨v9, P10, F11, A12, J13⟩, hv9, hD⟩ := Option.bind_eq_some_iff.mp hD
  dsimp only at hD
  refine k_runV rfl rfl rfl (c_get (r := 32) (o := 0) (K := 7) rfl (by decide)) rfl rfl (t_e_Evening_setStale (d := d + 4) ht hv9) ?_
  cases hD
  exact k_vret rfl rfl
end MC
end Qz19
section Qz20
/-! the class's methods as functions (printed by wip/dec2.py) -/
section MC
variable {t : gT} {lg : Nat → Nat} {d : Nat} {c : Nat × Nat} {B : Nat → List gE}
def e_House_worth_21 : Nat → (Nat → Nat → Nat) → (Nat → Nat → Int32) → (Nat → Nat → Nat → Int32) → (Nat → Nat → Nat → Int64) → Nat → Nat → Int32 → Int32 → Int32 → Option (Int32)
  | 0, _, _, _, _, _, _, _, _, _ => none
  | n + 1, P, F, A, J, r0, r1, x3, x4, x5 => cond (g_cnd .ge x5 x4)
    (some (x3))
    ((m_ld (A r1 1) 36 x5).bind fun v3 =>
    (m_ld (A r0 7) 36 x5).bind fun v4 =>
    (m_ld (A r0 8) 36 x5).bind fun v5 =>
    (m_ld (A r1 1) 36 x5).bind fun v6 =>
    (m_ld (A r0 9) 36 x5).bind fun v7 =>
    (e_House_worth_21 n) P F A J r0 r1 (x3 + (((if v4 < v3 then v4 else v3) * v5) - ((v6 - (if v4 < v3 then v4 else v3)) * v7))) x4 (x5 + 1))
set_option maxRecDepth 10000 in
theorem t_e_House_worth_21 {n : Nat}  {P : Nat → Nat → Nat} {F : Nat → Nat → Int32} {A : Nat → Nat → Nat → Int32} {J : Nat → Nat → Nat → Int64} {r0 : Nat} {r1 : Nat} {x3 : Int32} {x4 : Int32} {x5 : Int32} (hr0 : c_kind r0 = 6) (hr1 : c_kind r1 = 2) {w : Int32} : e_House_worth_21 n P F A J r0 r1 x3 x4 x5 = some w → k_run t lg (d) 26 21 [(0, .ref (r0 * 1024)), (1, .ref (r1 * 1024)), (3, .int x3), (4, .int x4), (5, .int x5)] [] (c_h c B P F A J) (some (.int w), c_h c B P F A J) := by
  induction n generalizing P F A J r0 r1 x3 x4 x5 w with
  | zero => intro hD; cases hD
  | succ n ih =>
    intro hD
    have hK21 : ∀ (P : Nat → Nat → Nat) (F : Nat → Nat → Int32) (A : Nat → Nat → Nat → Int32) (J : Nat → Nat → Nat → Int64) (r0 : Nat) (r1 : Nat) (x3 : Int32) (x4 : Int32) (x5 : Int32) (w : Int32), c_kind r0 = 6 → c_kind r1 = 2 → e_House_worth_21 n P F A J r0 r1 x3 x4 x5 = some w → k_run t lg (d) 26 21 [(0, .ref (r0 * 1024)), (1, .ref (r1 * 1024)), (3, .int x3), (4, .int x4), (5, .int x5)] [] (c_h c B P F A J) (some (.int w), c_h c B P F A J) := fun _ _ _ _ _ _ _ _ _ _ kr0 kr1 h => ih kr0 kr1 h
    unfold e_House_worth_21 at hD
    refine k_runB (pc' := 25) (loc' := [(0, .ref (r0 * 1024)), (1, .ref (r1 * 1024)), (3, .int x3), (4, .int x4), (5, .int x5)]) (st' := [.int x4, .int x5]) 2 rfl ?_
    refine k_ic rfl (fun c25_1 => ?_) (fun c25_1 => ?_)
    · rw [c25_1, cond_true] at hD
      refine k_runB (pc' := 86) (loc' := [(0, .ref (r0 * 1024)), (1, .ref (r1 * 1024)), (3, .int x3), (4, .int x4), (5, .int x5)]) (st' := [.int x3]) 1 rfl ?_
      cases hD
      exact k_iret rfl rfl
    · rw [c25_1, cond_false] at hD
      refine k_runB (pc' := 29) (loc' := [(0, .ref (r0 * 1024)), (1, .ref (r1 * 1024)), (3, .int x3), (4, .int x4), (5, .int x5)]) (st' := [.ref (r1 * 1024)]) 1 rfl ?_
      refine k_gf r1 0 (K := 2) hr1 rfl rfl rfl rfl ?_
      refine k_runB (pc' := 34) (loc' := [(0, .ref (r0 * 1024)), (1, .ref (r1 * 1024)), (3, .int x3), (4, .int x4), (5, .int x5)]) (st' := [.int x5, .ref (r1 * 1024 + 1)]) 1 rfl ?_
      obtain ⟨v3, hv3, hD⟩ := Option.bind_eq_some_iff.mp hD
      refine k_ldI rfl (c_get (r := r1) (o := 1) (K := 2) hr1 (by decide)) hv3 ?_
      refine k_runB (pc' := 36) (loc' := [(0, .ref (r0 * 1024)), (1, .ref (r1 * 1024)), (3, .int x3), (4, .int x4), (5, .int x5)]) (st' := [.ref (r0 * 1024), .int v3]) 1 rfl ?_
      refine k_gf r0 0 (K := 6) hr0 rfl rfl rfl rfl ?_
      refine k_runB (pc' := 41) (loc' := [(0, .ref (r0 * 1024)), (1, .ref (r1 * 1024)), (3, .int x3), (4, .int x4), (5, .int x5)]) (st' := [.int x5, .ref (r0 * 1024 + 7), .int v3]) 1 rfl ?_
      obtain ⟨v4, hv4, hD⟩ := Option.bind_eq_some_iff.mp hD
      refine k_ldI rfl (c_get (r := r0) (o := 7) (K := 6) hr0 (by decide)) hv4 ?_
      refine k_runB (pc' := 51) (loc' := [(0, .ref (r0 * 1024)), (1, .ref (r1 * 1024)), (3, .int x3), (4, .int x4), (5, .int x5), (6, .int (if v4 < v3 then v4 else v3))]) (st' := [.ref (r0 * 1024), .int (if v4 < v3 then v4 else v3), .int x3]) 5 rfl ?_
      refine k_gf r0 0 (K := 6) hr0 rfl rfl rfl rfl ?_
      refine k_runB (pc' := 56) (loc' := [(0, .ref (r0 * 1024)), (1, .ref (r1 * 1024)), (3, .int x3), (4, .int x4), (5, .int x5), (6, .int (if v4 < v3 then v4 else v3))]) (st' := [.int x5, .ref (r0 * 1024 + 8), .int (if v4 < v3 then v4 else v3), .int x3]) 1 rfl ?_
      obtain ⟨v5, hv5, hD⟩ := Option.bind_eq_some_iff.mp hD
      refine k_ldI rfl (c_get (r := r0) (o := 8) (K := 6) hr0 (by decide)) hv5 ?_
      refine k_runB (pc' := 59) (loc' := [(0, .ref (r0 * 1024)), (1, .ref (r1 * 1024)), (3, .int x3), (4, .int x4), (5, .int x5), (6, .int (if v4 < v3 then v4 else v3))]) (st' := [.ref (r1 * 1024), .int ((if v4 < v3 then v4 else v3) * v5), .int x3]) 2 rfl ?_
      refine k_gf r1 0 (K := 2) hr1 rfl rfl rfl rfl ?_
      refine k_runB (pc' := 64) (loc' := [(0, .ref (r0 * 1024)), (1, .ref (r1 * 1024)), (3, .int x3), (4, .int x4), (5, .int x5), (6, .int (if v4 < v3 then v4 else v3))]) (st' := [.int x5, .ref (r1 * 1024 + 1), .int ((if v4 < v3 then v4 else v3) * v5), .int x3]) 1 rfl ?_
      obtain ⟨v6, hv6, hD⟩ := Option.bind_eq_some_iff.mp hD
      refine k_ldI rfl (c_get (r := r1) (o := 1) (K := 2) hr1 (by decide)) hv6 ?_
      refine k_runB (pc' := 69) (loc' := [(0, .ref (r0 * 1024)), (1, .ref (r1 * 1024)), (3, .int x3), (4, .int x4), (5, .int x5), (6, .int (if v4 < v3 then v4 else v3))]) (st' := [.ref (r0 * 1024), .int (v6 - (if v4 < v3 then v4 else v3)), .int ((if v4 < v3 then v4 else v3) * v5), .int x3]) 3 rfl ?_
      refine k_gf r0 0 (K := 6) hr0 rfl rfl rfl rfl ?_
      refine k_runB (pc' := 74) (loc' := [(0, .ref (r0 * 1024)), (1, .ref (r1 * 1024)), (3, .int x3), (4, .int x4), (5, .int x5), (6, .int (if v4 < v3 then v4 else v3))]) (st' := [.int x5, .ref (r0 * 1024 + 9), .int (v6 - (if v4 < v3 then v4 else v3)), .int ((if v4 < v3 then v4 else v3) * v5), .int x3]) 1 rfl ?_
      obtain ⟨v7, hv7, hD⟩ := Option.bind_eq_some_iff.mp hD
      refine k_ldI rfl (c_get (r := r0) (o := 9) (K := 6) hr0 (by decide)) hv7 ?_
      refine k_runB (pc' := 21) (loc' := [(0, .ref (r0 * 1024)), (1, .ref (r1 * 1024)), (3, .int (x3 + (((if v4 < v3 then v4 else v3) * v5) - ((v6 - (if v4 < v3 then v4 else v3)) * v7)))), (4, .int x4), (5, .int (x5 + 1)), (6, .int (if v4 < v3 then v4 else v3))]) (st' := []) 6 rfl ?_
      refine k_wk [0, 1, 3, 4, 5] (loc' := [(0, .ref (r0 * 1024)), (1, .ref (r1 * 1024)), (3, .int (x3 + (((if v4 < v3 then v4 else v3) * v5) - ((v6 - (if v4 < v3 then v4 else v3)) * v7)))), (4, .int x4), (5, .int (x5 + 1))]) rfl rfl ?_
      exact hK21 _ _ _ _ _ _ _ _ _ _ hr0 hr1 hD
/-- SleepWork$House.worth(LSleepWork$State;I)I  -/
def e_House_worth (n : Nat) (P : Nat → Nat → Nat) (F : Nat → Nat → Int32) (A : Nat → Nat → Nat → Int32) (J : Nat → Nat → Nat → Int64) (r0 : Nat) (r1 : Nat) (x2 : Int32) : Option (Int32) :=
  (m_ld (A r0 5) 6 x2).bind fun v1 =>
  e_House_worth_21 n P F A J r0 r1 0 ((x2 * 6) + v1) (x2 * 6)
set_option maxRecDepth 10000 in
theorem t_e_House_worth {n : Nat} {P : Nat → Nat → Nat} {F : Nat → Nat → Int32} {A : Nat → Nat → Nat → Int32} {J : Nat → Nat → Nat → Int64} {r0 : Nat} {r1 : Nat} {x2 : Int32} (hr0 : c_kind r0 = 6) (hr1 : c_kind r1 = 2) {w : Int32} : e_House_worth n P F A J r0 r1 x2 = some w → k_run t lg (d) 26 0 [(0, .ref (r0 * 1024)), (1, .ref (r1 * 1024)), (2, .int x2)] [] (c_h c B P F A J) (some (.int w), c_h c B P F A J) := by
  intro hD
  unfold e_House_worth at hD
  refine k_runB (pc' := 7) (loc' := [(0, .ref (r0 * 1024)), (1, .ref (r1 * 1024)), (2, .int x2), (3, .int 0)]) (st' := [.ref (r0 * 1024), .int (x2 * 6)]) 6 rfl ?_
  refine k_gf r0 0 (K := 6) hr0 rfl rfl rfl rfl ?_
  refine k_runB (pc' := 11) (loc' := [(0, .ref (r0 * 1024)), (1, .ref (r1 * 1024)), (2, .int x2), (3, .int 0)]) (st' := [.int x2, .ref (r0 * 1024 + 5), .int (x2 * 6)]) 1 rfl ?_
  obtain ⟨v1, hv1, hD⟩ := Option.bind_eq_some_iff.mp hD
  refine k_ldI rfl (c_get (r := r0) (o := 5) (K := 6) hr0 (by decide)) hv1 ?_
  refine k_runB (pc' := 21) (loc' := [(0, .ref (r0 * 1024)), (1, .ref (r1 * 1024)), (2, .int x2), (3, .int 0), (4, .int ((x2 * 6) + v1)), (5, .int (x2 * 6))]) (st' := []) 6 rfl ?_
  refine k_wk [0, 1, 3, 4, 5] (loc' := [(0, .ref (r0 * 1024)), (1, .ref (r1 * 1024)), (3, .int 0), (4, .int ((x2 * 6) + v1)), (5, .int (x2 * 6))]) rfl rfl ?_
  exact t_e_House_worth_21  hr0 hr1 hD
def e_House_worthOfAll_4 : Nat → (Nat → Nat → Nat) → (Nat → Nat → Int32) → (Nat → Nat → Nat → Int32) → (Nat → Nat → Nat → Int64) → Nat → Nat → Int32 → Int32 → Option (Int32)
  | 0, _, _, _, _, _, _, _, _ => none
  | n + 1, P, F, A, J, r0, r1, x2, x3 => cond (g_cnd .ge x3 (F r0 16))
    (some (x2))
    ((e_House_worth n P F A J r0 r1 x3).bind fun v2 =>
    (e_House_worthOfAll_4 n) P F A J r0 r1 (x2 + v2) (x3 + 1))
set_option maxRecDepth 10000 in
theorem t_e_House_worthOfAll_4 {n : Nat}  {P : Nat → Nat → Nat} {F : Nat → Nat → Int32} {A : Nat → Nat → Nat → Int32} {J : Nat → Nat → Nat → Int64} {r0 : Nat} {r1 : Nat} {x2 : Int32} {x3 : Int32} (hr0 : c_kind r0 = 6) (hr1 : c_kind r1 = 2) {w : Int32} : e_House_worthOfAll_4 n P F A J r0 r1 x2 x3 = some w → k_run t lg (d + 1) 27 4 [(0, .ref (r0 * 1024)), (1, .ref (r1 * 1024)), (2, .int x2), (3, .int x3)] [] (c_h c B P F A J) (some (.int w), c_h c B P F A J) := by
  induction n generalizing P F A J r0 r1 x2 x3 w with
  | zero => intro hD; cases hD
  | succ n ih =>
    intro hD
    have hK4 : ∀ (P : Nat → Nat → Nat) (F : Nat → Nat → Int32) (A : Nat → Nat → Nat → Int32) (J : Nat → Nat → Nat → Int64) (r0 : Nat) (r1 : Nat) (x2 : Int32) (x3 : Int32) (w : Int32), c_kind r0 = 6 → c_kind r1 = 2 → e_House_worthOfAll_4 n P F A J r0 r1 x2 x3 = some w → k_run t lg (d + 1) 27 4 [(0, .ref (r0 * 1024)), (1, .ref (r1 * 1024)), (2, .int x2), (3, .int x3)] [] (c_h c B P F A J) (some (.int w), c_h c B P F A J) := fun _ _ _ _ _ _ _ _ _ kr0 kr1 h => ih kr0 kr1 h
    unfold e_House_worthOfAll_4 at hD
    refine k_runB (pc' := 6) (loc' := [(0, .ref (r0 * 1024)), (1, .ref (r1 * 1024)), (2, .int x2), (3, .int x3)]) (st' := [.ref (r0 * 1024), .int x3]) 2 rfl ?_
    refine k_gf r0 0 (K := 6) hr0 rfl rfl rfl rfl ?_
    refine k_ic rfl (fun c9_0 => ?_) (fun c9_0 => ?_)
    · rw [c9_0, cond_true] at hD
      refine k_runB (pc' := 28) (loc' := [(0, .ref (r0 * 1024)), (1, .ref (r1 * 1024)), (2, .int x2), (3, .int x3)]) (st' := [.int x2]) 1 rfl ?_
      cases hD
      exact k_iret rfl rfl
    · rw [c9_0, cond_false] at hD
      refine k_runB (pc' := 16) (loc' := [(0, .ref (r0 * 1024)), (1, .ref (r1 * 1024)), (2, .int x2), (3, .int x3)]) (st' := [.int x3, .ref (r1 * 1024), .ref (r0 * 1024), .int x2]) 4 rfl ?_
      obtain ⟨v2, hv2, hD⟩ := Option.bind_eq_some_iff.mp hD
      refine k_runV rfl rfl rfl (c_get (r := r0) (o := 0) (K := 6) hr0 (by decide)) rfl rfl (t_e_House_worth (d := d) hr0 hr1 hv2) ?_
      refine k_runB (pc' := 4) (loc' := [(0, .ref (r0 * 1024)), (1, .ref (r1 * 1024)), (2, .int (x2 + v2)), (3, .int (x3 + 1))]) (st' := []) 4 rfl ?_
      refine k_wk [0, 1, 2, 3] (loc' := [(0, .ref (r0 * 1024)), (1, .ref (r1 * 1024)), (2, .int (x2 + v2)), (3, .int (x3 + 1))]) rfl rfl ?_
      exact hK4 _ _ _ _ _ _ _ _ _ hr0 hr1 hD
/-- SleepWork$House.worthOfAll(LSleepWork$State;)I  -/
def e_House_worthOfAll (n : Nat) (P : Nat → Nat → Nat) (F : Nat → Nat → Int32) (A : Nat → Nat → Nat → Int32) (J : Nat → Nat → Nat → Int64) (r0 : Nat) (r1 : Nat) : Option (Int32) :=
  e_House_worthOfAll_4 n P F A J r0 r1 0 0
set_option maxRecDepth 10000 in
theorem t_e_House_worthOfAll {n : Nat} {P : Nat → Nat → Nat} {F : Nat → Nat → Int32} {A : Nat → Nat → Nat → Int32} {J : Nat → Nat → Nat → Int64} {r0 : Nat} {r1 : Nat} (hr0 : c_kind r0 = 6) (hr1 : c_kind r1 = 2) {w : Int32} : e_House_worthOfAll n P F A J r0 r1 = some w → k_run t lg (d + 1) 27 0 [(0, .ref (r0 * 1024)), (1, .ref (r1 * 1024))] [] (c_h c B P F A J) (some (.int w), c_h c B P F A J) := by
  intro hD
  unfold e_House_worthOfAll at hD
  refine k_runB (pc' := 4) (loc' := [(0, .ref (r0 * 1024)), (1, .ref (r1 * 1024)), (2, .int 0), (3, .int 0)]) (st' := []) 4 rfl ?_
  refine k_wk [0, 1, 2, 3] (loc' := [(0, .ref (r0 * 1024)), (1, .ref (r1 * 1024)), (2, .int 0), (3, .int 0)]) rfl rfl ?_
  exact t_e_House_worthOfAll_4  hr0 hr1 hD
/-- SleepWork$State.copy(LSleepWork$State;)V  -/
def e_State_copy (P : Nat → Nat → Nat) (F : Nat → Nat → Int32) (A : Nat → Nat → Nat → Int32) (J : Nat → Nat → Nat → Int64) (r0 : Nat) (r1 : Nat) : Option (Unit × (Nat → Nat → Nat) × (Nat → Nat → Int32) × (Nat → Nat → Nat → Int32) × (Nat → Nat → Nat → Int64)) :=
  (c_cp A r1 1 r0 1 36).bind fun A1 =>
  (c_cp A1 r1 2 r0 2 6).bind fun A2 =>
  (c_cp A2 r1 3 r0 3 6).bind fun A3 =>
  (c_cp A3 r1 4 r0 4 6).bind fun A4 =>
  (c_cp A4 r1 5 r0 5 6).bind fun A5 =>
  (c_cp A5 r1 6 r0 6 6).bind fun A6 =>
  (c_cp A6 r1 7 r0 7 6).bind fun A7 =>
  (c_pf F r0 7 (F r1 7)).bind fun F8 =>
  (c_pf F8 r0 8 (F8 r1 8)).bind fun F9 =>
  some ((), P, F9, A7, J)
set_option maxRecDepth 10000 in
theorem t_e_State_copy (ht : ∀ ci k, t.1 ci k = k_ty ci k) {P : Nat → Nat → Nat} {F : Nat → Nat → Int32} {A : Nat → Nat → Nat → Int32} {J : Nat → Nat → Nat → Int64} {r0 : Nat} {r1 : Nat} (hr0 : c_kind r0 = 2) (hr1 : c_kind r1 = 2) {w : Unit × (Nat → Nat → Nat) × (Nat → Nat → Int32) × (Nat → Nat → Nat → Int32) × (Nat → Nat → Nat → Int64)} : e_State_copy P F A J r0 r1 = some w → k_run t lg (d) 85 0 [(0, .ref (r0 * 1024)), (1, .ref (r1 * 1024))] [] (c_h c B P F A J) (none, c_h c B w.2.1 w.2.2.1 w.2.2.2.1 w.2.2.2.2) := by
  intro hD
  unfold e_State_copy at hD
  refine k_runB (pc' := 1) (loc' := [(0, .ref (r0 * 1024)), (1, .ref (r1 * 1024))]) (st' := [.ref (r1 * 1024)]) 1 rfl ?_
  refine k_gf r1 0 (K := 2) hr1 rfl rfl rfl rfl ?_
  refine k_runB (pc' := 6) (loc' := [(0, .ref (r0 * 1024)), (1, .ref (r1 * 1024))]) (st' := [.ref (r0 * 1024), .int 0, .ref (r1 * 1024 + 1)]) 2 rfl ?_
  refine k_gf r0 0 (K := 2) hr0 rfl rfl rfl rfl ?_
  refine k_runB (pc' := 12) (loc' := [(0, .ref (r0 * 1024)), (1, .ref (r1 * 1024))]) (st' := [.int 36, .int 0, .ref (r0 * 1024 + 1), .int 0, .ref (r1 * 1024 + 1)]) 2 rfl ?_
  obtain ⟨A1, hA1, hD⟩ := Option.bind_eq_some_iff.mp hD
  refine k_ccp r1 1 r0 1 (K := 2) (K2 := 2) hr1 hr0 rfl rfl rfl rfl rfl (fun _ => rfl) rfl hA1 ?_
  refine k_runB (pc' := 16) (loc' := [(0, .ref (r0 * 1024)), (1, .ref (r1 * 1024))]) (st' := [.ref (r1 * 1024)]) 1 rfl ?_
  refine k_gf r1 0 (K := 2) hr1 rfl rfl rfl rfl ?_
  refine k_runB (pc' := 21) (loc' := [(0, .ref (r0 * 1024)), (1, .ref (r1 * 1024))]) (st' := [.ref (r0 * 1024), .int 0, .ref (r1 * 1024 + 2)]) 2 rfl ?_
  refine k_gf r0 0 (K := 2) hr0 rfl rfl rfl rfl ?_
  refine k_runB (pc' := 27) (loc' := [(0, .ref (r0 * 1024)), (1, .ref (r1 * 1024))]) (st' := [.int 6, .int 0, .ref (r0 * 1024 + 2), .int 0, .ref (r1 * 1024 + 2)]) 2 rfl ?_
  obtain ⟨A2, hA2, hD⟩ := Option.bind_eq_some_iff.mp hD
  refine k_ccp r1 2 r0 2 (K := 2) (K2 := 2) hr1 hr0 rfl rfl rfl rfl rfl (fun _ => rfl) rfl hA2 ?_
  refine k_runB (pc' := 31) (loc' := [(0, .ref (r0 * 1024)), (1, .ref (r1 * 1024))]) (st' := [.ref (r1 * 1024)]) 1 rfl ?_
  refine k_gf r1 0 (K := 2) hr1 rfl rfl rfl rfl ?_
  refine k_runB (pc' := 36) (loc' := [(0, .ref (r0 * 1024)), (1, .ref (r1 * 1024))]) (st' := [.ref (r0 * 1024), .int 0, .ref (r1 * 1024 + 3)]) 2 rfl ?_
  refine k_gf r0 0 (K := 2) hr0 rfl rfl rfl rfl ?_
  refine k_runB (pc' := 42) (loc' := [(0, .ref (r0 * 1024)), (1, .ref (r1 * 1024))]) (st' := [.int 6, .int 0, .ref (r0 * 1024 + 3), .int 0, .ref (r1 * 1024 + 3)]) 2 rfl ?_
  obtain ⟨A3, hA3, hD⟩ := Option.bind_eq_some_iff.mp hD
  refine k_ccp r1 3 r0 3 (K := 2) (K2 := 2) hr1 hr0 rfl rfl rfl rfl rfl (fun _ => rfl) rfl hA3 ?_
  refine k_runB (pc' := 46) (loc' := [(0, .ref (r0 * 1024)), (1, .ref (r1 * 1024))]) (st' := [.ref (r1 * 1024)]) 1 rfl ?_
  refine k_gf r1 0 (K := 2) hr1 rfl rfl rfl rfl ?_
  refine k_runB (pc' := 51) (loc' := [(0, .ref (r0 * 1024)), (1, .ref (r1 * 1024))]) (st' := [.ref (r0 * 1024), .int 0, .ref (r1 * 1024 + 4)]) 2 rfl ?_
  refine k_gf r0 0 (K := 2) hr0 rfl rfl rfl rfl ?_
  refine k_runB (pc' := 57) (loc' := [(0, .ref (r0 * 1024)), (1, .ref (r1 * 1024))]) (st' := [.int 6, .int 0, .ref (r0 * 1024 + 4), .int 0, .ref (r1 * 1024 + 4)]) 2 rfl ?_
  obtain ⟨A4, hA4, hD⟩ := Option.bind_eq_some_iff.mp hD
  refine k_ccp r1 4 r0 4 (K := 2) (K2 := 2) hr1 hr0 rfl rfl rfl rfl rfl (fun _ => rfl) rfl hA4 ?_
  refine k_runB (pc' := 61) (loc' := [(0, .ref (r0 * 1024)), (1, .ref (r1 * 1024))]) (st' := [.ref (r1 * 1024)]) 1 rfl ?_
  refine k_gf r1 0 (K := 2) hr1 rfl rfl rfl rfl ?_
  refine k_runB (pc' := 66) (loc' := [(0, .ref (r0 * 1024)), (1, .ref (r1 * 1024))]) (st' := [.ref (r0 * 1024), .int 0, .ref (r1 * 1024 + 5)]) 2 rfl ?_
  refine k_gf r0 0 (K := 2) hr0 rfl rfl rfl rfl ?_
  refine k_runB (pc' := 72) (loc' := [(0, .ref (r0 * 1024)), (1, .ref (r1 * 1024))]) (st' := [.int 6, .int 0, .ref (r0 * 1024 + 5), .int 0, .ref (r1 * 1024 + 5)]) 2 rfl ?_
  obtain ⟨A5, hA5, hD⟩ := Option.bind_eq_some_iff.mp hD
  refine k_ccp r1 5 r0 5 (K := 2) (K2 := 2) hr1 hr0 rfl rfl rfl rfl rfl (fun _ => rfl) rfl hA5 ?_
  refine k_runB (pc' := 76) (loc' := [(0, .ref (r0 * 1024)), (1, .ref (r1 * 1024))]) (st' := [.ref (r1 * 1024)]) 1 rfl ?_
  refine k_gf r1 0 (K := 2) hr1 rfl rfl rfl rfl ?_
  refine k_runB (pc' := 81) (loc' := [(0, .ref (r0 * 1024)), (1, .ref (r1 * 1024))]) (st' := [.ref (r0 * 1024), .int 0, .ref (r1 * 1024 + 6)]) 2 rfl ?_
  refine k_gf r0 0 (K := 2) hr0 rfl rfl rfl rfl ?_
  refine k_runB (pc' := 87) (loc' := [(0, .ref (r0 * 1024)), (1, .ref (r1 * 1024))]) (st' := [.int 6, .int 0, .ref (r0 * 1024 + 6), .int 0, .ref (r1 * 1024 + 6)]) 2 rfl ?_
  obtain ⟨A6, hA6, hD⟩ := Option.bind_eq_some_iff.mp hD
  refine k_ccp r1 6 r0 6 (K := 2) (K2 := 2) hr1 hr0 rfl rfl rfl rfl rfl (fun _ => rfl) rfl hA6 ?_
  refine k_runB (pc' := 91) (loc' := [(0, .ref (r0 * 1024)), (1, .ref (r1 * 1024))]) (st' := [.ref (r1 * 1024)]) 1 rfl ?_
  refine k_gf r1 0 (K := 2) hr1 rfl rfl rfl rfl ?_
  refine k_runB (pc' := 96) (loc' := [(0, .ref (r0 * 1024)), (1, .ref (r1 * 1024))]) (st' := [.ref (r0 * 1024), .int 0, .ref (r1 * 1024 + 7)]) 2 rfl ?_
  refine k_gf r0 0 (K := 2) hr0 rfl rfl rfl rfl ?_
  refine k_runB (pc' := 102) (loc' := [(0, .ref (r0 * 1024)), (1, .ref (r1 * 1024))]) (st' := [.int 6, .int 0, .ref (r0 * 1024 + 7), .int 0, .ref (r1 * 1024 + 7)]) 2 rfl ?_
  obtain ⟨A7, hA7, hD⟩ := Option.bind_eq_some_iff.mp hD
  refine k_ccp r1 7 r0 7 (K := 2) (K2 := 2) hr1 hr0 rfl rfl rfl rfl rfl (fun _ => rfl) rfl hA7 ?_
  refine k_runB (pc' := 107) (loc' := [(0, .ref (r0 * 1024)), (1, .ref (r1 * 1024))]) (st' := [.ref (r1 * 1024), .ref (r0 * 1024)]) 2 rfl ?_
  refine k_gf r1 0 (K := 2) hr1 rfl rfl rfl rfl ?_
  obtain ⟨F8, hF8, hD⟩ := Option.bind_eq_some_iff.mp hD
  refine k_cpt r0 0 (K := 2) (key := 7) hr0 rfl (ht 7 7) rfl rfl rfl hF8 ?_
  refine k_runB (pc' := 115) (loc' := [(0, .ref (r0 * 1024)), (1, .ref (r1 * 1024))]) (st' := [.ref (r1 * 1024), .ref (r0 * 1024)]) 2 rfl ?_
  refine k_gf r1 0 (K := 2) hr1 rfl rfl rfl rfl ?_
  obtain ⟨F9, hF9, hD⟩ := Option.bind_eq_some_iff.mp hD
  refine k_cpt r0 0 (K := 2) (key := 8) hr0 rfl (ht 7 8) rfl rfl rfl hF9 ?_
  cases hD
  exact k_vret rfl rfl
/-- SleepWork$Evening.gainOfTrial()I  -/
def e_Evening_gainOfTrial (n : Nat) (P : Nat → Nat → Nat) (F : Nat → Nat → Int32) (A : Nat → Nat → Nat → Int32) (J : Nat → Nat → Nat → Int64) : Option (Int32 × (Nat → Nat → Nat) × (Nat → Nat → Int32) × (Nat → Nat → Nat → Int32) × (Nat → Nat → Nat → Int64)) :=
  (c_chk 6 (P 32 4)).bind fun q1 =>
  (c_chk 6 (P 32 4)).bind fun q2 =>
  (e_Sleep_goTill n P F A J (F q1 18) q2 33).bind fun (_, P4, F5, A6, J7) =>
  (c_chk 6 (P4 32 4)).bind fun q8 =>
  (e_House_worthOfAll n P4 F5 A6 J7 q8 33).bind fun v9 =>
  some (v9 - (F5 32 5), P4, F5, A6, J7)
set_option maxRecDepth 10000 in
theorem t_e_Evening_gainOfTrial (ht : ∀ ci k, t.1 ci k = k_ty ci k) {n : Nat} {P : Nat → Nat → Nat} {F : Nat → Nat → Int32} {A : Nat → Nat → Nat → Int32} {J : Nat → Nat → Nat → Int64}   {w : Int32 × (Nat → Nat → Nat) × (Nat → Nat → Int32) × (Nat → Nat → Nat → Int32) × (Nat → Nat → Nat → Int64)} : e_Evening_gainOfTrial n P F A J = some w → k_run t lg (d + 5) 7 0 [(0, .ref (32 * 1024))] [] (c_h c B P F A J) (some (.int w.1), c_h c B w.2.1 w.2.2.1 w.2.2.2.1 w.2.2.2.2) := by
  intro hD
  unfold e_Evening_gainOfTrial at hD
  refine k_runB (pc' := 1) (loc' := [(0, .ref (32 * 1024))]) (st' := [.ref (32 * 1024)]) 1 rfl ?_
  refine k_gf 32 0 (K := 7) rfl rfl rfl rfl rfl ?_
  refine k_runB (pc' := 5) (loc' := [(0, .ref (32 * 1024))]) (st' := [.ref (32 * 1024), .ref (36 * 1024)]) 1 rfl ?_
  obtain ⟨q1, hq1, hD⟩ := Option.bind_eq_some_iff.mp hD
  refine k_gq 32 0 (K := 7) (K2 := 6) (key := 4) rfl rfl rfl rfl rfl hq1 (fun kq1 => ?_)
  refine k_gf q1 0 (K := 6) kq1 rfl rfl rfl rfl ?_
  refine k_runB (pc' := 12) (loc' := [(0, .ref (32 * 1024))]) (st' := [.ref (32 * 1024), .int (F q1 18), .ref (36 * 1024)]) 1 rfl ?_
  obtain ⟨q2, hq2, hD⟩ := Option.bind_eq_some_iff.mp hD
  refine k_gq 32 0 (K := 7) (K2 := 6) (key := 4) rfl rfl rfl rfl rfl hq2 (fun kq2 => ?_)
  refine k_runB (pc' := 16) (loc' := [(0, .ref (32 * 1024))]) (st' := [.ref (32 * 1024), .ref (q2 * 1024), .int (F q1 18), .ref (36 * 1024)]) 1 rfl ?_
  refine k_gf 32 0 (K := 7) rfl rfl rfl rfl rfl ?_
  obtain ⟨⟨v3, P4, F5, A6, J7⟩, hv3, hD⟩ := Option.bind_eq_some_iff.mp hD
  dsimp only at hD
  refine k_runV rfl rfl rfl (c_get (r := 36) (o := 0) (K := 10) rfl (by decide)) rfl rfl (t_e_Sleep_goTill (d := d) ht kq2 rfl hv3) ?_
  refine k_runB (pc' := 23) (loc' := [(0, .ref (32 * 1024))]) (st' := [.ref (32 * 1024)]) 1 rfl ?_
  obtain ⟨q8, hq8, hD⟩ := Option.bind_eq_some_iff.mp hD
  refine k_gq 32 0 (K := 7) (K2 := 6) (key := 4) rfl rfl rfl rfl rfl hq8 (fun kq8 => ?_)
  refine k_runB (pc' := 27) (loc' := [(0, .ref (32 * 1024))]) (st' := [.ref (32 * 1024), .ref (q8 * 1024)]) 1 rfl ?_
  refine k_gf 32 0 (K := 7) rfl rfl rfl rfl rfl ?_
  obtain ⟨v9, hv9, hD⟩ := Option.bind_eq_some_iff.mp hD
  refine k_runV rfl rfl rfl (c_get (r := q8) (o := 0) (K := 6) kq8 (by decide)) rfl rfl (t_e_House_worthOfAll (d := d + 3) kq8 rfl hv9) ?_
  refine k_runB (pc' := 34) (loc' := [(0, .ref (32 * 1024))]) (st' := [.ref (32 * 1024), .int v9]) 1 rfl ?_
  refine k_gf 32 0 (K := 7) rfl rfl rfl rfl rfl ?_
  refine k_runB (pc' := 38) (loc' := [(0, .ref (32 * 1024))]) (st' := [.int (v9 - (F5 32 5))]) 1 rfl ?_
  cases hD
  exact k_iret rfl rfl
/-- SleepWork$Evening.gainAsItIs()I  -/
def e_Evening_gainAsItIs (n : Nat) (P : Nat → Nat → Nat) (F : Nat → Nat → Int32) (A : Nat → Nat → Nat → Int32) (J : Nat → Nat → Nat → Int64) : Option (Int32 × (Nat → Nat → Nat) × (Nat → Nat → Int32) × (Nat → Nat → Nat → Int32) × (Nat → Nat → Nat → Int64)) :=
  (c_chk 6 (P 32 4)).bind fun q1 =>
  (e_House_worthOfAll n P F A J q1 2).bind fun v2 =>
  (c_pf F 32 5 v2).bind fun F3 =>
  (e_State_copy P F3 A J 33 2).bind fun (_, P5, F6, A7, J8) =>
  (e_Evening_gainOfTrial n P5 F6 A7 J8).bind fun (v9, P10, F11, A12, J13) =>
  some (v9, P10, F11, A12, J13)
set_option maxRecDepth 10000 in
theorem t_e_Evening_gainAsItIs (ht : ∀ ci k, t.1 ci k = k_ty ci k) {n : Nat} {P : Nat → Nat → Nat} {F : Nat → Nat → Int32} {A : Nat → Nat → Nat → Int32} {J : Nat → Nat → Nat → Int64}   {w : Int32 × (Nat → Nat → Nat) × (Nat → Nat → Int32) × (Nat → Nat → Nat → Int32) × (Nat → Nat → Nat → Int64)} : e_Evening_gainAsItIs n P F A J = some w → k_run t lg (d + 6) 5 0 [(0, .ref (32 * 1024))] [] (c_h c B P F A J) (some (.int w.1), c_h c B w.2.1 w.2.2.1 w.2.2.2.1 w.2.2.2.2) := by
  intro hD
  unfold e_Evening_gainAsItIs at hD
  refine k_runB (pc' := 2) (loc' := [(0, .ref (32 * 1024))]) (st' := [.ref (32 * 1024), .ref (32 * 1024)]) 2 rfl ?_
  obtain ⟨q1, hq1, hD⟩ := Option.bind_eq_some_iff.mp hD
  refine k_gq 32 0 (K := 7) (K2 := 6) (key := 4) rfl rfl rfl rfl rfl hq1 (fun kq1 => ?_)
  refine k_runB (pc' := 6) (loc' := [(0, .ref (32 * 1024))]) (st' := [.ref (32 * 1024), .ref (q1 * 1024), .ref (32 * 1024)]) 1 rfl ?_
  refine k_gf 32 0 (K := 7) rfl rfl rfl rfl rfl ?_
  obtain ⟨v2, hv2, hD⟩ := Option.bind_eq_some_iff.mp hD
  refine k_runV rfl rfl rfl (c_get (r := q1) (o := 0) (K := 6) kq1 (by decide)) rfl rfl (t_e_House_worthOfAll (d := d + 4) kq1 rfl hv2) ?_
  obtain ⟨F3, hF3, hD⟩ := Option.bind_eq_some_iff.mp hD
  refine k_cpt 32 0 (K := 7) (key := 5) rfl rfl (ht 0 5) rfl rfl rfl hF3 ?_
  refine k_runB (pc' := 16) (loc' := [(0, .ref (32 * 1024))]) (st' := [.ref (32 * 1024)]) 1 rfl ?_
  refine k_gf 32 0 (K := 7) rfl rfl rfl rfl rfl ?_
  refine k_runB (pc' := 20) (loc' := [(0, .ref (32 * 1024))]) (st' := [.ref (32 * 1024), .ref (33 * 1024)]) 1 rfl ?_
  refine k_gf 32 0 (K := 7) rfl rfl rfl rfl rfl ?_
  obtain ⟨⟨v4, P5, F6, A7, J8⟩, hv4, hD⟩ := Option.bind_eq_some_iff.mp hD
  dsimp only at hD
  refine k_runV rfl rfl rfl (c_get (r := 33) (o := 0) (K := 2) rfl (by decide)) rfl rfl (t_e_State_copy (d := d + 5) ht rfl rfl hv4) ?_
  refine k_runB (pc' := 27) (loc' := [(0, .ref (32 * 1024))]) (st' := [.ref (32 * 1024)]) 1 rfl ?_
  obtain ⟨⟨v9, P10, F11, A12, J13⟩, hv9, hD⟩ := Option.bind_eq_some_iff.mp hD
  dsimp only at hD
  refine k_runV rfl rfl rfl (c_get (r := 32) (o := 0) (K := 7) rfl (by decide)) rfl rfl (t_e_Evening_gainOfTrial (d := d) ht hv9) ?_
  cases hD
  exact k_iret rfl rfl
/-- SleepWork$Evening.strokesTill(II)I  -/
def e_Evening_strokesTill (n : Nat) (P : Nat → Nat → Nat) (F : Nat → Nat → Int32) (A : Nat → Nat → Nat → Int32) (J : Nat → Nat → Nat → Int64) (x1 : Int32) (x2 : Int32) : Option (Int32 × (Nat → Nat → Nat) × (Nat → Nat → Int32) × (Nat → Nat → Nat → Int32) × (Nat → Nat → Nat → Int64)) :=
  (e_State_copy P F A J 33 2).bind fun (_, P2, F3, A4, J5) =>
  (c_chk 6 (P2 32 4)).bind fun q6 =>
  (e_Sleep_goTill n P2 F3 A4 J5 x2 q6 33).bind fun (_, P8, F9, A10, J11) =>
  (m_ld (A10 33 5) 6 x1).bind fun v12 =>
  some (v12, P8, F9, A10, J11)
set_option maxRecDepth 10000 in
theorem t_e_Evening_strokesTill (ht : ∀ ci k, t.1 ci k = k_ty ci k) {n : Nat} {P : Nat → Nat → Nat} {F : Nat → Nat → Int32} {A : Nat → Nat → Nat → Int32} {J : Nat → Nat → Nat → Int64} {x1 : Int32} {x2 : Int32}  {w : Int32 × (Nat → Nat → Nat) × (Nat → Nat → Int32) × (Nat → Nat → Nat → Int32) × (Nat → Nat → Nat → Int64)} : e_Evening_strokesTill n P F A J x1 x2 = some w → k_run t lg (d + 5) 6 0 [(0, .ref (32 * 1024)), (1, .int x1), (2, .int x2)] [] (c_h c B P F A J) (some (.int w.1), c_h c B w.2.1 w.2.2.1 w.2.2.2.1 w.2.2.2.2) := by
  intro hD
  unfold e_Evening_strokesTill at hD
  refine k_runB (pc' := 1) (loc' := [(0, .ref (32 * 1024)), (1, .int x1), (2, .int x2)]) (st' := [.ref (32 * 1024)]) 1 rfl ?_
  refine k_gf 32 0 (K := 7) rfl rfl rfl rfl rfl ?_
  refine k_runB (pc' := 5) (loc' := [(0, .ref (32 * 1024)), (1, .int x1), (2, .int x2)]) (st' := [.ref (32 * 1024), .ref (33 * 1024)]) 1 rfl ?_
  refine k_gf 32 0 (K := 7) rfl rfl rfl rfl rfl ?_
  obtain ⟨⟨v1, P2, F3, A4, J5⟩, hv1, hD⟩ := Option.bind_eq_some_iff.mp hD
  dsimp only at hD
  refine k_runV rfl rfl rfl (c_get (r := 33) (o := 0) (K := 2) rfl (by decide)) rfl rfl (t_e_State_copy (d := d + 4) ht rfl rfl hv1) ?_
  refine k_runB (pc' := 12) (loc' := [(0, .ref (32 * 1024)), (1, .int x1), (2, .int x2)]) (st' := [.ref (32 * 1024)]) 1 rfl ?_
  refine k_gf 32 0 (K := 7) rfl rfl rfl rfl rfl ?_
  refine k_runB (pc' := 17) (loc' := [(0, .ref (32 * 1024)), (1, .int x1), (2, .int x2)]) (st' := [.ref (32 * 1024), .int x2, .ref (36 * 1024)]) 2 rfl ?_
  obtain ⟨q6, hq6, hD⟩ := Option.bind_eq_some_iff.mp hD
  refine k_gq 32 0 (K := 7) (K2 := 6) (key := 4) rfl rfl rfl rfl rfl hq6 (fun kq6 => ?_)
  refine k_runB (pc' := 21) (loc' := [(0, .ref (32 * 1024)), (1, .int x1), (2, .int x2)]) (st' := [.ref (32 * 1024), .ref (q6 * 1024), .int x2, .ref (36 * 1024)]) 1 rfl ?_
  refine k_gf 32 0 (K := 7) rfl rfl rfl rfl rfl ?_
  obtain ⟨⟨v7, P8, F9, A10, J11⟩, hv7, hD⟩ := Option.bind_eq_some_iff.mp hD
  dsimp only at hD
  refine k_runV rfl rfl rfl (c_get (r := 36) (o := 0) (K := 10) rfl (by decide)) rfl rfl (t_e_Sleep_goTill (d := d) ht kq6 rfl hv7) ?_
  refine k_runB (pc' := 28) (loc' := [(0, .ref (32 * 1024)), (1, .int x1), (2, .int x2)]) (st' := [.ref (32 * 1024)]) 1 rfl ?_
  refine k_gf 32 0 (K := 7) rfl rfl rfl rfl rfl ?_
  refine k_gf 33 0 (K := 2) rfl rfl rfl rfl rfl ?_
  refine k_runB (pc' := 35) (loc' := [(0, .ref (32 * 1024)), (1, .int x1), (2, .int x2)]) (st' := [.int x1, .ref (33 * 1024 + 5)]) 1 rfl ?_
  obtain ⟨v12, hv12, hD⟩ := Option.bind_eq_some_iff.mp hD
  refine k_ldI rfl (c_get (r := 33) (o := 5) (K := 2) rfl (by decide)) hv12 ?_
  cases hD
  exact k_iret rfl rfl
def e_Evening_isAnswered_26 (n : Nat) (P : Nat → Nat → Nat) (F : Nat → Nat → Int32) (A : Nat → Nat → Nat → Int32) (J : Nat → Nat → Nat → Int64) (x1 : Int32) (x2 : Int32) (x3 : Int32) : Option (Int32 × (Nat → Nat → Nat) × (Nat → Nat → Int32) × (Nat → Nat → Nat → Int32) × (Nat → Nat → Nat → Int64)) :=
    (c_pf F 32 6 x1).bind fun F4 =>
    (c_pf F4 32 7 x2).bind fun F5 =>
    (c_pf F5 32 8 x3).bind fun F6 =>
    (c_chk 6 (P 32 4)).bind fun q7 =>
    (e_House_worthOfAll n P F6 A J q7 2).bind fun v8 =>
    (c_pf F6 32 5 v8).bind fun F9 =>
    (c_pf F9 32 10 ((-2000000000))).bind fun F10 =>
    some (0, P, F10, A, J)
set_option maxRecDepth 10000 in
theorem t_e_Evening_isAnswered_26 (ht : ∀ ci k, t.1 ci k = k_ty ci k) {n : Nat}  {P : Nat → Nat → Nat} {F : Nat → Nat → Int32} {A : Nat → Nat → Nat → Int32} {J : Nat → Nat → Nat → Int64} {x1 : Int32} {x2 : Int32} {x3 : Int32}  {w : Int32 × (Nat → Nat → Nat) × (Nat → Nat → Int32) × (Nat → Nat → Nat → Int32) × (Nat → Nat → Nat → Int64)} : e_Evening_isAnswered_26 n P F A J x1 x2 x3 = some w → k_run t lg (d + 2) 8 26 [(0, .ref (32 * 1024)), (1, .int x1), (2, .int x2), (3, .int x3)] [] (c_h c B P F A J) (some (.int w.1), c_h c B w.2.1 w.2.2.1 w.2.2.2.1 w.2.2.2.2) := by
  intro hD
  unfold e_Evening_isAnswered_26 at hD
  refine k_runB (pc' := 28) (loc' := [(0, .ref (32 * 1024)), (1, .int x1), (2, .int x2), (3, .int x3)]) (st' := [.int x1, .ref (32 * 1024)]) 2 rfl ?_
  obtain ⟨F4, hF4, hD⟩ := Option.bind_eq_some_iff.mp hD
  refine k_cpt 32 0 (K := 7) (key := 6) rfl rfl (ht 0 6) rfl rfl rfl hF4 ?_
  refine k_runB (pc' := 33) (loc' := [(0, .ref (32 * 1024)), (1, .int x1), (2, .int x2), (3, .int x3)]) (st' := [.int x2, .ref (32 * 1024)]) 2 rfl ?_
  obtain ⟨F5, hF5, hD⟩ := Option.bind_eq_some_iff.mp hD
  refine k_cpt 32 0 (K := 7) (key := 7) rfl rfl (ht 0 7) rfl rfl rfl hF5 ?_
  refine k_runB (pc' := 38) (loc' := [(0, .ref (32 * 1024)), (1, .int x1), (2, .int x2), (3, .int x3)]) (st' := [.int x3, .ref (32 * 1024)]) 2 rfl ?_
  obtain ⟨F6, hF6, hD⟩ := Option.bind_eq_some_iff.mp hD
  refine k_cpt 32 0 (K := 7) (key := 8) rfl rfl (ht 0 8) rfl rfl rfl hF6 ?_
  refine k_runB (pc' := 43) (loc' := [(0, .ref (32 * 1024)), (1, .int x1), (2, .int x2), (3, .int x3)]) (st' := [.ref (32 * 1024), .ref (32 * 1024)]) 2 rfl ?_
  obtain ⟨q7, hq7, hD⟩ := Option.bind_eq_some_iff.mp hD
  refine k_gq 32 0 (K := 7) (K2 := 6) (key := 4) rfl rfl rfl rfl rfl hq7 (fun kq7 => ?_)
  refine k_runB (pc' := 47) (loc' := [(0, .ref (32 * 1024)), (1, .int x1), (2, .int x2), (3, .int x3)]) (st' := [.ref (32 * 1024), .ref (q7 * 1024), .ref (32 * 1024)]) 1 rfl ?_
  refine k_gf 32 0 (K := 7) rfl rfl rfl rfl rfl ?_
  obtain ⟨v8, hv8, hD⟩ := Option.bind_eq_some_iff.mp hD
  refine k_runV rfl rfl rfl (c_get (r := q7) (o := 0) (K := 6) kq7 (by decide)) rfl rfl (t_e_House_worthOfAll (d := d) kq7 rfl hv8) ?_
  obtain ⟨F9, hF9, hD⟩ := Option.bind_eq_some_iff.mp hD
  refine k_cpt 32 0 (K := 7) (key := 5) rfl rfl (ht 0 5) rfl rfl rfl hF9 ?_
  refine k_runB (pc' := 59) (loc' := [(0, .ref (32 * 1024)), (1, .int x1), (2, .int x2), (3, .int x3)]) (st' := [.int ((-2000000000)), .ref (32 * 1024)]) 2 rfl ?_
  obtain ⟨F10, hF10, hD⟩ := Option.bind_eq_some_iff.mp hD
  refine k_cpt 32 0 (K := 7) (key := 10) rfl rfl (ht 0 10) rfl rfl rfl hF10 ?_
  refine k_runB (pc' := 63) (loc' := [(0, .ref (32 * 1024)), (1, .int x1), (2, .int x2), (3, .int x3)]) (st' := [.int 0]) 1 rfl ?_
  cases hD
  exact k_zret rfl rfl (Or.inl rfl)
/-- SleepWork$Evening.isAnswered(III)Z  -/
def e_Evening_isAnswered (n : Nat) (P : Nat → Nat → Nat) (F : Nat → Nat → Int32) (A : Nat → Nat → Nat → Int32) (J : Nat → Nat → Nat → Int64) (x1 : Int32) (x2 : Int32) (x3 : Int32) : Option (Int32 × (Nat → Nat → Nat) × (Nat → Nat → Int32) × (Nat → Nat → Nat → Int32) × (Nat → Nat → Nat → Int64)) :=
  cond (g_cnd .ne (F 32 6) x1)
  (e_Evening_isAnswered_26 n P F A J x1 x2 x3)
  (cond (g_cnd .ne (F 32 7) x2)
  (e_Evening_isAnswered_26 n P F A J x1 x2 x3)
  (cond (g_cnd .ne (F 32 8) x3)
  (e_Evening_isAnswered_26 n P F A J x1 x2 x3)
  (some (1, P, F, A, J))))
set_option maxRecDepth 10000 in
theorem t_e_Evening_isAnswered (ht : ∀ ci k, t.1 ci k = k_ty ci k) {n : Nat} {P : Nat → Nat → Nat} {F : Nat → Nat → Int32} {A : Nat → Nat → Nat → Int32} {J : Nat → Nat → Nat → Int64} {x1 : Int32} {x2 : Int32} {x3 : Int32}  {w : Int32 × (Nat → Nat → Nat) × (Nat → Nat → Int32) × (Nat → Nat → Nat → Int32) × (Nat → Nat → Nat → Int64)} : e_Evening_isAnswered n P F A J x1 x2 x3 = some w → k_run t lg (d + 2) 8 0 [(0, .ref (32 * 1024)), (1, .int x1), (2, .int x2), (3, .int x3)] [] (c_h c B P F A J) (some (.int w.1), c_h c B w.2.1 w.2.2.1 w.2.2.2.1 w.2.2.2.2) := by
  intro hD
  unfold e_Evening_isAnswered at hD
  refine k_runB (pc' := 1) (loc' := [(0, .ref (32 * 1024)), (1, .int x1), (2, .int x2), (3, .int x3)]) (st' := [.ref (32 * 1024)]) 1 rfl ?_
  refine k_gf 32 0 (K := 7) rfl rfl rfl rfl rfl ?_
  refine k_runB (pc' := 5) (loc' := [(0, .ref (32 * 1024)), (1, .int x1), (2, .int x2), (3, .int x3)]) (st' := [.int x1, .int (F 32 6)]) 1 rfl ?_
  refine k_ic rfl (fun c5_0 => ?_) (fun c5_0 => ?_)
  · rw [c5_0, cond_true] at hD
    refine k_wk [0, 1, 2, 3] (loc' := [(0, .ref (32 * 1024)), (1, .int x1), (2, .int x2), (3, .int x3)]) rfl rfl ?_
    exact t_e_Evening_isAnswered_26 ht   hD
  · rw [c5_0, cond_false] at hD
    refine k_runB (pc' := 9) (loc' := [(0, .ref (32 * 1024)), (1, .int x1), (2, .int x2), (3, .int x3)]) (st' := [.ref (32 * 1024)]) 1 rfl ?_
    refine k_gf 32 0 (K := 7) rfl rfl rfl rfl rfl ?_
    refine k_runB (pc' := 13) (loc' := [(0, .ref (32 * 1024)), (1, .int x1), (2, .int x2), (3, .int x3)]) (st' := [.int x2, .int (F 32 7)]) 1 rfl ?_
    refine k_ic rfl (fun c13_1 => ?_) (fun c13_1 => ?_)
    · rw [c13_1, cond_true] at hD
      refine k_wk [0, 1, 2, 3] (loc' := [(0, .ref (32 * 1024)), (1, .int x1), (2, .int x2), (3, .int x3)]) rfl rfl ?_
      exact t_e_Evening_isAnswered_26 ht   hD
    · rw [c13_1, cond_false] at hD
      refine k_runB (pc' := 17) (loc' := [(0, .ref (32 * 1024)), (1, .int x1), (2, .int x2), (3, .int x3)]) (st' := [.ref (32 * 1024)]) 1 rfl ?_
      refine k_gf 32 0 (K := 7) rfl rfl rfl rfl rfl ?_
      refine k_runB (pc' := 21) (loc' := [(0, .ref (32 * 1024)), (1, .int x1), (2, .int x2), (3, .int x3)]) (st' := [.int x3, .int (F 32 8)]) 1 rfl ?_
      refine k_ic rfl (fun c21_2 => ?_) (fun c21_2 => ?_)
      · rw [c21_2, cond_true] at hD
        refine k_wk [0, 1, 2, 3] (loc' := [(0, .ref (32 * 1024)), (1, .int x1), (2, .int x2), (3, .int x3)]) rfl rfl ?_
        exact t_e_Evening_isAnswered_26 ht   hD
      · rw [c21_2, cond_false] at hD
        refine k_runB (pc' := 25) (loc' := [(0, .ref (32 * 1024)), (1, .int x1), (2, .int x2), (3, .int x3)]) (st' := [.int 1]) 1 rfl ?_
        cases hD
        exact k_zret rfl rfl (Or.inr rfl)
/-- SleepWork$Evening.offer(III)V  -/
def e_Evening_offer (P : Nat → Nat → Nat) (F : Nat → Nat → Int32) (A : Nat → Nat → Nat → Int32) (J : Nat → Nat → Nat → Int64) (x1 : Int32) (x2 : Int32) (x3 : Int32) : Option (Unit × (Nat → Nat → Nat) × (Nat → Nat → Int32) × (Nat → Nat → Nat → Int32) × (Nat → Nat → Nat → Int64)) :=
  cond (g_cnd .le x1 (F 32 10))
  (some ((), P, F, A, J))
  ((c_pf F 32 10 x1).bind fun F2 =>
  (c_pf F2 32 12 x2).bind fun F3 =>
  (c_pf F3 32 13 x3).bind fun F4 =>
  some ((), P, F4, A, J))
set_option maxRecDepth 10000 in
theorem t_e_Evening_offer (ht : ∀ ci k, t.1 ci k = k_ty ci k) {P : Nat → Nat → Nat} {F : Nat → Nat → Int32} {A : Nat → Nat → Nat → Int32} {J : Nat → Nat → Nat → Int64} {x1 : Int32} {x2 : Int32} {x3 : Int32}  {w : Unit × (Nat → Nat → Nat) × (Nat → Nat → Int32) × (Nat → Nat → Nat → Int32) × (Nat → Nat → Nat → Int64)} : e_Evening_offer P F A J x1 x2 x3 = some w → k_run t lg (d) 9 0 [(0, .ref (32 * 1024)), (1, .int x1), (2, .int x2), (3, .int x3)] [] (c_h c B P F A J) (none, c_h c B w.2.1 w.2.2.1 w.2.2.2.1 w.2.2.2.2) := by
  intro hD
  unfold e_Evening_offer at hD
  refine k_runB (pc' := 2) (loc' := [(0, .ref (32 * 1024)), (1, .int x1), (2, .int x2), (3, .int x3)]) (st' := [.ref (32 * 1024), .int x1]) 2 rfl ?_
  refine k_gf 32 0 (K := 7) rfl rfl rfl rfl rfl ?_
  refine k_ic rfl (fun c5_0 => ?_) (fun c5_0 => ?_)
  · rw [c5_0, cond_true] at hD
    cases hD
    exact k_vret rfl rfl
  · rw [c5_0, cond_false] at hD
    refine k_runB (pc' := 10) (loc' := [(0, .ref (32 * 1024)), (1, .int x1), (2, .int x2), (3, .int x3)]) (st' := [.int x1, .ref (32 * 1024)]) 2 rfl ?_
    obtain ⟨F2, hF2, hD⟩ := Option.bind_eq_some_iff.mp hD
    refine k_cpt 32 0 (K := 7) (key := 10) rfl rfl (ht 0 10) rfl rfl rfl hF2 ?_
    refine k_runB (pc' := 15) (loc' := [(0, .ref (32 * 1024)), (1, .int x1), (2, .int x2), (3, .int x3)]) (st' := [.int x2, .ref (32 * 1024)]) 2 rfl ?_
    obtain ⟨F3, hF3, hD⟩ := Option.bind_eq_some_iff.mp hD
    refine k_cpt 32 0 (K := 7) (key := 12) rfl rfl (ht 0 12) rfl rfl rfl hF3 ?_
    refine k_runB (pc' := 20) (loc' := [(0, .ref (32 * 1024)), (1, .int x1), (2, .int x2), (3, .int x3)]) (st' := [.int x3, .ref (32 * 1024)]) 2 rfl ?_
    obtain ⟨F4, hF4, hD⟩ := Option.bind_eq_some_iff.mp hD
    refine k_cpt 32 0 (K := 7) (key := 13) rfl rfl (ht 0 13) rfl rfl rfl hF4 ?_
    cases hD
    exact k_vret rfl rfl
/-- SleepWork$House.mayBeLeft(I)Z  -/
def e_House_mayBeLeft (P : Nat → Nat → Nat) (F : Nat → Nat → Int32) (A : Nat → Nat → Nat → Int32) (J : Nat → Nat → Nat → Int64) (r0 : Nat) (x1 : Int32) : Option (Int32) :=
  cond (g_cnd .lt x1 0)
  (some (1))
  ((m_rem x1 6).bind fun v2 =>
  (m_div x1 6).bind fun v3 =>
  (m_ld (A r0 5) 6 v3).bind fun v4 =>
  cond (g_cnd .ge v2 v4)
  (some (0))
  (some (1)))
set_option maxRecDepth 10000 in
theorem t_e_House_mayBeLeft {P : Nat → Nat → Nat} {F : Nat → Nat → Int32} {A : Nat → Nat → Nat → Int32} {J : Nat → Nat → Nat → Int64} {r0 : Nat} {x1 : Int32} (hr0 : c_kind r0 = 6) {w : Int32} : e_House_mayBeLeft P F A J r0 x1 = some w → k_run t lg (d) 24 0 [(0, .ref (r0 * 1024)), (1, .int x1)] [] (c_h c B P F A J) (some (.int w), c_h c B P F A J) := by
  intro hD
  unfold e_House_mayBeLeft at hD
  refine k_runB (pc' := 1) (loc' := [(0, .ref (r0 * 1024)), (1, .int x1)]) (st' := [.int x1]) 1 rfl ?_
  refine k_if rfl (fun c1_0 => ?_) (fun c1_0 => ?_)
  · rw [c1_0, cond_true] at hD
    refine k_runB (pc' := 25) (loc' := [(0, .ref (r0 * 1024)), (1, .int x1)]) (st' := [.int 1]) 2 rfl ?_
    cases hD
    exact k_zret rfl rfl (Or.inr rfl)
  · rw [c1_0, cond_false] at hD
    refine k_runB (pc' := 7) (loc' := [(0, .ref (r0 * 1024)), (1, .int x1)]) (st' := [.int 6, .int x1]) 2 rfl ?_
    obtain ⟨v2, hv2, hD⟩ := Option.bind_eq_some_iff.mp hD
    refine k_rmI rfl hv2 ?_
    refine k_runB (pc' := 9) (loc' := [(0, .ref (r0 * 1024)), (1, .int x1)]) (st' := [.ref (r0 * 1024), .int v2]) 1 rfl ?_
    refine k_gf r0 0 (K := 6) hr0 rfl rfl rfl rfl ?_
    refine k_runB (pc' := 15) (loc' := [(0, .ref (r0 * 1024)), (1, .int x1)]) (st' := [.int 6, .int x1, .ref (r0 * 1024 + 5), .int v2]) 2 rfl ?_
    obtain ⟨v3, hv3, hD⟩ := Option.bind_eq_some_iff.mp hD
    refine k_dvI rfl hv3 ?_
    obtain ⟨v4, hv4, hD⟩ := Option.bind_eq_some_iff.mp hD
    refine k_ldI rfl (c_get (r := r0) (o := 5) (K := 6) hr0 (by decide)) hv4 ?_
    refine k_ic rfl (fun c17_4 => ?_) (fun c17_4 => ?_)
    · rw [c17_4, cond_true] at hD
      refine k_runB (pc' := 25) (loc' := [(0, .ref (r0 * 1024)), (1, .int x1)]) (st' := [.int 0]) 1 rfl ?_
      cases hD
      exact k_zret rfl rfl (Or.inl rfl)
    · rw [c17_4, cond_false] at hD
      refine k_runB (pc' := 25) (loc' := [(0, .ref (r0 * 1024)), (1, .int x1)]) (st' := [.int 1]) 2 rfl ?_
      cases hD
      exact k_zret rfl rfl (Or.inr rfl)
def e_Evening_seekForOne_73 (K13 : (Nat → Nat → Nat) → (Nat → Nat → Int32) → (Nat → Nat → Nat → Int32) → (Nat → Nat → Nat → Int64) → Int32 → Int32 → Option (Unit × (Nat → Nat → Nat) × (Nat → Nat → Int32) × (Nat → Nat → Nat → Int32) × (Nat → Nat → Nat → Int64))) (n : Nat) (P : Nat → Nat → Nat) (F : Nat → Nat → Int32) (A : Nat → Nat → Nat → Int32) (J : Nat → Nat → Nat → Int64) (x1 : Int32) (x2 : Int32) : Option (Unit × (Nat → Nat → Nat) × (Nat → Nat → Int32) × (Nat → Nat → Nat → Int32) × (Nat → Nat → Nat → Int64)) :=
    K13 P F A J x1 (x2 + 1)
set_option maxRecDepth 10000 in
theorem t_e_Evening_seekForOne_73 (ht : ∀ ci k, t.1 ci k = k_ty ci k) {n : Nat} {K13 : (Nat → Nat → Nat) → (Nat → Nat → Int32) → (Nat → Nat → Nat → Int32) → (Nat → Nat → Nat → Int64) → Int32 → Int32 → Option (Unit × (Nat → Nat → Nat) × (Nat → Nat → Int32) × (Nat → Nat → Nat → Int32) × (Nat → Nat → Nat → Int64))} (hK13 : ∀ (P : Nat → Nat → Nat) (F : Nat → Nat → Int32) (A : Nat → Nat → Nat → Int32) (J : Nat → Nat → Nat → Int64) (x1 : Int32) (x2 : Int32) (w : Unit × (Nat → Nat → Nat) × (Nat → Nat → Int32) × (Nat → Nat → Nat → Int32) × (Nat → Nat → Nat → Int64)), K13 P F A J x1 x2 = some w → k_run t lg (d + 6) 10 13 [(0, .ref (32 * 1024)), (1, .int x1), (2, .int x2)] [] (c_h c B P F A J) (none, c_h c B w.2.1 w.2.2.1 w.2.2.2.1 w.2.2.2.2)) {P : Nat → Nat → Nat} {F : Nat → Nat → Int32} {A : Nat → Nat → Nat → Int32} {J : Nat → Nat → Nat → Int64} {x1 : Int32} {x2 : Int32}  {w : Unit × (Nat → Nat → Nat) × (Nat → Nat → Int32) × (Nat → Nat → Nat → Int32) × (Nat → Nat → Nat → Int64)} : e_Evening_seekForOne_73 K13 n P F A J x1 x2 = some w → k_run t lg (d + 6) 10 73 [(0, .ref (32 * 1024)), (1, .int x1), (2, .int x2)] [] (c_h c B P F A J) (none, c_h c B w.2.1 w.2.2.1 w.2.2.2.1 w.2.2.2.2) := by
  intro hD
  unfold e_Evening_seekForOne_73 at hD
  refine k_runB (pc' := 13) (loc' := [(0, .ref (32 * 1024)), (1, .int x1), (2, .int (x2 + 1))]) (st' := []) 2 rfl ?_
  refine k_wk [0, 1, 2] (loc' := [(0, .ref (32 * 1024)), (1, .int x1), (2, .int (x2 + 1))]) rfl rfl ?_
  exact hK13 _ _ _ _ _ _ _  hD
def e_Evening_seekForOne_13 : Nat → (Nat → Nat → Nat) → (Nat → Nat → Int32) → (Nat → Nat → Nat → Int32) → (Nat → Nat → Nat → Int64) → Int32 → Int32 → Option (Unit × (Nat → Nat → Nat) × (Nat → Nat → Int32) × (Nat → Nat → Nat → Int32) × (Nat → Nat → Nat → Int64))
  | 0, _, _, _, _, _, _ => none
  | n + 1, P, F, A, J, x1, x2 => cond (g_cnd .ge x2 36)
    (some ((), P, F, A, J))
    ((c_chk 6 (P 32 4)).bind fun q8 =>
    (e_House_mayBeLeft P F A J q8 x2).bind fun v9 =>
    cond (g_cnd .eq v9 0)
    (e_Evening_seekForOne_73 (e_Evening_seekForOne_13 n) n P F A J x1 x2)
    ((e_State_copy P F A J 33 2).bind fun (_, P12, F13, A14, J15) =>
    (c_st A14 33 3 6 x1 x2).bind fun A16 =>
    (e_Evening_gainOfTrial n P12 F13 A16 J15).bind fun (v17, P18, F19, A20, J21) =>
    (e_Evening_offer P18 F19 A20 J21 v17 x2 ((-1))).bind fun (_, P23, F24, A25, J26) =>
    cond (g_cnd .ge x2 0)
    (e_Evening_seekForOne_73 (e_Evening_seekForOne_13 n) n P23 F24 A25 J26 x1 x2)
    ((c_pf F24 32 11 (F24 32 10)).bind fun F28 =>
    (e_Evening_seekForOne_13 n) P23 F28 A25 J26 x1 (x2 + 1))))
set_option maxRecDepth 10000 in
theorem t_e_Evening_seekForOne_13 (ht : ∀ ci k, t.1 ci k = k_ty ci k) {n : Nat}  {P : Nat → Nat → Nat} {F : Nat → Nat → Int32} {A : Nat → Nat → Nat → Int32} {J : Nat → Nat → Nat → Int64} {x1 : Int32} {x2 : Int32}  {w : Unit × (Nat → Nat → Nat) × (Nat → Nat → Int32) × (Nat → Nat → Nat → Int32) × (Nat → Nat → Nat → Int64)} : e_Evening_seekForOne_13 n P F A J x1 x2 = some w → k_run t lg (d + 6) 10 13 [(0, .ref (32 * 1024)), (1, .int x1), (2, .int x2)] [] (c_h c B P F A J) (none, c_h c B w.2.1 w.2.2.1 w.2.2.2.1 w.2.2.2.2) := by
  induction n generalizing P F A J x1 x2 w with
  | zero => intro hD; cases hD
  | succ n ih =>
    intro hD
    have hK13 : ∀ (P : Nat → Nat → Nat) (F : Nat → Nat → Int32) (A : Nat → Nat → Nat → Int32) (J : Nat → Nat → Nat → Int64) (x1 : Int32) (x2 : Int32) (w : Unit × (Nat → Nat → Nat) × (Nat → Nat → Int32) × (Nat → Nat → Nat → Int32) × (Nat → Nat → Nat → Int64)), e_Evening_seekForOne_13 n P F A J x1 x2 = some w → k_run t lg (d + 6) 10 13 [(0, .ref (32 * 1024)), (1, .int x1), (2, .int x2)] [] (c_h c B P F A J) (none, c_h c B w.2.1 w.2.2.1 w.2.2.2.1 w.2.2.2.2) := fun _ _ _ _ _ _ _  h => ih  h
    unfold e_Evening_seekForOne_13 at hD
    refine k_runB (pc' := 16) (loc' := [(0, .ref (32 * 1024)), (1, .int x1), (2, .int x2)]) (st' := [.int 36, .int x2]) 2 rfl ?_
    refine k_ic rfl (fun c16_6 => ?_) (fun c16_6 => ?_)
    · rw [c16_6, cond_true] at hD
      cases hD
      exact k_vret rfl rfl
    · rw [c16_6, cond_false] at hD
      refine k_runB (pc' := 20) (loc' := [(0, .ref (32 * 1024)), (1, .int x1), (2, .int x2)]) (st' := [.ref (32 * 1024)]) 1 rfl ?_
      obtain ⟨q8, hq8, hD⟩ := Option.bind_eq_some_iff.mp hD
      refine k_gq 32 0 (K := 7) (K2 := 6) (key := 4) rfl rfl rfl rfl rfl hq8 (fun kq8 => ?_)
      refine k_runB (pc' := 24) (loc' := [(0, .ref (32 * 1024)), (1, .int x1), (2, .int x2)]) (st' := [.int x2, .ref (q8 * 1024)]) 1 rfl ?_
      obtain ⟨v9, hv9, hD⟩ := Option.bind_eq_some_iff.mp hD
      refine k_runV rfl rfl rfl (c_get (r := q8) (o := 0) (K := 6) kq8 (by decide)) rfl rfl (t_e_House_mayBeLeft (d := d + 5) kq8 hv9) ?_
      refine k_if rfl (fun c27_9 => ?_) (fun c27_9 => ?_)
      · rw [c27_9, cond_true] at hD
        refine k_wk [0, 1, 2] (loc' := [(0, .ref (32 * 1024)), (1, .int x1), (2, .int x2)]) rfl rfl ?_
        exact t_e_Evening_seekForOne_73 ht hK13  hD
      · rw [c27_9, cond_false] at hD
        refine k_runB (pc' := 31) (loc' := [(0, .ref (32 * 1024)), (1, .int x1), (2, .int x2)]) (st' := [.ref (32 * 1024)]) 1 rfl ?_
        refine k_gf 32 0 (K := 7) rfl rfl rfl rfl rfl ?_
        refine k_runB (pc' := 35) (loc' := [(0, .ref (32 * 1024)), (1, .int x1), (2, .int x2)]) (st' := [.ref (32 * 1024), .ref (33 * 1024)]) 1 rfl ?_
        refine k_gf 32 0 (K := 7) rfl rfl rfl rfl rfl ?_
        obtain ⟨⟨v11, P12, F13, A14, J15⟩, hv11, hD⟩ := Option.bind_eq_some_iff.mp hD
        dsimp only at hD
        refine k_runV rfl rfl rfl (c_get (r := 33) (o := 0) (K := 2) rfl (by decide)) rfl rfl (t_e_State_copy (d := d + 5) ht rfl rfl hv11) ?_
        refine k_runB (pc' := 42) (loc' := [(0, .ref (32 * 1024)), (1, .int x1), (2, .int x2)]) (st' := [.ref (32 * 1024)]) 1 rfl ?_
        refine k_gf 32 0 (K := 7) rfl rfl rfl rfl rfl ?_
        refine k_gf 33 0 (K := 2) rfl rfl rfl rfl rfl ?_
        refine k_runB (pc' := 50) (loc' := [(0, .ref (32 * 1024)), (1, .int x1), (2, .int x2)]) (st' := [.int x2, .int x1, .ref (33 * 1024 + 3)]) 2 rfl ?_
        obtain ⟨A16, hA16, hD⟩ := Option.bind_eq_some_iff.mp hD
        refine k_cstI 33 3 (K := 2) rfl rfl rfl rfl (fun _ => rfl) hA16 ?_
        refine k_runB (pc' := 53) (loc' := [(0, .ref (32 * 1024)), (1, .int x1), (2, .int x2)]) (st' := [.ref (32 * 1024), .ref (32 * 1024)]) 2 rfl ?_
        obtain ⟨⟨v17, P18, F19, A20, J21⟩, hv17, hD⟩ := Option.bind_eq_some_iff.mp hD
        dsimp only at hD
        refine k_runV rfl rfl rfl (c_get (r := 32) (o := 0) (K := 7) rfl (by decide)) rfl rfl (t_e_Evening_gainOfTrial (d := d) ht hv17) ?_
        refine k_runB (pc' := 58) (loc' := [(0, .ref (32 * 1024)), (1, .int x1), (2, .int x2)]) (st' := [.int ((-1)), .int x2, .int v17, .ref (32 * 1024)]) 2 rfl ?_
        obtain ⟨⟨v22, P23, F24, A25, J26⟩, hv22, hD⟩ := Option.bind_eq_some_iff.mp hD
        dsimp only at hD
        refine k_runV rfl rfl rfl (c_get (r := 32) (o := 0) (K := 7) rfl (by decide)) rfl rfl (t_e_Evening_offer (d := d + 5) ht hv22) ?_
        refine k_runB (pc' := 62) (loc' := [(0, .ref (32 * 1024)), (1, .int x1), (2, .int x2)]) (st' := [.int x2]) 1 rfl ?_
        refine k_if rfl (fun c62_26 => ?_) (fun c62_26 => ?_)
        · rw [c62_26, cond_true] at hD
          refine k_wk [0, 1, 2] (loc' := [(0, .ref (32 * 1024)), (1, .int x1), (2, .int x2)]) rfl rfl ?_
          exact t_e_Evening_seekForOne_73 ht hK13  hD
        · rw [c62_26, cond_false] at hD
          refine k_runB (pc' := 67) (loc' := [(0, .ref (32 * 1024)), (1, .int x1), (2, .int x2)]) (st' := [.ref (32 * 1024), .ref (32 * 1024)]) 2 rfl ?_
          refine k_gf 32 0 (K := 7) rfl rfl rfl rfl rfl ?_
          obtain ⟨F28, hF28, hD⟩ := Option.bind_eq_some_iff.mp hD
          refine k_cpt 32 0 (K := 7) (key := 11) rfl rfl (ht 0 11) rfl rfl rfl hF28 ?_
          refine k_runB (pc' := 13) (loc' := [(0, .ref (32 * 1024)), (1, .int x1), (2, .int (x2 + 1))]) (st' := []) 2 rfl ?_
          refine k_wk [0, 1, 2] (loc' := [(0, .ref (32 * 1024)), (1, .int x1), (2, .int (x2 + 1))]) rfl rfl ?_
          exact hK13 _ _ _ _ _ _ _  hD
/-- SleepWork$Evening.seekForOne(I)V  -/
def e_Evening_seekForOne (n : Nat) (P : Nat → Nat → Nat) (F : Nat → Nat → Int32) (A : Nat → Nat → Nat → Int32) (J : Nat → Nat → Nat → Int64) (x1 : Int32) : Option (Unit × (Nat → Nat → Nat) × (Nat → Nat → Int32) × (Nat → Nat → Nat → Int32) × (Nat → Nat → Nat → Int64)) :=
  (e_Evening_isAnswered n P F A J 0 x1 ((-1))).bind fun (v1, P2, F3, A4, J5) =>
  cond (g_cnd .eq v1 0)
  (e_Evening_seekForOne_13 n P2 F3 A4 J5 x1 ((-1)))
  (some ((), P2, F3, A4, J5))
set_option maxRecDepth 10000 in
theorem t_e_Evening_seekForOne (ht : ∀ ci k, t.1 ci k = k_ty ci k) {n : Nat} {P : Nat → Nat → Nat} {F : Nat → Nat → Int32} {A : Nat → Nat → Nat → Int32} {J : Nat → Nat → Nat → Int64} {x1 : Int32}  {w : Unit × (Nat → Nat → Nat) × (Nat → Nat → Int32) × (Nat → Nat → Nat → Int32) × (Nat → Nat → Nat → Int64)} : e_Evening_seekForOne n P F A J x1 = some w → k_run t lg (d + 6) 10 0 [(0, .ref (32 * 1024)), (1, .int x1)] [] (c_h c B P F A J) (none, c_h c B w.2.1 w.2.2.1 w.2.2.2.1 w.2.2.2.2) := by
  intro hD
  unfold e_Evening_seekForOne at hD
  refine k_runB (pc' := 4) (loc' := [(0, .ref (32 * 1024)), (1, .int x1)]) (st' := [.int ((-1)), .int x1, .int 0, .ref (32 * 1024)]) 4 rfl ?_
  obtain ⟨⟨v1, P2, F3, A4, J5⟩, hv1, hD⟩ := Option.bind_eq_some_iff.mp hD
  dsimp only at hD
  refine k_runV rfl rfl rfl (c_get (r := 32) (o := 0) (K := 7) rfl (by decide)) rfl rfl (t_e_Evening_isAnswered (d := d + 3) ht hv1) ?_
  refine k_if rfl (fun c7_5 => ?_) (fun c7_5 => ?_)
  · rw [c7_5, cond_true] at hD
    refine k_runB (pc' := 13) (loc' := [(0, .ref (32 * 1024)), (1, .int x1), (2, .int ((-1)))]) (st' := []) 2 rfl ?_
    refine k_wk [0, 1, 2] (loc' := [(0, .ref (32 * 1024)), (1, .int x1), (2, .int ((-1)))]) rfl rfl ?_
    exact t_e_Evening_seekForOne_13 ht   hD
  · rw [c7_5, cond_false] at hD
    cases hD
    exact k_vret rfl rfl
end MC
end Qz20
section Qz21
/-! the class's methods as functions (printed by wip/dec2.py) -/
section MC
variable {t : gT} {lg : Nat → Nat} {d : Nat} {c : Nat × Nat} {B : Nat → List gE}
def e_Evening_seekForTwo_101 (K13 : (Nat → Nat → Nat) → (Nat → Nat → Int32) → (Nat → Nat → Nat → Int32) → (Nat → Nat → Nat → Int64) → Int32 → Int32 → Int32 → Option (Unit × (Nat → Nat → Nat) × (Nat → Nat → Int32) × (Nat → Nat → Nat → Int32) × (Nat → Nat → Nat → Int64))) (n : Nat) (P : Nat → Nat → Nat) (F : Nat → Nat → Int32) (A : Nat → Nat → Nat → Int32) (J : Nat → Nat → Nat → Int64) (x1 : Int32) (x2 : Int32) (x3 : Int32) : Option (Unit × (Nat → Nat → Nat) × (Nat → Nat → Int32) × (Nat → Nat → Nat → Int32) × (Nat → Nat → Nat → Int64)) :=
    K13 P F A J x1 x2 (x3 + 1)
set_option maxRecDepth 10000 in
theorem t_e_Evening_seekForTwo_101 (ht : ∀ ci k, t.1 ci k = k_ty ci k) {n : Nat} {K13 : (Nat → Nat → Nat) → (Nat → Nat → Int32) → (Nat → Nat → Nat → Int32) → (Nat → Nat → Nat → Int64) → Int32 → Int32 → Int32 → Option (Unit × (Nat → Nat → Nat) × (Nat → Nat → Int32) × (Nat → Nat → Nat → Int32) × (Nat → Nat → Nat → Int64))} (hK13 : ∀ (P : Nat → Nat → Nat) (F : Nat → Nat → Int32) (A : Nat → Nat → Nat → Int32) (J : Nat → Nat → Nat → Int64) (x1 : Int32) (x2 : Int32) (x3 : Int32) (w : Unit × (Nat → Nat → Nat) × (Nat → Nat → Int32) × (Nat → Nat → Nat → Int32) × (Nat → Nat → Nat → Int64)), K13 P F A J x1 x2 x3 = some w → k_run t lg (d + 6) 11 13 [(0, .ref (32 * 1024)), (1, .int x1), (2, .int x2), (3, .int x3)] [] (c_h c B P F A J) (none, c_h c B w.2.1 w.2.2.1 w.2.2.2.1 w.2.2.2.2)) {P : Nat → Nat → Nat} {F : Nat → Nat → Int32} {A : Nat → Nat → Nat → Int32} {J : Nat → Nat → Nat → Int64} {x1 : Int32} {x2 : Int32} {x3 : Int32}  {w : Unit × (Nat → Nat → Nat) × (Nat → Nat → Int32) × (Nat → Nat → Nat → Int32) × (Nat → Nat → Nat → Int64)} : e_Evening_seekForTwo_101 K13 n P F A J x1 x2 x3 = some w → k_run t lg (d + 6) 11 101 [(0, .ref (32 * 1024)), (1, .int x1), (2, .int x2), (3, .int x3)] [] (c_h c B P F A J) (none, c_h c B w.2.1 w.2.2.1 w.2.2.2.1 w.2.2.2.2) := by
  intro hD
  unfold e_Evening_seekForTwo_101 at hD
  refine k_runB (pc' := 13) (loc' := [(0, .ref (32 * 1024)), (1, .int x1), (2, .int x2), (3, .int (x3 + 1))]) (st' := []) 2 rfl ?_
  refine k_wk [0, 1, 2, 3] (loc' := [(0, .ref (32 * 1024)), (1, .int x1), (2, .int x2), (3, .int (x3 + 1))]) rfl rfl ?_
  exact hK13 _ _ _ _ _ _ _ _  hD
def e_Evening_seekForTwo_95 (K13 : (Nat → Nat → Nat) → (Nat → Nat → Int32) → (Nat → Nat → Nat → Int32) → (Nat → Nat → Nat → Int64) → Int32 → Int32 → Int32 → Option (Unit × (Nat → Nat → Nat) × (Nat → Nat → Int32) × (Nat → Nat → Nat → Int32) × (Nat → Nat → Nat → Int64))) (K22 : (Nat → Nat → Nat) → (Nat → Nat → Int32) → (Nat → Nat → Nat → Int32) → (Nat → Nat → Nat → Int64) → Int32 → Int32 → Int32 → Int32 → Option (Unit × (Nat → Nat → Nat) × (Nat → Nat → Int32) × (Nat → Nat → Nat → Int32) × (Nat → Nat → Nat → Int64))) (n : Nat) (P : Nat → Nat → Nat) (F : Nat → Nat → Int32) (A : Nat → Nat → Nat → Int32) (J : Nat → Nat → Nat → Int64) (x1 : Int32) (x2 : Int32) (x3 : Int32) (x4 : Int32) : Option (Unit × (Nat → Nat → Nat) × (Nat → Nat → Int32) × (Nat → Nat → Nat → Int32) × (Nat → Nat → Nat → Int64)) :=
    K22 P F A J x1 x2 x3 (x4 + 1)
set_option maxRecDepth 10000 in
theorem t_e_Evening_seekForTwo_95 (ht : ∀ ci k, t.1 ci k = k_ty ci k) {n : Nat} {K13 : (Nat → Nat → Nat) → (Nat → Nat → Int32) → (Nat → Nat → Nat → Int32) → (Nat → Nat → Nat → Int64) → Int32 → Int32 → Int32 → Option (Unit × (Nat → Nat → Nat) × (Nat → Nat → Int32) × (Nat → Nat → Nat → Int32) × (Nat → Nat → Nat → Int64))} {K22 : (Nat → Nat → Nat) → (Nat → Nat → Int32) → (Nat → Nat → Nat → Int32) → (Nat → Nat → Nat → Int64) → Int32 → Int32 → Int32 → Int32 → Option (Unit × (Nat → Nat → Nat) × (Nat → Nat → Int32) × (Nat → Nat → Nat → Int32) × (Nat → Nat → Nat → Int64))} (hK13 : ∀ (P : Nat → Nat → Nat) (F : Nat → Nat → Int32) (A : Nat → Nat → Nat → Int32) (J : Nat → Nat → Nat → Int64) (x1 : Int32) (x2 : Int32) (x3 : Int32) (w : Unit × (Nat → Nat → Nat) × (Nat → Nat → Int32) × (Nat → Nat → Nat → Int32) × (Nat → Nat → Nat → Int64)), K13 P F A J x1 x2 x3 = some w → k_run t lg (d + 6) 11 13 [(0, .ref (32 * 1024)), (1, .int x1), (2, .int x2), (3, .int x3)] [] (c_h c B P F A J) (none, c_h c B w.2.1 w.2.2.1 w.2.2.2.1 w.2.2.2.2)) (hK22 : ∀ (P : Nat → Nat → Nat) (F : Nat → Nat → Int32) (A : Nat → Nat → Nat → Int32) (J : Nat → Nat → Nat → Int64) (x1 : Int32) (x2 : Int32) (x3 : Int32) (x4 : Int32) (w : Unit × (Nat → Nat → Nat) × (Nat → Nat → Int32) × (Nat → Nat → Nat → Int32) × (Nat → Nat → Nat → Int64)), K22 P F A J x1 x2 x3 x4 = some w → k_run t lg (d + 6) 11 22 [(0, .ref (32 * 1024)), (1, .int x1), (2, .int x2), (3, .int x3), (4, .int x4)] [] (c_h c B P F A J) (none, c_h c B w.2.1 w.2.2.1 w.2.2.2.1 w.2.2.2.2)) {P : Nat → Nat → Nat} {F : Nat → Nat → Int32} {A : Nat → Nat → Nat → Int32} {J : Nat → Nat → Nat → Int64} {x1 : Int32} {x2 : Int32} {x3 : Int32} {x4 : Int32}  {w : Unit × (Nat → Nat → Nat) × (Nat → Nat → Int32) × (Nat → Nat → Nat → Int32) × (Nat → Nat → Nat → Int64)} : e_Evening_seekForTwo_95 K13 K22 n P F A J x1 x2 x3 x4 = some w → k_run t lg (d + 6) 11 95 [(0, .ref (32 * 1024)), (1, .int x1), (2, .int x2), (3, .int x3), (4, .int x4)] [] (c_h c B P F A J) (none, c_h c B w.2.1 w.2.2.1 w.2.2.2.1 w.2.2.2.2) := by
  intro hD
  unfold e_Evening_seekForTwo_95 at hD
  refine k_runB (pc' := 22) (loc' := [(0, .ref (32 * 1024)), (1, .int x1), (2, .int x2), (3, .int x3), (4, .int (x4 + 1))]) (st' := []) 2 rfl ?_
  refine k_wk [0, 1, 2, 3, 4] (loc' := [(0, .ref (32 * 1024)), (1, .int x1), (2, .int x2), (3, .int x3), (4, .int (x4 + 1))]) rfl rfl ?_
  exact hK22 _ _ _ _ _ _ _ _ _  hD
def e_Evening_seekForTwo_22 (K13 : (Nat → Nat → Nat) → (Nat → Nat → Int32) → (Nat → Nat → Nat → Int32) → (Nat → Nat → Nat → Int64) → Int32 → Int32 → Int32 → Option (Unit × (Nat → Nat → Nat) × (Nat → Nat → Int32) × (Nat → Nat → Nat → Int32) × (Nat → Nat → Nat → Int64))) : Nat → (Nat → Nat → Nat) → (Nat → Nat → Int32) → (Nat → Nat → Nat → Int32) → (Nat → Nat → Nat → Int64) → Int32 → Int32 → Int32 → Int32 → Option (Unit × (Nat → Nat → Nat) × (Nat → Nat → Int32) × (Nat → Nat → Nat → Int32) × (Nat → Nat → Nat → Int64))
  | 0, _, _, _, _, _, _, _, _ => none
  | n + 1, P, F, A, J, x1, x2, x3, x4 => cond (g_cnd .ge x4 36)
    (e_Evening_seekForTwo_101 K13 n P F A J x1 x2 x3)
    ((c_chk 6 (P 32 4)).bind fun q9 =>
    (e_House_mayBeLeft P F A J q9 x3).bind fun v10 =>
    cond (g_cnd .eq v10 0)
    (e_Evening_seekForTwo_101 K13 n P F A J x1 x2 x3)
    ((c_chk 6 (P 32 4)).bind fun q12 =>
    (e_House_mayBeLeft P F A J q12 x4).bind fun v13 =>
    cond (g_cnd .eq v13 0)
    (e_Evening_seekForTwo_95 K13 (e_Evening_seekForTwo_22 K13 n) n P F A J x1 x2 x3 x4)
    ((e_State_copy P F A J 33 2).bind fun (_, P16, F17, A18, J19) =>
    (c_st A18 33 3 6 x1 x3).bind fun A20 =>
    (c_st A20 33 3 6 x2 x4).bind fun A21 =>
    (e_Evening_gainOfTrial n P16 F17 A21 J19).bind fun (v22, P23, F24, A25, J26) =>
    (e_Evening_offer P23 F24 A25 J26 v22 x3 x4).bind fun (_, P28, F29, A30, J31) =>
    (e_Evening_seekForTwo_22 K13 n) P28 F29 A30 J31 x1 x2 x3 (x4 + 1))))
set_option maxRecDepth 10000 in
theorem t_e_Evening_seekForTwo_22 (ht : ∀ ci k, t.1 ci k = k_ty ci k) {n : Nat} {K13 : (Nat → Nat → Nat) → (Nat → Nat → Int32) → (Nat → Nat → Nat → Int32) → (Nat → Nat → Nat → Int64) → Int32 → Int32 → Int32 → Option (Unit × (Nat → Nat → Nat) × (Nat → Nat → Int32) × (Nat → Nat → Nat → Int32) × (Nat → Nat → Nat → Int64))} (hK13 : ∀ (P : Nat → Nat → Nat) (F : Nat → Nat → Int32) (A : Nat → Nat → Nat → Int32) (J : Nat → Nat → Nat → Int64) (x1 : Int32) (x2 : Int32) (x3 : Int32) (w : Unit × (Nat → Nat → Nat) × (Nat → Nat → Int32) × (Nat → Nat → Nat → Int32) × (Nat → Nat → Nat → Int64)), K13 P F A J x1 x2 x3 = some w → k_run t lg (d + 6) 11 13 [(0, .ref (32 * 1024)), (1, .int x1), (2, .int x2), (3, .int x3)] [] (c_h c B P F A J) (none, c_h c B w.2.1 w.2.2.1 w.2.2.2.1 w.2.2.2.2)) {P : Nat → Nat → Nat} {F : Nat → Nat → Int32} {A : Nat → Nat → Nat → Int32} {J : Nat → Nat → Nat → Int64} {x1 : Int32} {x2 : Int32} {x3 : Int32} {x4 : Int32}  {w : Unit × (Nat → Nat → Nat) × (Nat → Nat → Int32) × (Nat → Nat → Nat → Int32) × (Nat → Nat → Nat → Int64)} : e_Evening_seekForTwo_22 K13 n P F A J x1 x2 x3 x4 = some w → k_run t lg (d + 6) 11 22 [(0, .ref (32 * 1024)), (1, .int x1), (2, .int x2), (3, .int x3), (4, .int x4)] [] (c_h c B P F A J) (none, c_h c B w.2.1 w.2.2.1 w.2.2.2.1 w.2.2.2.2) := by
  induction n generalizing P F A J x1 x2 x3 x4 w with
  | zero => intro hD; cases hD
  | succ n ih =>
    intro hD
    have hK22 : ∀ (P : Nat → Nat → Nat) (F : Nat → Nat → Int32) (A : Nat → Nat → Nat → Int32) (J : Nat → Nat → Nat → Int64) (x1 : Int32) (x2 : Int32) (x3 : Int32) (x4 : Int32) (w : Unit × (Nat → Nat → Nat) × (Nat → Nat → Int32) × (Nat → Nat → Nat → Int32) × (Nat → Nat → Nat → Int64)), e_Evening_seekForTwo_22 K13 n P F A J x1 x2 x3 x4 = some w → k_run t lg (d + 6) 11 22 [(0, .ref (32 * 1024)), (1, .int x1), (2, .int x2), (3, .int x3), (4, .int x4)] [] (c_h c B P F A J) (none, c_h c B w.2.1 w.2.2.1 w.2.2.2.1 w.2.2.2.2) := fun _ _ _ _ _ _ _ _ _  h => ih  h
    unfold e_Evening_seekForTwo_22 at hD
    refine k_runB (pc' := 26) (loc' := [(0, .ref (32 * 1024)), (1, .int x1), (2, .int x2), (3, .int x3), (4, .int x4)]) (st' := [.int 36, .int x4]) 2 rfl ?_
    refine k_ic rfl (fun c26_7 => ?_) (fun c26_7 => ?_)
    · rw [c26_7, cond_true] at hD
      refine k_wk [0, 1, 2, 3] (loc' := [(0, .ref (32 * 1024)), (1, .int x1), (2, .int x2), (3, .int x3)]) rfl rfl ?_
      exact t_e_Evening_seekForTwo_101 ht hK13  hD
    · rw [c26_7, cond_false] at hD
      refine k_runB (pc' := 30) (loc' := [(0, .ref (32 * 1024)), (1, .int x1), (2, .int x2), (3, .int x3), (4, .int x4)]) (st' := [.ref (32 * 1024)]) 1 rfl ?_
      obtain ⟨q9, hq9, hD⟩ := Option.bind_eq_some_iff.mp hD
      refine k_gq 32 0 (K := 7) (K2 := 6) (key := 4) rfl rfl rfl rfl rfl hq9 (fun kq9 => ?_)
      refine k_runB (pc' := 34) (loc' := [(0, .ref (32 * 1024)), (1, .int x1), (2, .int x2), (3, .int x3), (4, .int x4)]) (st' := [.int x3, .ref (q9 * 1024)]) 1 rfl ?_
      obtain ⟨v10, hv10, hD⟩ := Option.bind_eq_some_iff.mp hD
      refine k_runV rfl rfl rfl (c_get (r := q9) (o := 0) (K := 6) kq9 (by decide)) rfl rfl (t_e_House_mayBeLeft (d := d + 5) kq9 hv10) ?_
      refine k_if rfl (fun c37_10 => ?_) (fun c37_10 => ?_)
      · rw [c37_10, cond_true] at hD
        refine k_wk [0, 1, 2, 3] (loc' := [(0, .ref (32 * 1024)), (1, .int x1), (2, .int x2), (3, .int x3)]) rfl rfl ?_
        exact t_e_Evening_seekForTwo_101 ht hK13  hD
      · rw [c37_10, cond_false] at hD
        refine k_runB (pc' := 41) (loc' := [(0, .ref (32 * 1024)), (1, .int x1), (2, .int x2), (3, .int x3), (4, .int x4)]) (st' := [.ref (32 * 1024)]) 1 rfl ?_
        obtain ⟨q12, hq12, hD⟩ := Option.bind_eq_some_iff.mp hD
        refine k_gq 32 0 (K := 7) (K2 := 6) (key := 4) rfl rfl rfl rfl rfl hq12 (fun kq12 => ?_)
        refine k_runB (pc' := 46) (loc' := [(0, .ref (32 * 1024)), (1, .int x1), (2, .int x2), (3, .int x3), (4, .int x4)]) (st' := [.int x4, .ref (q12 * 1024)]) 1 rfl ?_
        obtain ⟨v13, hv13, hD⟩ := Option.bind_eq_some_iff.mp hD
        refine k_runV rfl rfl rfl (c_get (r := q12) (o := 0) (K := 6) kq12 (by decide)) rfl rfl (t_e_House_mayBeLeft (d := d + 5) kq12 hv13) ?_
        refine k_if rfl (fun c49_13 => ?_) (fun c49_13 => ?_)
        · rw [c49_13, cond_true] at hD
          refine k_wk [0, 1, 2, 3, 4] (loc' := [(0, .ref (32 * 1024)), (1, .int x1), (2, .int x2), (3, .int x3), (4, .int x4)]) rfl rfl ?_
          exact t_e_Evening_seekForTwo_95 ht hK13 hK22  hD
        · rw [c49_13, cond_false] at hD
          refine k_runB (pc' := 53) (loc' := [(0, .ref (32 * 1024)), (1, .int x1), (2, .int x2), (3, .int x3), (4, .int x4)]) (st' := [.ref (32 * 1024)]) 1 rfl ?_
          refine k_gf 32 0 (K := 7) rfl rfl rfl rfl rfl ?_
          refine k_runB (pc' := 57) (loc' := [(0, .ref (32 * 1024)), (1, .int x1), (2, .int x2), (3, .int x3), (4, .int x4)]) (st' := [.ref (32 * 1024), .ref (33 * 1024)]) 1 rfl ?_
          refine k_gf 32 0 (K := 7) rfl rfl rfl rfl rfl ?_
          obtain ⟨⟨v15, P16, F17, A18, J19⟩, hv15, hD⟩ := Option.bind_eq_some_iff.mp hD
          dsimp only at hD
          refine k_runV rfl rfl rfl (c_get (r := 33) (o := 0) (K := 2) rfl (by decide)) rfl rfl (t_e_State_copy (d := d + 5) ht rfl rfl hv15) ?_
          refine k_runB (pc' := 64) (loc' := [(0, .ref (32 * 1024)), (1, .int x1), (2, .int x2), (3, .int x3), (4, .int x4)]) (st' := [.ref (32 * 1024)]) 1 rfl ?_
          refine k_gf 32 0 (K := 7) rfl rfl rfl rfl rfl ?_
          refine k_gf 33 0 (K := 2) rfl rfl rfl rfl rfl ?_
          refine k_runB (pc' := 72) (loc' := [(0, .ref (32 * 1024)), (1, .int x1), (2, .int x2), (3, .int x3), (4, .int x4)]) (st' := [.int x3, .int x1, .ref (33 * 1024 + 3)]) 2 rfl ?_
          obtain ⟨A20, hA20, hD⟩ := Option.bind_eq_some_iff.mp hD
          refine k_cstI 33 3 (K := 2) rfl rfl rfl rfl (fun _ => rfl) hA20 ?_
          refine k_runB (pc' := 74) (loc' := [(0, .ref (32 * 1024)), (1, .int x1), (2, .int x2), (3, .int x3), (4, .int x4)]) (st' := [.ref (32 * 1024)]) 1 rfl ?_
          refine k_gf 32 0 (K := 7) rfl rfl rfl rfl rfl ?_
          refine k_gf 33 0 (K := 2) rfl rfl rfl rfl rfl ?_
          refine k_runB (pc' := 83) (loc' := [(0, .ref (32 * 1024)), (1, .int x1), (2, .int x2), (3, .int x3), (4, .int x4)]) (st' := [.int x4, .int x2, .ref (33 * 1024 + 3)]) 2 rfl ?_
          obtain ⟨A21, hA21, hD⟩ := Option.bind_eq_some_iff.mp hD
          refine k_cstI 33 3 (K := 2) rfl rfl rfl rfl (fun _ => rfl) hA21 ?_
          refine k_runB (pc' := 86) (loc' := [(0, .ref (32 * 1024)), (1, .int x1), (2, .int x2), (3, .int x3), (4, .int x4)]) (st' := [.ref (32 * 1024), .ref (32 * 1024)]) 2 rfl ?_
          obtain ⟨⟨v22, P23, F24, A25, J26⟩, hv22, hD⟩ := Option.bind_eq_some_iff.mp hD
          dsimp only at hD
          refine k_runV rfl rfl rfl (c_get (r := 32) (o := 0) (K := 7) rfl (by decide)) rfl rfl (t_e_Evening_gainOfTrial (d := d) ht hv22) ?_
          refine k_runB (pc' := 92) (loc' := [(0, .ref (32 * 1024)), (1, .int x1), (2, .int x2), (3, .int x3), (4, .int x4)]) (st' := [.int x4, .int x3, .int v22, .ref (32 * 1024)]) 2 rfl ?_
          obtain ⟨⟨v27, P28, F29, A30, J31⟩, hv27, hD⟩ := Option.bind_eq_some_iff.mp hD
          dsimp only at hD
          refine k_runV rfl rfl rfl (c_get (r := 32) (o := 0) (K := 7) rfl (by decide)) rfl rfl (t_e_Evening_offer (d := d + 5) ht hv27) ?_
          refine k_runB (pc' := 22) (loc' := [(0, .ref (32 * 1024)), (1, .int x1), (2, .int x2), (3, .int x3), (4, .int (x4 + 1))]) (st' := []) 2 rfl ?_
          refine k_wk [0, 1, 2, 3, 4] (loc' := [(0, .ref (32 * 1024)), (1, .int x1), (2, .int x2), (3, .int x3), (4, .int (x4 + 1))]) rfl rfl ?_
          exact hK22 _ _ _ _ _ _ _ _ _  hD
def e_Evening_seekForTwo_13 : Nat → (Nat → Nat → Nat) → (Nat → Nat → Int32) → (Nat → Nat → Nat → Int32) → (Nat → Nat → Nat → Int64) → Int32 → Int32 → Int32 → Option (Unit × (Nat → Nat → Nat) × (Nat → Nat → Int32) × (Nat → Nat → Nat → Int32) × (Nat → Nat → Nat → Int64))
  | 0, _, _, _, _, _, _, _ => none
  | n + 1, P, F, A, J, x1, x2, x3 => cond (g_cnd .ge x3 36)
    (some ((), P, F, A, J))
    (e_Evening_seekForTwo_22 (e_Evening_seekForTwo_13 n) n P F A J x1 x2 x3 ((-1)))
set_option maxRecDepth 10000 in
theorem t_e_Evening_seekForTwo_13 (ht : ∀ ci k, t.1 ci k = k_ty ci k) {n : Nat}  {P : Nat → Nat → Nat} {F : Nat → Nat → Int32} {A : Nat → Nat → Nat → Int32} {J : Nat → Nat → Nat → Int64} {x1 : Int32} {x2 : Int32} {x3 : Int32}  {w : Unit × (Nat → Nat → Nat) × (Nat → Nat → Int32) × (Nat → Nat → Nat → Int32) × (Nat → Nat → Nat → Int64)} : e_Evening_seekForTwo_13 n P F A J x1 x2 x3 = some w → k_run t lg (d + 6) 11 13 [(0, .ref (32 * 1024)), (1, .int x1), (2, .int x2), (3, .int x3)] [] (c_h c B P F A J) (none, c_h c B w.2.1 w.2.2.1 w.2.2.2.1 w.2.2.2.2) := by
  induction n generalizing P F A J x1 x2 x3 w with
  | zero => intro hD; cases hD
  | succ n ih =>
    intro hD
    have hK13 : ∀ (P : Nat → Nat → Nat) (F : Nat → Nat → Int32) (A : Nat → Nat → Nat → Int32) (J : Nat → Nat → Nat → Int64) (x1 : Int32) (x2 : Int32) (x3 : Int32) (w : Unit × (Nat → Nat → Nat) × (Nat → Nat → Int32) × (Nat → Nat → Nat → Int32) × (Nat → Nat → Nat → Int64)), e_Evening_seekForTwo_13 n P F A J x1 x2 x3 = some w → k_run t lg (d + 6) 11 13 [(0, .ref (32 * 1024)), (1, .int x1), (2, .int x2), (3, .int x3)] [] (c_h c B P F A J) (none, c_h c B w.2.1 w.2.2.1 w.2.2.2.1 w.2.2.2.2) := fun _ _ _ _ _ _ _ _  h => ih  h
    unfold e_Evening_seekForTwo_13 at hD
    refine k_runB (pc' := 16) (loc' := [(0, .ref (32 * 1024)), (1, .int x1), (2, .int x2), (3, .int x3)]) (st' := [.int 36, .int x3]) 2 rfl ?_
    refine k_ic rfl (fun c16_6 => ?_) (fun c16_6 => ?_)
    · rw [c16_6, cond_true] at hD
      cases hD
      exact k_vret rfl rfl
    · rw [c16_6, cond_false] at hD
      refine k_runB (pc' := 22) (loc' := [(0, .ref (32 * 1024)), (1, .int x1), (2, .int x2), (3, .int x3), (4, .int ((-1)))]) (st' := []) 2 rfl ?_
      refine k_wk [0, 1, 2, 3, 4] (loc' := [(0, .ref (32 * 1024)), (1, .int x1), (2, .int x2), (3, .int x3), (4, .int ((-1)))]) rfl rfl ?_
      exact t_e_Evening_seekForTwo_22 ht hK13  hD
/-- SleepWork$Evening.seekForTwo(II)V  -/
def e_Evening_seekForTwo (n : Nat) (P : Nat → Nat → Nat) (F : Nat → Nat → Int32) (A : Nat → Nat → Nat → Int32) (J : Nat → Nat → Nat → Int64) (x1 : Int32) (x2 : Int32) : Option (Unit × (Nat → Nat → Nat) × (Nat → Nat → Int32) × (Nat → Nat → Nat → Int32) × (Nat → Nat → Nat → Int64)) :=
  (e_Evening_isAnswered n P F A J 1 x1 x2).bind fun (v1, P2, F3, A4, J5) =>
  cond (g_cnd .eq v1 0)
  (e_Evening_seekForTwo_13 n P2 F3 A4 J5 x1 x2 ((-1)))
  (some ((), P2, F3, A4, J5))
set_option maxRecDepth 10000 in
theorem t_e_Evening_seekForTwo (ht : ∀ ci k, t.1 ci k = k_ty ci k) {n : Nat} {P : Nat → Nat → Nat} {F : Nat → Nat → Int32} {A : Nat → Nat → Nat → Int32} {J : Nat → Nat → Nat → Int64} {x1 : Int32} {x2 : Int32}  {w : Unit × (Nat → Nat → Nat) × (Nat → Nat → Int32) × (Nat → Nat → Nat → Int32) × (Nat → Nat → Nat → Int64)} : e_Evening_seekForTwo n P F A J x1 x2 = some w → k_run t lg (d + 6) 11 0 [(0, .ref (32 * 1024)), (1, .int x1), (2, .int x2)] [] (c_h c B P F A J) (none, c_h c B w.2.1 w.2.2.1 w.2.2.2.1 w.2.2.2.2) := by
  intro hD
  unfold e_Evening_seekForTwo at hD
  refine k_runB (pc' := 4) (loc' := [(0, .ref (32 * 1024)), (1, .int x1), (2, .int x2)]) (st' := [.int x2, .int x1, .int 1, .ref (32 * 1024)]) 4 rfl ?_
  obtain ⟨⟨v1, P2, F3, A4, J5⟩, hv1, hD⟩ := Option.bind_eq_some_iff.mp hD
  dsimp only at hD
  refine k_runV rfl rfl rfl (c_get (r := 32) (o := 0) (K := 7) rfl (by decide)) rfl rfl (t_e_Evening_isAnswered (d := d + 3) ht hv1) ?_
  refine k_if rfl (fun c7_5 => ?_) (fun c7_5 => ?_)
  · rw [c7_5, cond_true] at hD
    refine k_runB (pc' := 13) (loc' := [(0, .ref (32 * 1024)), (1, .int x1), (2, .int x2), (3, .int ((-1)))]) (st' := []) 2 rfl ?_
    refine k_wk [0, 1, 2, 3] (loc' := [(0, .ref (32 * 1024)), (1, .int x1), (2, .int x2), (3, .int ((-1)))]) rfl rfl ?_
    exact t_e_Evening_seekForTwo_13 ht   hD
  · rw [c7_5, cond_false] at hD
    cases hD
    exact k_vret rfl rfl
def e_Evening_seekHidingPlace_59 (K13 : (Nat → Nat → Nat) → (Nat → Nat → Int32) → (Nat → Nat → Nat → Int32) → (Nat → Nat → Nat → Int64) → Int32 → Int32 → Option (Unit × (Nat → Nat → Nat) × (Nat → Nat → Int32) × (Nat → Nat → Nat → Int32) × (Nat → Nat → Nat → Int64))) (n : Nat) (P : Nat → Nat → Nat) (F : Nat → Nat → Int32) (A : Nat → Nat → Nat → Int32) (J : Nat → Nat → Nat → Int64) (x1 : Int32) (x2 : Int32) (s0 : Int32) : Option (Unit × (Nat → Nat → Nat) × (Nat → Nat → Int32) × (Nat → Nat → Nat → Int32) × (Nat → Nat → Nat → Int64)) :=
    (e_State_copy P F A J 33 2).bind fun (_, P14, F15, A16, J17) =>
    (c_st A16 33 4 6 x1 s0).bind fun A18 =>
    (e_Evening_gainOfTrial n P14 F15 A18 J17).bind fun (v19, P20, F21, A22, J23) =>
    (e_Evening_offer P20 F21 A22 J23 v19 s0 ((-1))).bind fun (_, P25, F26, A27, J28) =>
    K13 P25 F26 A27 J28 x1 (x2 + 1)
set_option maxRecDepth 10000 in
theorem t_e_Evening_seekHidingPlace_59 (ht : ∀ ci k, t.1 ci k = k_ty ci k) {n : Nat} {K13 : (Nat → Nat → Nat) → (Nat → Nat → Int32) → (Nat → Nat → Nat → Int32) → (Nat → Nat → Nat → Int64) → Int32 → Int32 → Option (Unit × (Nat → Nat → Nat) × (Nat → Nat → Int32) × (Nat → Nat → Nat → Int32) × (Nat → Nat → Nat → Int64))} (hK13 : ∀ (P : Nat → Nat → Nat) (F : Nat → Nat → Int32) (A : Nat → Nat → Nat → Int32) (J : Nat → Nat → Nat → Int64) (x1 : Int32) (x2 : Int32) (w : Unit × (Nat → Nat → Nat) × (Nat → Nat → Int32) × (Nat → Nat → Nat → Int32) × (Nat → Nat → Nat → Int64)), K13 P F A J x1 x2 = some w → k_run t lg (d + 6) 12 13 [(0, .ref (32 * 1024)), (1, .int x1), (2, .int x2)] [] (c_h c B P F A J) (none, c_h c B w.2.1 w.2.2.1 w.2.2.2.1 w.2.2.2.2)) {P : Nat → Nat → Nat} {F : Nat → Nat → Int32} {A : Nat → Nat → Nat → Int32} {J : Nat → Nat → Nat → Int64} {x1 : Int32} {x2 : Int32} {s0 : Int32}  {w : Unit × (Nat → Nat → Nat) × (Nat → Nat → Int32) × (Nat → Nat → Nat → Int32) × (Nat → Nat → Nat → Int64)} : e_Evening_seekHidingPlace_59 K13 n P F A J x1 x2 s0 = some w → k_run t lg (d + 6) 12 59 [(0, .ref (32 * 1024)), (1, .int x1), (2, .int x2)] [.int s0] (c_h c B P F A J) (none, c_h c B w.2.1 w.2.2.1 w.2.2.2.1 w.2.2.2.2) := by
  intro hD
  unfold e_Evening_seekHidingPlace_59 at hD
  refine k_runB (pc' := 61) (loc' := [(0, .ref (32 * 1024)), (1, .int x1), (2, .int x2), (3, .int s0)]) (st' := [.ref (32 * 1024)]) 2 rfl ?_
  refine k_gf 32 0 (K := 7) rfl rfl rfl rfl rfl ?_
  refine k_runB (pc' := 65) (loc' := [(0, .ref (32 * 1024)), (1, .int x1), (2, .int x2), (3, .int s0)]) (st' := [.ref (32 * 1024), .ref (33 * 1024)]) 1 rfl ?_
  refine k_gf 32 0 (K := 7) rfl rfl rfl rfl rfl ?_
  obtain ⟨⟨v13, P14, F15, A16, J17⟩, hv13, hD⟩ := Option.bind_eq_some_iff.mp hD
  dsimp only at hD
  refine k_runV rfl rfl rfl (c_get (r := 33) (o := 0) (K := 2) rfl (by decide)) rfl rfl (t_e_State_copy (d := d + 5) ht rfl rfl hv13) ?_
  refine k_runB (pc' := 72) (loc' := [(0, .ref (32 * 1024)), (1, .int x1), (2, .int x2), (3, .int s0)]) (st' := [.ref (32 * 1024)]) 1 rfl ?_
  refine k_gf 32 0 (K := 7) rfl rfl rfl rfl rfl ?_
  refine k_gf 33 0 (K := 2) rfl rfl rfl rfl rfl ?_
  refine k_runB (pc' := 80) (loc' := [(0, .ref (32 * 1024)), (1, .int x1), (2, .int x2), (3, .int s0)]) (st' := [.int s0, .int x1, .ref (33 * 1024 + 4)]) 2 rfl ?_
  obtain ⟨A18, hA18, hD⟩ := Option.bind_eq_some_iff.mp hD
  refine k_cstI 33 4 (K := 2) rfl rfl rfl rfl (fun _ => rfl) hA18 ?_
  refine k_runB (pc' := 83) (loc' := [(0, .ref (32 * 1024)), (1, .int x1), (2, .int x2), (3, .int s0)]) (st' := [.ref (32 * 1024), .ref (32 * 1024)]) 2 rfl ?_
  obtain ⟨⟨v19, P20, F21, A22, J23⟩, hv19, hD⟩ := Option.bind_eq_some_iff.mp hD
  dsimp only at hD
  refine k_runV rfl rfl rfl (c_get (r := 32) (o := 0) (K := 7) rfl (by decide)) rfl rfl (t_e_Evening_gainOfTrial (d := d) ht hv19) ?_
  refine k_runB (pc' := 88) (loc' := [(0, .ref (32 * 1024)), (1, .int x1), (2, .int x2), (3, .int s0)]) (st' := [.int ((-1)), .int s0, .int v19, .ref (32 * 1024)]) 2 rfl ?_
  obtain ⟨⟨v24, P25, F26, A27, J28⟩, hv24, hD⟩ := Option.bind_eq_some_iff.mp hD
  dsimp only at hD
  refine k_runV rfl rfl rfl (c_get (r := 32) (o := 0) (K := 7) rfl (by decide)) rfl rfl (t_e_Evening_offer (d := d + 5) ht hv24) ?_
  refine k_runB (pc' := 13) (loc' := [(0, .ref (32 * 1024)), (1, .int x1), (2, .int (x2 + 1)), (3, .int s0)]) (st' := []) 2 rfl ?_
  refine k_wk [0, 1, 2] (loc' := [(0, .ref (32 * 1024)), (1, .int x1), (2, .int (x2 + 1))]) rfl rfl ?_
  exact hK13 _ _ _ _ _ _ _  hD
def e_Evening_seekHidingPlace_13 : Nat → (Nat → Nat → Nat) → (Nat → Nat → Int32) → (Nat → Nat → Nat → Int32) → (Nat → Nat → Nat → Int64) → Int32 → Int32 → Option (Unit × (Nat → Nat → Nat) × (Nat → Nat → Int32) × (Nat → Nat → Nat → Int32) × (Nat → Nat → Nat → Int64))
  | 0, _, _, _, _, _, _ => none
  | n + 1, P, F, A, J, x1, x2 => (c_chk 6 (P 32 4)).bind fun q7 =>
    (c_chk 6 (P 32 4)).bind fun q8 =>
    cond (g_cnd .ge x2 ((F q7 13) + (F q8 17)))
    (some ((), P, F, A, J))
    ((c_chk 6 (P 32 4)).bind fun q10 =>
    cond (g_cnd .ge x2 (F q10 13))
    ((c_chk 6 (P 32 4)).bind fun q12 =>
    e_Evening_seekHidingPlace_59 (e_Evening_seekHidingPlace_13 n) n P F A J x1 x2 ((100 + x2) - (F q12 13)))
    (e_Evening_seekHidingPlace_59 (e_Evening_seekHidingPlace_13 n) n P F A J x1 x2 x2))
set_option maxRecDepth 10000 in
theorem t_e_Evening_seekHidingPlace_13 (ht : ∀ ci k, t.1 ci k = k_ty ci k) {n : Nat}  {P : Nat → Nat → Nat} {F : Nat → Nat → Int32} {A : Nat → Nat → Nat → Int32} {J : Nat → Nat → Nat → Int64} {x1 : Int32} {x2 : Int32}  {w : Unit × (Nat → Nat → Nat) × (Nat → Nat → Int32) × (Nat → Nat → Nat → Int32) × (Nat → Nat → Nat → Int64)} : e_Evening_seekHidingPlace_13 n P F A J x1 x2 = some w → k_run t lg (d + 6) 12 13 [(0, .ref (32 * 1024)), (1, .int x1), (2, .int x2)] [] (c_h c B P F A J) (none, c_h c B w.2.1 w.2.2.1 w.2.2.2.1 w.2.2.2.2) := by
  induction n generalizing P F A J x1 x2 w with
  | zero => intro hD; cases hD
  | succ n ih =>
    intro hD
    have hK13 : ∀ (P : Nat → Nat → Nat) (F : Nat → Nat → Int32) (A : Nat → Nat → Nat → Int32) (J : Nat → Nat → Nat → Int64) (x1 : Int32) (x2 : Int32) (w : Unit × (Nat → Nat → Nat) × (Nat → Nat → Int32) × (Nat → Nat → Nat → Int32) × (Nat → Nat → Nat → Int64)), e_Evening_seekHidingPlace_13 n P F A J x1 x2 = some w → k_run t lg (d + 6) 12 13 [(0, .ref (32 * 1024)), (1, .int x1), (2, .int x2)] [] (c_h c B P F A J) (none, c_h c B w.2.1 w.2.2.1 w.2.2.2.1 w.2.2.2.2) := fun _ _ _ _ _ _ _  h => ih  h
    unfold e_Evening_seekHidingPlace_13 at hD
    refine k_runB (pc' := 15) (loc' := [(0, .ref (32 * 1024)), (1, .int x1), (2, .int x2)]) (st' := [.ref (32 * 1024), .int x2]) 2 rfl ?_
    obtain ⟨q7, hq7, hD⟩ := Option.bind_eq_some_iff.mp hD
    refine k_gq 32 0 (K := 7) (K2 := 6) (key := 4) rfl rfl rfl rfl rfl hq7 (fun kq7 => ?_)
    refine k_gf q7 0 (K := 6) kq7 rfl rfl rfl rfl ?_
    refine k_runB (pc' := 22) (loc' := [(0, .ref (32 * 1024)), (1, .int x1), (2, .int x2)]) (st' := [.ref (32 * 1024), .int (F q7 13), .int x2]) 1 rfl ?_
    obtain ⟨q8, hq8, hD⟩ := Option.bind_eq_some_iff.mp hD
    refine k_gq 32 0 (K := 7) (K2 := 6) (key := 4) rfl rfl rfl rfl rfl hq8 (fun kq8 => ?_)
    refine k_gf q8 0 (K := 6) kq8 rfl rfl rfl rfl ?_
    refine k_runB (pc' := 29) (loc' := [(0, .ref (32 * 1024)), (1, .int x1), (2, .int x2)]) (st' := [.int ((F q7 13) + (F q8 17)), .int x2]) 1 rfl ?_
    refine k_ic rfl (fun c29_8 => ?_) (fun c29_8 => ?_)
    · rw [c29_8, cond_true] at hD
      cases hD
      exact k_vret rfl rfl
    · rw [c29_8, cond_false] at hD
      refine k_runB (pc' := 34) (loc' := [(0, .ref (32 * 1024)), (1, .int x1), (2, .int x2)]) (st' := [.ref (32 * 1024), .int x2]) 2 rfl ?_
      obtain ⟨q10, hq10, hD⟩ := Option.bind_eq_some_iff.mp hD
      refine k_gq 32 0 (K := 7) (K2 := 6) (key := 4) rfl rfl rfl rfl rfl hq10 (fun kq10 => ?_)
      refine k_gf q10 0 (K := 6) kq10 rfl rfl rfl rfl ?_
      refine k_ic rfl (fun c40_10 => ?_) (fun c40_10 => ?_)
      · rw [c40_10, cond_true] at hD
        refine k_runB (pc' := 52) (loc' := [(0, .ref (32 * 1024)), (1, .int x1), (2, .int x2)]) (st' := [.ref (32 * 1024), .int (100 + x2)]) 4 rfl ?_
        obtain ⟨q12, hq12, hD⟩ := Option.bind_eq_some_iff.mp hD
        refine k_gq 32 0 (K := 7) (K2 := 6) (key := 4) rfl rfl rfl rfl rfl hq12 (fun kq12 => ?_)
        refine k_gf q12 0 (K := 6) kq12 rfl rfl rfl rfl ?_
        refine k_runB (pc' := 59) (loc' := [(0, .ref (32 * 1024)), (1, .int x1), (2, .int x2)]) (st' := [.int ((100 + x2) - (F q12 13))]) 1 rfl ?_
        refine k_wk [0, 1, 2] (loc' := [(0, .ref (32 * 1024)), (1, .int x1), (2, .int x2)]) rfl rfl ?_
        exact t_e_Evening_seekHidingPlace_59 ht hK13  hD
      · rw [c40_10, cond_false] at hD
        refine k_runB (pc' := 59) (loc' := [(0, .ref (32 * 1024)), (1, .int x1), (2, .int x2)]) (st' := [.int x2]) 2 rfl ?_
        refine k_wk [0, 1, 2] (loc' := [(0, .ref (32 * 1024)), (1, .int x1), (2, .int x2)]) rfl rfl ?_
        exact t_e_Evening_seekHidingPlace_59 ht hK13  hD
/-- SleepWork$Evening.seekHidingPlace(I)V  -/
def e_Evening_seekHidingPlace (n : Nat) (P : Nat → Nat → Nat) (F : Nat → Nat → Int32) (A : Nat → Nat → Nat → Int32) (J : Nat → Nat → Nat → Int64) (x1 : Int32) : Option (Unit × (Nat → Nat → Nat) × (Nat → Nat → Int32) × (Nat → Nat → Nat → Int32) × (Nat → Nat → Nat → Int64)) :=
  (e_Evening_isAnswered n P F A J 2 x1 ((-1))).bind fun (v1, P2, F3, A4, J5) =>
  cond (g_cnd .eq v1 0)
  (e_Evening_seekHidingPlace_13 n P2 F3 A4 J5 x1 0)
  (some ((), P2, F3, A4, J5))
set_option maxRecDepth 10000 in
theorem t_e_Evening_seekHidingPlace (ht : ∀ ci k, t.1 ci k = k_ty ci k) {n : Nat} {P : Nat → Nat → Nat} {F : Nat → Nat → Int32} {A : Nat → Nat → Nat → Int32} {J : Nat → Nat → Nat → Int64} {x1 : Int32}  {w : Unit × (Nat → Nat → Nat) × (Nat → Nat → Int32) × (Nat → Nat → Nat → Int32) × (Nat → Nat → Nat → Int64)} : e_Evening_seekHidingPlace n P F A J x1 = some w → k_run t lg (d + 6) 12 0 [(0, .ref (32 * 1024)), (1, .int x1)] [] (c_h c B P F A J) (none, c_h c B w.2.1 w.2.2.1 w.2.2.2.1 w.2.2.2.2) := by
  intro hD
  unfold e_Evening_seekHidingPlace at hD
  refine k_runB (pc' := 4) (loc' := [(0, .ref (32 * 1024)), (1, .int x1)]) (st' := [.int ((-1)), .int x1, .int 2, .ref (32 * 1024)]) 4 rfl ?_
  obtain ⟨⟨v1, P2, F3, A4, J5⟩, hv1, hD⟩ := Option.bind_eq_some_iff.mp hD
  dsimp only at hD
  refine k_runV rfl rfl rfl (c_get (r := 32) (o := 0) (K := 7) rfl (by decide)) rfl rfl (t_e_Evening_isAnswered (d := d + 3) ht hv1) ?_
  refine k_if rfl (fun c7_5 => ?_) (fun c7_5 => ?_)
  · rw [c7_5, cond_true] at hD
    refine k_runB (pc' := 13) (loc' := [(0, .ref (32 * 1024)), (1, .int x1), (2, .int 0)]) (st' := []) 2 rfl ?_
    refine k_wk [0, 1, 2] (loc' := [(0, .ref (32 * 1024)), (1, .int x1), (2, .int 0)]) rfl rfl ?_
    exact t_e_Evening_seekHidingPlace_13 ht   hD
  · rw [c7_5, cond_false] at hD
    cases hD
    exact k_vret rfl rfl
def e_Evening_arrivals_110 (K5 : (Nat → Nat → Nat) → (Nat → Nat → Int32) → (Nat → Nat → Nat → Int32) → (Nat → Nat → Nat → Int64) → Int32 → Int64 → Int32 → Option (Int64 × (Nat → Nat → Nat) × (Nat → Nat → Int32) × (Nat → Nat → Nat → Int32) × (Nat → Nat → Nat → Int64))) (n : Nat) (P : Nat → Nat → Nat) (F : Nat → Nat → Int32) (A : Nat → Nat → Nat → Int32) (J : Nat → Nat → Nat → Int64) (x1 : Int32) (x4 : Int32) (s0 : Int64) (s1 : Int32) : Option (Int64 × (Nat → Nat → Nat) × (Nat → Nat → Int32) × (Nat → Nat → Nat → Int32) × (Nat → Nat → Nat → Int64)) :=
    K5 P F A J x1 (s0 ||| s1.toInt64) (x4 + 1)
set_option maxRecDepth 10000 in
theorem t_e_Evening_arrivals_110 (ht : ∀ ci k, t.1 ci k = k_ty ci k) {n : Nat} {K5 : (Nat → Nat → Nat) → (Nat → Nat → Int32) → (Nat → Nat → Nat → Int32) → (Nat → Nat → Nat → Int64) → Int32 → Int64 → Int32 → Option (Int64 × (Nat → Nat → Nat) × (Nat → Nat → Int32) × (Nat → Nat → Nat → Int32) × (Nat → Nat → Nat → Int64))} (hK5 : ∀ (P : Nat → Nat → Nat) (F : Nat → Nat → Int32) (A : Nat → Nat → Nat → Int32) (J : Nat → Nat → Nat → Int64) (x1 : Int32) (x2 : Int64) (x4 : Int32) (w : Int64 × (Nat → Nat → Nat) × (Nat → Nat → Int32) × (Nat → Nat → Nat → Int32) × (Nat → Nat → Nat → Int64)), K5 P F A J x1 x2 x4 = some w → k_run t lg (d + 3) 14 5 [(0, .ref (32 * 1024)), (1, .int x1), (2, .long (x2)), (4, .int x4)] [] (c_h c B P F A J) (some (.long w.1), c_h c B w.2.1 w.2.2.1 w.2.2.2.1 w.2.2.2.2)) {P : Nat → Nat → Nat} {F : Nat → Nat → Int32} {A : Nat → Nat → Nat → Int32} {J : Nat → Nat → Nat → Int64} {x1 : Int32} {x4 : Int32} {s0 : Int64} {s1 : Int32}  {w : Int64 × (Nat → Nat → Nat) × (Nat → Nat → Int32) × (Nat → Nat → Nat → Int32) × (Nat → Nat → Nat → Int64)} : e_Evening_arrivals_110 K5 n P F A J x1 x4 s0 s1 = some w → k_run t lg (d + 3) 14 110 [(0, .ref (32 * 1024)), (1, .int x1), (4, .int x4)] [.int s1, .long (s0)] (c_h c B P F A J) (some (.long w.1), c_h c B w.2.1 w.2.2.1 w.2.2.2.1 w.2.2.2.2) := by
  intro hD
  unfold e_Evening_arrivals_110 at hD
  refine k_runB (pc' := 5) (loc' := [(0, .ref (32 * 1024)), (1, .int x1), (2, .long (s0 ||| s1.toInt64)), (4, .int (x4 + 1))]) (st' := []) 5 rfl ?_
  refine k_wk [0, 1, 2, 4] (loc' := [(0, .ref (32 * 1024)), (1, .int x1), (2, .long (s0 ||| s1.toInt64)), (4, .int (x4 + 1))]) rfl rfl ?_
  exact hK5 _ _ _ _ _ _ _ _  hD
def e_Evening_arrivals_82 (K5 : (Nat → Nat → Nat) → (Nat → Nat → Int32) → (Nat → Nat → Nat → Int32) → (Nat → Nat → Nat → Int64) → Int32 → Int64 → Int32 → Option (Int64 × (Nat → Nat → Nat) × (Nat → Nat → Int32) × (Nat → Nat → Nat → Int32) × (Nat → Nat → Nat → Int64))) (n : Nat) (P : Nat → Nat → Nat) (F : Nat → Nat → Int32) (A : Nat → Nat → Nat → Int32) (J : Nat → Nat → Nat → Int64) (x1 : Int32) (x2 : Int64) (x4 : Int32) (x6 : Int32) : Option (Int64 × (Nat → Nat → Nat) × (Nat → Nat → Int32) × (Nat → Nat → Nat → Int32) × (Nat → Nat → Nat → Int64)) :=
    (c_chk 6 (P 32 4)).bind fun q16 =>
    cond (g_cnd .lt x6 (F q16 18))
    (e_Evening_arrivals_110 K5 n P F A J x1 x4 (x2 <<< ((9 : Int32).toInt64 &&& 63)) (x6 &&& 511))
    (e_Evening_arrivals_110 K5 n P F A J x1 x4 (x2 <<< ((9 : Int32).toInt64 &&& 63)) 511)
set_option maxRecDepth 10000 in
theorem t_e_Evening_arrivals_82 (ht : ∀ ci k, t.1 ci k = k_ty ci k) {n : Nat} {K5 : (Nat → Nat → Nat) → (Nat → Nat → Int32) → (Nat → Nat → Nat → Int32) → (Nat → Nat → Nat → Int64) → Int32 → Int64 → Int32 → Option (Int64 × (Nat → Nat → Nat) × (Nat → Nat → Int32) × (Nat → Nat → Nat → Int32) × (Nat → Nat → Nat → Int64))} (hK5 : ∀ (P : Nat → Nat → Nat) (F : Nat → Nat → Int32) (A : Nat → Nat → Nat → Int32) (J : Nat → Nat → Nat → Int64) (x1 : Int32) (x2 : Int64) (x4 : Int32) (w : Int64 × (Nat → Nat → Nat) × (Nat → Nat → Int32) × (Nat → Nat → Nat → Int32) × (Nat → Nat → Nat → Int64)), K5 P F A J x1 x2 x4 = some w → k_run t lg (d + 3) 14 5 [(0, .ref (32 * 1024)), (1, .int x1), (2, .long (x2)), (4, .int x4)] [] (c_h c B P F A J) (some (.long w.1), c_h c B w.2.1 w.2.2.1 w.2.2.2.1 w.2.2.2.2)) {P : Nat → Nat → Nat} {F : Nat → Nat → Int32} {A : Nat → Nat → Nat → Int32} {J : Nat → Nat → Nat → Int64} {x1 : Int32} {x2 : Int64} {x4 : Int32} {x6 : Int32}  {w : Int64 × (Nat → Nat → Nat) × (Nat → Nat → Int32) × (Nat → Nat → Nat → Int32) × (Nat → Nat → Nat → Int64)} : e_Evening_arrivals_82 K5 n P F A J x1 x2 x4 x6 = some w → k_run t lg (d + 3) 14 82 [(0, .ref (32 * 1024)), (1, .int x1), (2, .long (x2)), (4, .int x4), (6, .int x6)] [] (c_h c B P F A J) (some (.long w.1), c_h c B w.2.1 w.2.2.1 w.2.2.2.1 w.2.2.2.2) := by
  intro hD
  unfold e_Evening_arrivals_82 at hD
  refine k_runB (pc' := 89) (loc' := [(0, .ref (32 * 1024)), (1, .int x1), (2, .long (x2)), (4, .int x4), (6, .int x6)]) (st' := [.ref (32 * 1024), .int x6, .long (x2 <<< ((9 : Int32).toInt64 &&& 63))]) 5 rfl ?_
  obtain ⟨q16, hq16, hD⟩ := Option.bind_eq_some_iff.mp hD
  refine k_gq 32 0 (K := 7) (K2 := 6) (key := 4) rfl rfl rfl rfl rfl hq16 (fun kq16 => ?_)
  refine k_gf q16 0 (K := 6) kq16 rfl rfl rfl rfl ?_
  refine k_ic rfl (fun c95_16 => ?_) (fun c95_16 => ?_)
  · rw [c95_16, cond_true] at hD
    refine k_runB (pc' := 110) (loc' := [(0, .ref (32 * 1024)), (1, .int x1), (2, .long (x2)), (4, .int x4), (6, .int x6)]) (st' := [.int (x6 &&& 511), .long (x2 <<< ((9 : Int32).toInt64 &&& 63))]) 3 rfl ?_
    refine k_wk [0, 1, 4] (loc' := [(0, .ref (32 * 1024)), (1, .int x1), (4, .int x4)]) rfl rfl ?_
    exact t_e_Evening_arrivals_110 ht hK5  hD
  · rw [c95_16, cond_false] at hD
    refine k_runB (pc' := 110) (loc' := [(0, .ref (32 * 1024)), (1, .int x1), (2, .long (x2)), (4, .int x4), (6, .int x6)]) (st' := [.int 511, .long (x2 <<< ((9 : Int32).toInt64 &&& 63))]) 2 rfl ?_
    refine k_wk [0, 1, 4] (loc' := [(0, .ref (32 * 1024)), (1, .int x1), (4, .int x4)]) rfl rfl ?_
    exact t_e_Evening_arrivals_110 ht hK5  hD
def e_Evening_arrivals_5 : Nat → (Nat → Nat → Nat) → (Nat → Nat → Int32) → (Nat → Nat → Nat → Int32) → (Nat → Nat → Nat → Int64) → Int32 → Int64 → Int32 → Option (Int64 × (Nat → Nat → Nat) × (Nat → Nat → Int32) × (Nat → Nat → Nat → Int32) × (Nat → Nat → Nat → Int64))
  | 0, _, _, _, _, _, _, _ => none
  | n + 1, P, F, A, J, x1, x2, x4 => (c_chk 6 (P 32 4)).bind fun q1 =>
    cond (g_cnd .ge x4 (F q1 17))
    (some (x2, P, F, A, J))
    ((m_ld (A 2 3) 6 x4).bind fun v3 =>
    cond (g_cnd .lt v3 0)
    (e_Evening_arrivals_82 (e_Evening_arrivals_5 n) n P F A J x1 x2 x4 1000000)
    ((c_chk 6 (P 32 4)).bind fun q5 =>
    (m_div v3 6).bind fun v6 =>
    (m_ld (A q5 4) 6 v6).bind fun v7 =>
    (c_chk 6 (P 32 4)).bind fun q8 =>
    (c_chk 6 (P 32 4)).bind fun q9 =>
    (m_ld (A q9 12) 6 x4).bind fun v10 =>
    (e_Ways_between n P F A J q8 x1 v10 v7).bind fun (v11, P12, F13, A14, J15) =>
    e_Evening_arrivals_82 (e_Evening_arrivals_5 n) n P12 F13 A14 J15 x1 x2 x4 v11))
set_option maxRecDepth 10000 in
theorem t_e_Evening_arrivals_5 (ht : ∀ ci k, t.1 ci k = k_ty ci k) {n : Nat}  {P : Nat → Nat → Nat} {F : Nat → Nat → Int32} {A : Nat → Nat → Nat → Int32} {J : Nat → Nat → Nat → Int64} {x1 : Int32} {x2 : Int64} {x4 : Int32}  {w : Int64 × (Nat → Nat → Nat) × (Nat → Nat → Int32) × (Nat → Nat → Nat → Int32) × (Nat → Nat → Nat → Int64)} : e_Evening_arrivals_5 n P F A J x1 x2 x4 = some w → k_run t lg (d + 3) 14 5 [(0, .ref (32 * 1024)), (1, .int x1), (2, .long (x2)), (4, .int x4)] [] (c_h c B P F A J) (some (.long w.1), c_h c B w.2.1 w.2.2.1 w.2.2.2.1 w.2.2.2.2) := by
  induction n generalizing P F A J x1 x2 x4 w with
  | zero => intro hD; cases hD
  | succ n ih =>
    intro hD
    have hK5 : ∀ (P : Nat → Nat → Nat) (F : Nat → Nat → Int32) (A : Nat → Nat → Nat → Int32) (J : Nat → Nat → Nat → Int64) (x1 : Int32) (x2 : Int64) (x4 : Int32) (w : Int64 × (Nat → Nat → Nat) × (Nat → Nat → Int32) × (Nat → Nat → Nat → Int32) × (Nat → Nat → Nat → Int64)), e_Evening_arrivals_5 n P F A J x1 x2 x4 = some w → k_run t lg (d + 3) 14 5 [(0, .ref (32 * 1024)), (1, .int x1), (2, .long (x2)), (4, .int x4)] [] (c_h c B P F A J) (some (.long w.1), c_h c B w.2.1 w.2.2.1 w.2.2.2.1 w.2.2.2.2) := fun _ _ _ _ _ _ _ _  h => ih  h
    unfold e_Evening_arrivals_5 at hD
    refine k_runB (pc' := 8) (loc' := [(0, .ref (32 * 1024)), (1, .int x1), (2, .long (x2)), (4, .int x4)]) (st' := [.ref (32 * 1024), .int x4]) 2 rfl ?_
    obtain ⟨q1, hq1, hD⟩ := Option.bind_eq_some_iff.mp hD
    refine k_gq 32 0 (K := 7) (K2 := 6) (key := 4) rfl rfl rfl rfl rfl hq1 (fun kq1 => ?_)
    refine k_gf q1 0 (K := 6) kq1 rfl rfl rfl rfl ?_
    refine k_ic rfl (fun c14_1 => ?_) (fun c14_1 => ?_)
    · rw [c14_1, cond_true] at hD
      refine k_runB (pc' := 120) (loc' := [(0, .ref (32 * 1024)), (1, .int x1), (2, .long (x2)), (4, .int x4)]) (st' := [.long (x2)]) 1 rfl ?_
      cases hD
      exact k_lret rfl rfl
    · rw [c14_1, cond_false] at hD
      refine k_runB (pc' := 18) (loc' := [(0, .ref (32 * 1024)), (1, .int x1), (2, .long (x2)), (4, .int x4)]) (st' := [.ref (32 * 1024)]) 1 rfl ?_
      refine k_gf 32 0 (K := 7) rfl rfl rfl rfl rfl ?_
      refine k_gf 2 0 (K := 2) rfl rfl rfl rfl rfl ?_
      refine k_runB (pc' := 26) (loc' := [(0, .ref (32 * 1024)), (1, .int x1), (2, .long (x2)), (4, .int x4)]) (st' := [.int x4, .ref (2 * 1024 + 3)]) 1 rfl ?_
      obtain ⟨v3, hv3, hD⟩ := Option.bind_eq_some_iff.mp hD
      refine k_ldI rfl (c_get (r := 2) (o := 3) (K := 2) rfl (by decide)) hv3 ?_
      refine k_runB (pc' := 35) (loc' := [(0, .ref (32 * 1024)), (1, .int x1), (2, .long (x2)), (4, .int x4), (5, .int v3), (6, .int 1000000)]) (st' := [.int v3]) 4 rfl ?_
      refine k_if rfl (fun c35_3 => ?_) (fun c35_3 => ?_)
      · rw [c35_3, cond_true] at hD
        refine k_wk [0, 1, 2, 4, 6] (loc' := [(0, .ref (32 * 1024)), (1, .int x1), (2, .long (x2)), (4, .int x4), (6, .int 1000000)]) rfl rfl ?_
        exact t_e_Evening_arrivals_82 ht hK5  hD
      · rw [c35_3, cond_false] at hD
        refine k_runB (pc' := 39) (loc' := [(0, .ref (32 * 1024)), (1, .int x1), (2, .long (x2)), (4, .int x4), (5, .int v3), (6, .int 1000000)]) (st' := [.ref (32 * 1024)]) 1 rfl ?_
        obtain ⟨q5, hq5, hD⟩ := Option.bind_eq_some_iff.mp hD
        refine k_gq 32 0 (K := 7) (K2 := 6) (key := 4) rfl rfl rfl rfl rfl hq5 (fun kq5 => ?_)
        refine k_gf q5 0 (K := 6) kq5 rfl rfl rfl rfl ?_
        refine k_runB (pc' := 49) (loc' := [(0, .ref (32 * 1024)), (1, .int x1), (2, .long (x2)), (4, .int x4), (5, .int v3), (6, .int 1000000)]) (st' := [.int 6, .int v3, .ref (q5 * 1024 + 4)]) 2 rfl ?_
        obtain ⟨v6, hv6, hD⟩ := Option.bind_eq_some_iff.mp hD
        refine k_dvI rfl hv6 ?_
        obtain ⟨v7, hv7, hD⟩ := Option.bind_eq_some_iff.mp hD
        refine k_ldI rfl (c_get (r := q5) (o := 4) (K := 6) kq5 (by decide)) hv7 ?_
        refine k_runB (pc' := 54) (loc' := [(0, .ref (32 * 1024)), (1, .int x1), (2, .long (x2)), (4, .int x4), (5, .int v3), (6, .int 1000000), (7, .int v7)]) (st' := [.ref (32 * 1024)]) 2 rfl ?_
        refine k_gf 32 0 (K := 7) rfl rfl rfl rfl rfl ?_
        refine k_gf 36 0 (K := 10) rfl rfl rfl rfl rfl ?_
        refine k_runB (pc' := 61) (loc' := [(0, .ref (32 * 1024)), (1, .int x1), (2, .long (x2)), (4, .int x4), (5, .int v3), (6, .int 1000000), (7, .int v7)]) (st' := [.ref (32 * 1024), .ref (36 * 1024 + 1)]) 1 rfl ?_
        obtain ⟨q8, hq8, hD⟩ := Option.bind_eq_some_iff.mp hD
        refine k_gq 32 0 (K := 7) (K2 := 6) (key := 4) rfl rfl rfl rfl rfl hq8 (fun kq8 => ?_)
        refine k_runB (pc' := 66) (loc' := [(0, .ref (32 * 1024)), (1, .int x1), (2, .long (x2)), (4, .int x4), (5, .int v3), (6, .int 1000000), (7, .int v7)]) (st' := [.ref (32 * 1024), .int x1, .ref (q8 * 1024), .ref (36 * 1024 + 1)]) 2 rfl ?_
        obtain ⟨q9, hq9, hD⟩ := Option.bind_eq_some_iff.mp hD
        refine k_gq 32 0 (K := 7) (K2 := 6) (key := 4) rfl rfl rfl rfl rfl hq9 (fun kq9 => ?_)
        refine k_gf q9 0 (K := 6) kq9 rfl rfl rfl rfl ?_
        refine k_runB (pc' := 74) (loc' := [(0, .ref (32 * 1024)), (1, .int x1), (2, .long (x2)), (4, .int x4), (5, .int v3), (6, .int 1000000), (7, .int v7)]) (st' := [.int x4, .ref (q9 * 1024 + 12), .int x1, .ref (q8 * 1024), .ref (36 * 1024 + 1)]) 1 rfl ?_
        obtain ⟨v10, hv10, hD⟩ := Option.bind_eq_some_iff.mp hD
        refine k_ldI rfl (c_get (r := q9) (o := 12) (K := 6) kq9 (by decide)) hv10 ?_
        refine k_runB (pc' := 77) (loc' := [(0, .ref (32 * 1024)), (1, .int x1), (2, .long (x2)), (4, .int x4), (5, .int v3), (6, .int 1000000), (7, .int v7)]) (st' := [.int v7, .int v10, .int x1, .ref (q8 * 1024), .ref (36 * 1024 + 1)]) 1 rfl ?_
        obtain ⟨⟨v11, P12, F13, A14, J15⟩, hv11, hD⟩ := Option.bind_eq_some_iff.mp hD
        dsimp only at hD
        refine k_runV rfl rfl rfl (c_get (r := 36) (o := 1) (K := 10) rfl (by decide)) rfl rfl (t_e_Ways_between (d := d) ht kq8 hv11) ?_
        refine k_runB (pc' := 82) (loc' := [(0, .ref (32 * 1024)), (1, .int x1), (2, .long (x2)), (4, .int x4), (5, .int v3), (6, .int v11), (7, .int v7)]) (st' := []) 1 rfl ?_
        refine k_wk [0, 1, 2, 4, 6] (loc' := [(0, .ref (32 * 1024)), (1, .int x1), (2, .long (x2)), (4, .int x4), (6, .int v11)]) rfl rfl ?_
        exact t_e_Evening_arrivals_82 ht hK5  hD
/-- SleepWork$Evening.arrivals(I)J  -/
def e_Evening_arrivals (n : Nat) (P : Nat → Nat → Nat) (F : Nat → Nat → Int32) (A : Nat → Nat → Nat → Int32) (J : Nat → Nat → Nat → Int64) (x1 : Int32) : Option (Int64 × (Nat → Nat → Nat) × (Nat → Nat → Int32) × (Nat → Nat → Nat → Int32) × (Nat → Nat → Nat → Int64)) :=
  e_Evening_arrivals_5 n P F A J x1 0 0
set_option maxRecDepth 10000 in
theorem t_e_Evening_arrivals (ht : ∀ ci k, t.1 ci k = k_ty ci k) {n : Nat} {P : Nat → Nat → Nat} {F : Nat → Nat → Int32} {A : Nat → Nat → Nat → Int32} {J : Nat → Nat → Nat → Int64} {x1 : Int32}  {w : Int64 × (Nat → Nat → Nat) × (Nat → Nat → Int32) × (Nat → Nat → Nat → Int32) × (Nat → Nat → Nat → Int64)} : e_Evening_arrivals n P F A J x1 = some w → k_run t lg (d + 3) 14 0 [(0, .ref (32 * 1024)), (1, .int x1)] [] (c_h c B P F A J) (some (.long w.1), c_h c B w.2.1 w.2.2.1 w.2.2.2.1 w.2.2.2.2) := by
  intro hD
  unfold e_Evening_arrivals at hD
  refine k_runB (pc' := 5) (loc' := [(0, .ref (32 * 1024)), (1, .int x1), (2, .long (0)), (4, .int 0)]) (st' := []) 4 rfl ?_
  refine k_wk [0, 1, 2, 4] (loc' := [(0, .ref (32 * 1024)), (1, .int x1), (2, .long (0)), (4, .int 0)]) rfl rfl ?_
  exact t_e_Evening_arrivals_5 ht   hD
def e_Told_isSoIn_2 : Nat → (Nat → Nat → Nat) → (Nat → Nat → Int32) → (Nat → Nat → Nat → Int32) → (Nat → Nat → Nat → Int64) → Nat → Int32 → Int32 → Option (Int32)
  | 0, _, _, _, _, _, _, _ => none
  | n + 1, P, F, A, J, r1, x2, x3 => cond (g_cnd .ge x3 x2)
    (some (1))
    (cond (g_cnd .ge x3 (F 25 2))
    (some (1))
    ((m_ld (A 25 1) 30 x3).bind fun v3 =>
    (m_ld (A r1 1) 36 v3).bind fun v4 =>
    (m_ld (A 25 2) 30 x3).bind fun v5 =>
    cond (g_cnd .eq v4 v5)
    ((e_Told_isSoIn_2 n) P F A J r1 x2 (x3 + 1))
    (some (0))))
set_option maxRecDepth 10000 in
theorem t_e_Told_isSoIn_2 {n : Nat}  {P : Nat → Nat → Nat} {F : Nat → Nat → Int32} {A : Nat → Nat → Nat → Int32} {J : Nat → Nat → Nat → Int64} {r1 : Nat} {x2 : Int32} {x3 : Int32} (hr1 : c_kind r1 = 2) {w : Int32} : e_Told_isSoIn_2 n P F A J r1 x2 x3 = some w → k_run t lg (d) 92 2 [(0, .ref (25 * 1024)), (1, .ref (r1 * 1024)), (2, .int x2), (3, .int x3)] [] (c_h c B P F A J) (some (.int w), c_h c B P F A J) := by
  induction n generalizing P F A J r1 x2 x3 w with
  | zero => intro hD; cases hD
  | succ n ih =>
    intro hD
    have hK2 : ∀ (P : Nat → Nat → Nat) (F : Nat → Nat → Int32) (A : Nat → Nat → Nat → Int32) (J : Nat → Nat → Nat → Int64) (r1 : Nat) (x2 : Int32) (x3 : Int32) (w : Int32), c_kind r1 = 2 → e_Told_isSoIn_2 n P F A J r1 x2 x3 = some w → k_run t lg (d) 92 2 [(0, .ref (25 * 1024)), (1, .ref (r1 * 1024)), (2, .int x2), (3, .int x3)] [] (c_h c B P F A J) (some (.int w), c_h c B P F A J) := fun _ _ _ _ _ _ _ _ kr1 h => ih kr1 h
    unfold e_Told_isSoIn_2 at hD
    refine k_runB (pc' := 4) (loc' := [(0, .ref (25 * 1024)), (1, .ref (r1 * 1024)), (2, .int x2), (3, .int x3)]) (st' := [.int x2, .int x3]) 2 rfl ?_
    refine k_ic rfl (fun c4_0 => ?_) (fun c4_0 => ?_)
    · rw [c4_0, cond_true] at hD
      refine k_runB (pc' := 44) (loc' := [(0, .ref (25 * 1024)), (1, .ref (r1 * 1024)), (2, .int x2), (3, .int x3)]) (st' := [.int 1]) 1 rfl ?_
      cases hD
      exact k_zret rfl rfl (Or.inr rfl)
    · rw [c4_0, cond_false] at hD
      refine k_runB (pc' := 9) (loc' := [(0, .ref (25 * 1024)), (1, .ref (r1 * 1024)), (2, .int x2), (3, .int x3)]) (st' := [.ref (25 * 1024), .int x3]) 2 rfl ?_
      refine k_gf 25 0 (K := 4) rfl rfl rfl rfl rfl ?_
      refine k_ic rfl (fun c12_1 => ?_) (fun c12_1 => ?_)
      · rw [c12_1, cond_true] at hD
        refine k_runB (pc' := 44) (loc' := [(0, .ref (25 * 1024)), (1, .ref (r1 * 1024)), (2, .int x2), (3, .int x3)]) (st' := [.int 1]) 1 rfl ?_
        cases hD
        exact k_zret rfl rfl (Or.inr rfl)
      · rw [c12_1, cond_false] at hD
        refine k_runB (pc' := 16) (loc' := [(0, .ref (25 * 1024)), (1, .ref (r1 * 1024)), (2, .int x2), (3, .int x3)]) (st' := [.ref (r1 * 1024)]) 1 rfl ?_
        refine k_gf r1 0 (K := 2) hr1 rfl rfl rfl rfl ?_
        refine k_runB (pc' := 20) (loc' := [(0, .ref (25 * 1024)), (1, .ref (r1 * 1024)), (2, .int x2), (3, .int x3)]) (st' := [.ref (25 * 1024), .ref (r1 * 1024 + 1)]) 1 rfl ?_
        refine k_gf 25 0 (K := 4) rfl rfl rfl rfl rfl ?_
        refine k_runB (pc' := 24) (loc' := [(0, .ref (25 * 1024)), (1, .ref (r1 * 1024)), (2, .int x2), (3, .int x3)]) (st' := [.int x3, .ref (25 * 1024 + 1), .ref (r1 * 1024 + 1)]) 1 rfl ?_
        obtain ⟨v3, hv3, hD⟩ := Option.bind_eq_some_iff.mp hD
        refine k_ldI rfl (c_get (r := 25) (o := 1) (K := 4) rfl (by decide)) hv3 ?_
        obtain ⟨v4, hv4, hD⟩ := Option.bind_eq_some_iff.mp hD
        refine k_ldI rfl (c_get (r := r1) (o := 1) (K := 2) hr1 (by decide)) hv4 ?_
        refine k_runB (pc' := 27) (loc' := [(0, .ref (25 * 1024)), (1, .ref (r1 * 1024)), (2, .int x2), (3, .int x3)]) (st' := [.ref (25 * 1024), .int v4]) 1 rfl ?_
        refine k_gf 25 0 (K := 4) rfl rfl rfl rfl rfl ?_
        refine k_runB (pc' := 31) (loc' := [(0, .ref (25 * 1024)), (1, .ref (r1 * 1024)), (2, .int x2), (3, .int x3)]) (st' := [.int x3, .ref (25 * 1024 + 2), .int v4]) 1 rfl ?_
        obtain ⟨v5, hv5, hD⟩ := Option.bind_eq_some_iff.mp hD
        refine k_ldI rfl (c_get (r := 25) (o := 2) (K := 4) rfl (by decide)) hv5 ?_
        refine k_ic rfl (fun c32_5 => ?_) (fun c32_5 => ?_)
        · rw [c32_5, cond_true] at hD
          refine k_runB (pc' := 2) (loc' := [(0, .ref (25 * 1024)), (1, .ref (r1 * 1024)), (2, .int x2), (3, .int (x3 + 1))]) (st' := []) 2 rfl ?_
          refine k_wk [0, 1, 2, 3] (loc' := [(0, .ref (25 * 1024)), (1, .ref (r1 * 1024)), (2, .int x2), (3, .int (x3 + 1))]) rfl rfl ?_
          exact hK2 _ _ _ _ _ _ _ _ hr1 hD
        · rw [c32_5, cond_false] at hD
          refine k_runB (pc' := 36) (loc' := [(0, .ref (25 * 1024)), (1, .ref (r1 * 1024)), (2, .int x2), (3, .int x3)]) (st' := [.int 0]) 1 rfl ?_
          cases hD
          exact k_zret rfl rfl (Or.inl rfl)
/-- SleepWork$Told.isSoIn(LSleepWork$State;I)Z  -/
def e_Told_isSoIn (n : Nat) (P : Nat → Nat → Nat) (F : Nat → Nat → Int32) (A : Nat → Nat → Nat → Int32) (J : Nat → Nat → Nat → Int64) (r1 : Nat) (x2 : Int32) : Option (Int32) :=
  e_Told_isSoIn_2 n P F A J r1 x2 0
set_option maxRecDepth 10000 in
theorem t_e_Told_isSoIn {n : Nat} {P : Nat → Nat → Nat} {F : Nat → Nat → Int32} {A : Nat → Nat → Nat → Int32} {J : Nat → Nat → Nat → Int64} {r1 : Nat} {x2 : Int32} (hr1 : c_kind r1 = 2) {w : Int32} : e_Told_isSoIn n P F A J r1 x2 = some w → k_run t lg (d) 92 0 [(0, .ref (25 * 1024)), (1, .ref (r1 * 1024)), (2, .int x2)] [] (c_h c B P F A J) (some (.int w), c_h c B P F A J) := by
  intro hD
  unfold e_Told_isSoIn at hD
  refine k_runB (pc' := 2) (loc' := [(0, .ref (25 * 1024)), (1, .ref (r1 * 1024)), (2, .int x2), (3, .int 0)]) (st' := []) 2 rfl ?_
  refine k_wk [0, 1, 2, 3] (loc' := [(0, .ref (25 * 1024)), (1, .ref (r1 * 1024)), (2, .int x2), (3, .int 0)]) rfl rfl ?_
  exact t_e_Told_isSoIn_2  hr1 hD
def e_Evening_seekFits_113 (K18 : (Nat → Nat → Nat) → (Nat → Nat → Int32) → (Nat → Nat → Nat → Int32) → (Nat → Nat → Nat → Int64) → Int32 → Int32 → Int32 → Option (Unit × (Nat → Nat → Nat) × (Nat → Nat → Int32) × (Nat → Nat → Nat → Int32) × (Nat → Nat → Nat → Int64))) (n : Nat) (P : Nat → Nat → Nat) (F : Nat → Nat → Int32) (A : Nat → Nat → Nat → Int32) (J : Nat → Nat → Nat → Int64) (x1 : Int32) (x2 : Int32) (x3 : Int32) : Option (Unit × (Nat → Nat → Nat) × (Nat → Nat → Int32) × (Nat → Nat → Nat → Int32) × (Nat → Nat → Nat → Int64)) :=
    K18 P F A J x1 x2 (x3 + 1)
set_option maxRecDepth 10000 in
theorem t_e_Evening_seekFits_113 (ht : ∀ ci k, t.1 ci k = k_ty ci k) {n : Nat} {K18 : (Nat → Nat → Nat) → (Nat → Nat → Int32) → (Nat → Nat → Nat → Int32) → (Nat → Nat → Nat → Int64) → Int32 → Int32 → Int32 → Option (Unit × (Nat → Nat → Nat) × (Nat → Nat → Int32) × (Nat → Nat → Nat → Int32) × (Nat → Nat → Nat → Int64))} (hK18 : ∀ (P : Nat → Nat → Nat) (F : Nat → Nat → Int32) (A : Nat → Nat → Nat → Int32) (J : Nat → Nat → Nat → Int64) (x1 : Int32) (x2 : Int32) (x3 : Int32) (w : Unit × (Nat → Nat → Nat) × (Nat → Nat → Int32) × (Nat → Nat → Nat → Int32) × (Nat → Nat → Nat → Int64)), K18 P F A J x1 x2 x3 = some w → k_run t lg (d + 5) 17 18 [(0, .ref (32 * 1024)), (1, .int x1), (2, .int x2), (3, .int x3)] [] (c_h c B P F A J) (none, c_h c B w.2.1 w.2.2.1 w.2.2.2.1 w.2.2.2.2)) {P : Nat → Nat → Nat} {F : Nat → Nat → Int32} {A : Nat → Nat → Nat → Int32} {J : Nat → Nat → Nat → Int64} {x1 : Int32} {x2 : Int32} {x3 : Int32}  {w : Unit × (Nat → Nat → Nat) × (Nat → Nat → Int32) × (Nat → Nat → Nat → Int32) × (Nat → Nat → Nat → Int64)} : e_Evening_seekFits_113 K18 n P F A J x1 x2 x3 = some w → k_run t lg (d + 5) 17 113 [(0, .ref (32 * 1024)), (1, .int x1), (2, .int x2), (3, .int x3)] [] (c_h c B P F A J) (none, c_h c B w.2.1 w.2.2.1 w.2.2.2.1 w.2.2.2.2) := by
  intro hD
  unfold e_Evening_seekFits_113 at hD
  refine k_runB (pc' := 18) (loc' := [(0, .ref (32 * 1024)), (1, .int x1), (2, .int x2), (3, .int (x3 + 1))]) (st' := []) 2 rfl ?_
  refine k_wk [0, 1, 2, 3] (loc' := [(0, .ref (32 * 1024)), (1, .int x1), (2, .int x2), (3, .int (x3 + 1))]) rfl rfl ?_
  exact hK18 _ _ _ _ _ _ _ _  hD
def e_Evening_seekFits_18 : Nat → (Nat → Nat → Nat) → (Nat → Nat → Int32) → (Nat → Nat → Nat → Int32) → (Nat → Nat → Nat → Int64) → Int32 → Int32 → Int32 → Option (Unit × (Nat → Nat → Nat) × (Nat → Nat → Int32) × (Nat → Nat → Nat → Int32) × (Nat → Nat → Nat → Int64))
  | 0, _, _, _, _, _, _, _ => none
  | n + 1, P, F, A, J, x1, x2, x3 => cond (g_cnd .ge x3 36)
    (some ((), P, F, A, J))
    ((c_chk 6 (P 32 4)).bind fun q9 =>
    (e_House_mayBeLeft P F A J q9 x3).bind fun v10 =>
    cond (g_cnd .eq v10 0)
    (e_Evening_seekFits_113 (e_Evening_seekFits_18 n) n P F A J x1 x2 x3)
    ((e_State_copy P F A J 33 2).bind fun (_, P13, F14, A15, J16) =>
    (c_st A15 33 3 6 x1 x3).bind fun A17 =>
    (c_chk 6 (P13 32 4)).bind fun q18 =>
    (c_chk 6 (P13 32 4)).bind fun q19 =>
    (e_Sleep_goTill n P13 F14 A17 J16 (F14 q18 18) q19 33).bind fun (_, P21, F22, A23, J24) =>
    (e_Told_isSoIn n P21 F22 A23 J24 33 x2).bind fun v25 =>
    cond (g_cnd .eq v25 0)
    (e_Evening_seekFits_113 (e_Evening_seekFits_18 n) n P21 F22 A23 J24 x1 x2 x3)
    ((c_st A23 35 0 37 (F22 32 15) x3).bind fun A27 =>
    (c_pf F22 32 15 ((F22 32 15) + 1)).bind fun F28 =>
    (e_Evening_seekFits_18 n) P21 F28 A27 J24 x1 x2 (x3 + 1))))
set_option maxRecDepth 10000 in
theorem t_e_Evening_seekFits_18 (ht : ∀ ci k, t.1 ci k = k_ty ci k) {n : Nat}  {P : Nat → Nat → Nat} {F : Nat → Nat → Int32} {A : Nat → Nat → Nat → Int32} {J : Nat → Nat → Nat → Int64} {x1 : Int32} {x2 : Int32} {x3 : Int32}  {w : Unit × (Nat → Nat → Nat) × (Nat → Nat → Int32) × (Nat → Nat → Nat → Int32) × (Nat → Nat → Nat → Int64)} : e_Evening_seekFits_18 n P F A J x1 x2 x3 = some w → k_run t lg (d + 5) 17 18 [(0, .ref (32 * 1024)), (1, .int x1), (2, .int x2), (3, .int x3)] [] (c_h c B P F A J) (none, c_h c B w.2.1 w.2.2.1 w.2.2.2.1 w.2.2.2.2) := by
  induction n generalizing P F A J x1 x2 x3 w with
  | zero => intro hD; cases hD
  | succ n ih =>
    intro hD
    have hK18 : ∀ (P : Nat → Nat → Nat) (F : Nat → Nat → Int32) (A : Nat → Nat → Nat → Int32) (J : Nat → Nat → Nat → Int64) (x1 : Int32) (x2 : Int32) (x3 : Int32) (w : Unit × (Nat → Nat → Nat) × (Nat → Nat → Int32) × (Nat → Nat → Nat → Int32) × (Nat → Nat → Nat → Int64)), e_Evening_seekFits_18 n P F A J x1 x2 x3 = some w → k_run t lg (d + 5) 17 18 [(0, .ref (32 * 1024)), (1, .int x1), (2, .int x2), (3, .int x3)] [] (c_h c B P F A J) (none, c_h c B w.2.1 w.2.2.1 w.2.2.2.1 w.2.2.2.2) := fun _ _ _ _ _ _ _ _  h => ih  h
    unfold e_Evening_seekFits_18 at hD
    refine k_runB (pc' := 21) (loc' := [(0, .ref (32 * 1024)), (1, .int x1), (2, .int x2), (3, .int x3)]) (st' := [.int 36, .int x3]) 2 rfl ?_
    refine k_ic rfl (fun c21_7 => ?_) (fun c21_7 => ?_)
    · rw [c21_7, cond_true] at hD
      cases hD
      exact k_vret rfl rfl
    · rw [c21_7, cond_false] at hD
      refine k_runB (pc' := 25) (loc' := [(0, .ref (32 * 1024)), (1, .int x1), (2, .int x2), (3, .int x3)]) (st' := [.ref (32 * 1024)]) 1 rfl ?_
      obtain ⟨q9, hq9, hD⟩ := Option.bind_eq_some_iff.mp hD
      refine k_gq 32 0 (K := 7) (K2 := 6) (key := 4) rfl rfl rfl rfl rfl hq9 (fun kq9 => ?_)
      refine k_runB (pc' := 29) (loc' := [(0, .ref (32 * 1024)), (1, .int x1), (2, .int x2), (3, .int x3)]) (st' := [.int x3, .ref (q9 * 1024)]) 1 rfl ?_
      obtain ⟨v10, hv10, hD⟩ := Option.bind_eq_some_iff.mp hD
      refine k_runV rfl rfl rfl (c_get (r := q9) (o := 0) (K := 6) kq9 (by decide)) rfl rfl (t_e_House_mayBeLeft (d := d + 4) kq9 hv10) ?_
      refine k_if rfl (fun c32_10 => ?_) (fun c32_10 => ?_)
      · rw [c32_10, cond_true] at hD
        refine k_wk [0, 1, 2, 3] (loc' := [(0, .ref (32 * 1024)), (1, .int x1), (2, .int x2), (3, .int x3)]) rfl rfl ?_
        exact t_e_Evening_seekFits_113 ht hK18  hD
      · rw [c32_10, cond_false] at hD
        refine k_runB (pc' := 36) (loc' := [(0, .ref (32 * 1024)), (1, .int x1), (2, .int x2), (3, .int x3)]) (st' := [.ref (32 * 1024)]) 1 rfl ?_
        refine k_gf 32 0 (K := 7) rfl rfl rfl rfl rfl ?_
        refine k_runB (pc' := 40) (loc' := [(0, .ref (32 * 1024)), (1, .int x1), (2, .int x2), (3, .int x3)]) (st' := [.ref (32 * 1024), .ref (33 * 1024)]) 1 rfl ?_
        refine k_gf 32 0 (K := 7) rfl rfl rfl rfl rfl ?_
        obtain ⟨⟨v12, P13, F14, A15, J16⟩, hv12, hD⟩ := Option.bind_eq_some_iff.mp hD
        dsimp only at hD
        refine k_runV rfl rfl rfl (c_get (r := 33) (o := 0) (K := 2) rfl (by decide)) rfl rfl (t_e_State_copy (d := d + 4) ht rfl rfl hv12) ?_
        refine k_runB (pc' := 47) (loc' := [(0, .ref (32 * 1024)), (1, .int x1), (2, .int x2), (3, .int x3)]) (st' := [.ref (32 * 1024)]) 1 rfl ?_
        refine k_gf 32 0 (K := 7) rfl rfl rfl rfl rfl ?_
        refine k_gf 33 0 (K := 2) rfl rfl rfl rfl rfl ?_
        refine k_runB (pc' := 55) (loc' := [(0, .ref (32 * 1024)), (1, .int x1), (2, .int x2), (3, .int x3)]) (st' := [.int x3, .int x1, .ref (33 * 1024 + 3)]) 2 rfl ?_
        obtain ⟨A17, hA17, hD⟩ := Option.bind_eq_some_iff.mp hD
        refine k_cstI 33 3 (K := 2) rfl rfl rfl rfl (fun _ => rfl) hA17 ?_
        refine k_runB (pc' := 57) (loc' := [(0, .ref (32 * 1024)), (1, .int x1), (2, .int x2), (3, .int x3)]) (st' := [.ref (32 * 1024)]) 1 rfl ?_
        refine k_gf 32 0 (K := 7) rfl rfl rfl rfl rfl ?_
        refine k_runB (pc' := 61) (loc' := [(0, .ref (32 * 1024)), (1, .int x1), (2, .int x2), (3, .int x3)]) (st' := [.ref (32 * 1024), .ref (36 * 1024)]) 1 rfl ?_
        obtain ⟨q18, hq18, hD⟩ := Option.bind_eq_some_iff.mp hD
        refine k_gq 32 0 (K := 7) (K2 := 6) (key := 4) rfl rfl rfl rfl rfl hq18 (fun kq18 => ?_)
        refine k_gf q18 0 (K := 6) kq18 rfl rfl rfl rfl ?_
        refine k_runB (pc' := 68) (loc' := [(0, .ref (32 * 1024)), (1, .int x1), (2, .int x2), (3, .int x3)]) (st' := [.ref (32 * 1024), .int (F14 q18 18), .ref (36 * 1024)]) 1 rfl ?_
        obtain ⟨q19, hq19, hD⟩ := Option.bind_eq_some_iff.mp hD
        refine k_gq 32 0 (K := 7) (K2 := 6) (key := 4) rfl rfl rfl rfl rfl hq19 (fun kq19 => ?_)
        refine k_runB (pc' := 72) (loc' := [(0, .ref (32 * 1024)), (1, .int x1), (2, .int x2), (3, .int x3)]) (st' := [.ref (32 * 1024), .ref (q19 * 1024), .int (F14 q18 18), .ref (36 * 1024)]) 1 rfl ?_
        refine k_gf 32 0 (K := 7) rfl rfl rfl rfl rfl ?_
        obtain ⟨⟨v20, P21, F22, A23, J24⟩, hv20, hD⟩ := Option.bind_eq_some_iff.mp hD
        dsimp only at hD
        refine k_runV rfl rfl rfl (c_get (r := 36) (o := 0) (K := 10) rfl (by decide)) rfl rfl (t_e_Sleep_goTill (d := d) ht kq19 rfl hv20) ?_
        refine k_runB (pc' := 79) (loc' := [(0, .ref (32 * 1024)), (1, .int x1), (2, .int x2), (3, .int x3)]) (st' := [.ref (32 * 1024)]) 1 rfl ?_
        refine k_gf 32 0 (K := 7) rfl rfl rfl rfl rfl ?_
        refine k_runB (pc' := 83) (loc' := [(0, .ref (32 * 1024)), (1, .int x1), (2, .int x2), (3, .int x3)]) (st' := [.ref (32 * 1024), .ref (25 * 1024)]) 1 rfl ?_
        refine k_gf 32 0 (K := 7) rfl rfl rfl rfl rfl ?_
        refine k_runB (pc' := 87) (loc' := [(0, .ref (32 * 1024)), (1, .int x1), (2, .int x2), (3, .int x3)]) (st' := [.int x2, .ref (33 * 1024), .ref (25 * 1024)]) 1 rfl ?_
        obtain ⟨v25, hv25, hD⟩ := Option.bind_eq_some_iff.mp hD
        refine k_runV rfl rfl rfl (c_get (r := 25) (o := 0) (K := 4) rfl (by decide)) rfl rfl (t_e_Told_isSoIn (d := d + 4) rfl hv25) ?_
        refine k_if rfl (fun c90_25 => ?_) (fun c90_25 => ?_)
        · rw [c90_25, cond_true] at hD
          refine k_wk [0, 1, 2, 3] (loc' := [(0, .ref (32 * 1024)), (1, .int x1), (2, .int x2), (3, .int x3)]) rfl rfl ?_
          exact t_e_Evening_seekFits_113 ht hK18  hD
        · rw [c90_25, cond_false] at hD
          refine k_runB (pc' := 94) (loc' := [(0, .ref (32 * 1024)), (1, .int x1), (2, .int x2), (3, .int x3)]) (st' := [.ref (32 * 1024)]) 1 rfl ?_
          refine k_gf 32 0 (K := 7) rfl rfl rfl rfl rfl ?_
          refine k_runB (pc' := 98) (loc' := [(0, .ref (32 * 1024)), (1, .int x1), (2, .int x2), (3, .int x3)]) (st' := [.ref (32 * 1024), .ref (35 * 1024 + 0)]) 1 rfl ?_
          refine k_gf 32 0 (K := 7) rfl rfl rfl rfl rfl ?_
          refine k_runB (pc' := 102) (loc' := [(0, .ref (32 * 1024)), (1, .int x1), (2, .int x2), (3, .int x3)]) (st' := [.int x3, .int (F22 32 15), .ref (35 * 1024 + 0)]) 1 rfl ?_
          obtain ⟨A27, hA27, hD⟩ := Option.bind_eq_some_iff.mp hD
          refine k_cstI 35 0 (K := 9) rfl rfl rfl rfl (fun _ => rfl) hA27 ?_
          refine k_runB (pc' := 105) (loc' := [(0, .ref (32 * 1024)), (1, .int x1), (2, .int x2), (3, .int x3)]) (st' := [.ref (32 * 1024), .ref (32 * 1024)]) 2 rfl ?_
          refine k_gf 32 0 (K := 7) rfl rfl rfl rfl rfl ?_
          refine k_runB (pc' := 110) (loc' := [(0, .ref (32 * 1024)), (1, .int x1), (2, .int x2), (3, .int x3)]) (st' := [.int ((F22 32 15) + 1), .ref (32 * 1024)]) 2 rfl ?_
          obtain ⟨F28, hF28, hD⟩ := Option.bind_eq_some_iff.mp hD
          refine k_cpt 32 0 (K := 7) (key := 15) rfl rfl (ht 0 15) rfl rfl rfl hF28 ?_
          refine k_runB (pc' := 18) (loc' := [(0, .ref (32 * 1024)), (1, .int x1), (2, .int x2), (3, .int (x3 + 1))]) (st' := []) 2 rfl ?_
          refine k_wk [0, 1, 2, 3] (loc' := [(0, .ref (32 * 1024)), (1, .int x1), (2, .int x2), (3, .int (x3 + 1))]) rfl rfl ?_
          exact hK18 _ _ _ _ _ _ _ _  hD
/-- SleepWork$Evening.seekFits(II)V  -/
def e_Evening_seekFits (n : Nat) (P : Nat → Nat → Nat) (F : Nat → Nat → Int32) (A : Nat → Nat → Nat → Int32) (J : Nat → Nat → Nat → Int64) (x1 : Int32) (x2 : Int32) : Option (Unit × (Nat → Nat → Nat) × (Nat → Nat → Int32) × (Nat → Nat → Nat → Int32) × (Nat → Nat → Nat → Int64)) :=
  (e_Evening_isAnswered n P F A J 4 x1 x2).bind fun (v1, P2, F3, A4, J5) =>
  cond (g_cnd .eq v1 0)
  ((c_pf F3 32 15 0).bind fun F7 =>
  e_Evening_seekFits_18 n P2 F7 A4 J5 x1 x2 ((-1)))
  (some ((), P2, F3, A4, J5))
set_option maxRecDepth 10000 in
theorem t_e_Evening_seekFits (ht : ∀ ci k, t.1 ci k = k_ty ci k) {n : Nat} {P : Nat → Nat → Nat} {F : Nat → Nat → Int32} {A : Nat → Nat → Nat → Int32} {J : Nat → Nat → Nat → Int64} {x1 : Int32} {x2 : Int32}  {w : Unit × (Nat → Nat → Nat) × (Nat → Nat → Int32) × (Nat → Nat → Nat → Int32) × (Nat → Nat → Nat → Int64)} : e_Evening_seekFits n P F A J x1 x2 = some w → k_run t lg (d + 5) 17 0 [(0, .ref (32 * 1024)), (1, .int x1), (2, .int x2)] [] (c_h c B P F A J) (none, c_h c B w.2.1 w.2.2.1 w.2.2.2.1 w.2.2.2.2) := by
  intro hD
  unfold e_Evening_seekFits at hD
  refine k_runB (pc' := 4) (loc' := [(0, .ref (32 * 1024)), (1, .int x1), (2, .int x2)]) (st' := [.int x2, .int x1, .int 4, .ref (32 * 1024)]) 4 rfl ?_
  obtain ⟨⟨v1, P2, F3, A4, J5⟩, hv1, hD⟩ := Option.bind_eq_some_iff.mp hD
  dsimp only at hD
  refine k_runV rfl rfl rfl (c_get (r := 32) (o := 0) (K := 7) rfl (by decide)) rfl rfl (t_e_Evening_isAnswered (d := d + 2) ht hv1) ?_
  refine k_if rfl (fun c7_5 => ?_) (fun c7_5 => ?_)
  · rw [c7_5, cond_true] at hD
    refine k_runB (pc' := 13) (loc' := [(0, .ref (32 * 1024)), (1, .int x1), (2, .int x2)]) (st' := [.int 0, .ref (32 * 1024)]) 2 rfl ?_
    obtain ⟨F7, hF7, hD⟩ := Option.bind_eq_some_iff.mp hD
    refine k_cpt 32 0 (K := 7) (key := 15) rfl rfl (ht 0 15) rfl rfl rfl hF7 ?_
    refine k_runB (pc' := 18) (loc' := [(0, .ref (32 * 1024)), (1, .int x1), (2, .int x2), (3, .int ((-1)))]) (st' := []) 2 rfl ?_
    refine k_wk [0, 1, 2, 3] (loc' := [(0, .ref (32 * 1024)), (1, .int x1), (2, .int x2), (3, .int ((-1)))]) rfl rfl ?_
    exact t_e_Evening_seekFits_18 ht   hD
  · rw [c7_5, cond_false] at hD
    cases hD
    exact k_vret rfl rfl
end MC
end Qz21
section Qz22
/-! the class's methods as functions (printed by wip/dec2.py) -/
section MC
variable {t : gT} {lg : Nat → Nat} {d : Nat} {c : Nat × Nat} {B : Nat → List gE}
def e_Evening_isSuspect_92 (K2 : (Nat → Nat → Nat) → (Nat → Nat → Int32) → (Nat → Nat → Nat → Int32) → (Nat → Nat → Nat → Int64) → Int32 → Int32 → Int32 → Option (Int32 × (Nat → Nat → Nat) × (Nat → Nat → Int32) × (Nat → Nat → Nat → Int32) × (Nat → Nat → Nat → Int64))) (n : Nat) (P : Nat → Nat → Nat) (F : Nat → Nat → Int32) (A : Nat → Nat → Nat → Int32) (J : Nat → Nat → Nat → Int64) (x1 : Int32) (x2 : Int32) (x3 : Int32) : Option (Int32 × (Nat → Nat → Nat) × (Nat → Nat → Int32) × (Nat → Nat → Nat → Int32) × (Nat → Nat → Nat → Int64)) :=
    K2 P F A J x1 x2 (x3 + 1)
set_option maxRecDepth 10000 in
theorem t_e_Evening_isSuspect_92 (ht : ∀ ci k, t.1 ci k = k_ty ci k) {n : Nat} {K2 : (Nat → Nat → Nat) → (Nat → Nat → Int32) → (Nat → Nat → Nat → Int32) → (Nat → Nat → Nat → Int64) → Int32 → Int32 → Int32 → Option (Int32 × (Nat → Nat → Nat) × (Nat → Nat → Int32) × (Nat → Nat → Nat → Int32) × (Nat → Nat → Nat → Int64))} (hK2 : ∀ (P : Nat → Nat → Nat) (F : Nat → Nat → Int32) (A : Nat → Nat → Nat → Int32) (J : Nat → Nat → Nat → Int64) (x1 : Int32) (x2 : Int32) (x3 : Int32) (w : Int32 × (Nat → Nat → Nat) × (Nat → Nat → Int32) × (Nat → Nat → Nat → Int32) × (Nat → Nat → Nat → Int64)), K2 P F A J x1 x2 x3 = some w → k_run t lg (d + 5) 19 2 [(0, .ref (32 * 1024)), (1, .int x1), (2, .int x2), (3, .int x3)] [] (c_h c B P F A J) (some (.int w.1), c_h c B w.2.1 w.2.2.1 w.2.2.2.1 w.2.2.2.2)) {P : Nat → Nat → Nat} {F : Nat → Nat → Int32} {A : Nat → Nat → Nat → Int32} {J : Nat → Nat → Nat → Int64} {x1 : Int32} {x2 : Int32} {x3 : Int32}  {w : Int32 × (Nat → Nat → Nat) × (Nat → Nat → Int32) × (Nat → Nat → Nat → Int32) × (Nat → Nat → Nat → Int64)} : e_Evening_isSuspect_92 K2 n P F A J x1 x2 x3 = some w → k_run t lg (d + 5) 19 92 [(0, .ref (32 * 1024)), (1, .int x1), (2, .int x2), (3, .int x3)] [] (c_h c B P F A J) (some (.int w.1), c_h c B w.2.1 w.2.2.1 w.2.2.2.1 w.2.2.2.2) := by
  intro hD
  unfold e_Evening_isSuspect_92 at hD
  refine k_runB (pc' := 2) (loc' := [(0, .ref (32 * 1024)), (1, .int x1), (2, .int x2), (3, .int (x3 + 1))]) (st' := []) 2 rfl ?_
  refine k_wk [0, 1, 2, 3] (loc' := [(0, .ref (32 * 1024)), (1, .int x1), (2, .int x2), (3, .int (x3 + 1))]) rfl rfl ?_
  exact hK2 _ _ _ _ _ _ _ _  hD
def e_Evening_isSuspect_2 : Nat → (Nat → Nat → Nat) → (Nat → Nat → Int32) → (Nat → Nat → Nat → Int32) → (Nat → Nat → Nat → Int64) → Int32 → Int32 → Int32 → Option (Int32 × (Nat → Nat → Nat) × (Nat → Nat → Int32) × (Nat → Nat → Nat → Int32) × (Nat → Nat → Nat → Int64))
  | 0, _, _, _, _, _, _, _ => none
  | n + 1, P, F, A, J, x1, x2, x3 => cond (g_cnd .ge x3 36)
    (some (0, P, F, A, J))
    ((c_chk 6 (P 32 4)).bind fun q2 =>
    (e_House_mayBeLeft P F A J q2 x3).bind fun v3 =>
    cond (g_cnd .eq v3 0)
    (e_Evening_isSuspect_92 (e_Evening_isSuspect_2 n) n P F A J x1 x2 x3)
    ((m_ld (A 2 3) 6 x1).bind fun v5 =>
    cond (g_cnd .eq x3 v5)
    (e_Evening_isSuspect_92 (e_Evening_isSuspect_2 n) n P F A J x1 x2 x3)
    ((e_State_copy P F A J 33 2).bind fun (_, P8, F9, A10, J11) =>
    (c_st A10 33 3 6 x1 x3).bind fun A12 =>
    (c_chk 6 (P8 32 4)).bind fun q13 =>
    (c_chk 6 (P8 32 4)).bind fun q14 =>
    (e_Sleep_goTill n P8 F9 A12 J11 (F9 q13 18) q14 33).bind fun (_, P16, F17, A18, J19) =>
    (e_Told_isSoIn n P16 F17 A18 J19 33 x2).bind fun v20 =>
    cond (g_cnd .eq v20 0)
    (e_Evening_isSuspect_92 (e_Evening_isSuspect_2 n) n P16 F17 A18 J19 x1 x2 x3)
    (some (1, P16, F17, A18, J19)))))
set_option maxRecDepth 10000 in
theorem t_e_Evening_isSuspect_2 (ht : ∀ ci k, t.1 ci k = k_ty ci k) {n : Nat}  {P : Nat → Nat → Nat} {F : Nat → Nat → Int32} {A : Nat → Nat → Nat → Int32} {J : Nat → Nat → Nat → Int64} {x1 : Int32} {x2 : Int32} {x3 : Int32}  {w : Int32 × (Nat → Nat → Nat) × (Nat → Nat → Int32) × (Nat → Nat → Nat → Int32) × (Nat → Nat → Nat → Int64)} : e_Evening_isSuspect_2 n P F A J x1 x2 x3 = some w → k_run t lg (d + 5) 19 2 [(0, .ref (32 * 1024)), (1, .int x1), (2, .int x2), (3, .int x3)] [] (c_h c B P F A J) (some (.int w.1), c_h c B w.2.1 w.2.2.1 w.2.2.2.1 w.2.2.2.2) := by
  induction n generalizing P F A J x1 x2 x3 w with
  | zero => intro hD; cases hD
  | succ n ih =>
    intro hD
    have hK2 : ∀ (P : Nat → Nat → Nat) (F : Nat → Nat → Int32) (A : Nat → Nat → Nat → Int32) (J : Nat → Nat → Nat → Int64) (x1 : Int32) (x2 : Int32) (x3 : Int32) (w : Int32 × (Nat → Nat → Nat) × (Nat → Nat → Int32) × (Nat → Nat → Nat → Int32) × (Nat → Nat → Nat → Int64)), e_Evening_isSuspect_2 n P F A J x1 x2 x3 = some w → k_run t lg (d + 5) 19 2 [(0, .ref (32 * 1024)), (1, .int x1), (2, .int x2), (3, .int x3)] [] (c_h c B P F A J) (some (.int w.1), c_h c B w.2.1 w.2.2.1 w.2.2.2.1 w.2.2.2.2) := fun _ _ _ _ _ _ _ _  h => ih  h
    unfold e_Evening_isSuspect_2 at hD
    refine k_runB (pc' := 5) (loc' := [(0, .ref (32 * 1024)), (1, .int x1), (2, .int x2), (3, .int x3)]) (st' := [.int 36, .int x3]) 2 rfl ?_
    refine k_ic rfl (fun c5_0 => ?_) (fun c5_0 => ?_)
    · rw [c5_0, cond_true] at hD
      refine k_runB (pc' := 99) (loc' := [(0, .ref (32 * 1024)), (1, .int x1), (2, .int x2), (3, .int x3)]) (st' := [.int 0]) 1 rfl ?_
      cases hD
      exact k_zret rfl rfl (Or.inl rfl)
    · rw [c5_0, cond_false] at hD
      refine k_runB (pc' := 9) (loc' := [(0, .ref (32 * 1024)), (1, .int x1), (2, .int x2), (3, .int x3)]) (st' := [.ref (32 * 1024)]) 1 rfl ?_
      obtain ⟨q2, hq2, hD⟩ := Option.bind_eq_some_iff.mp hD
      refine k_gq 32 0 (K := 7) (K2 := 6) (key := 4) rfl rfl rfl rfl rfl hq2 (fun kq2 => ?_)
      refine k_runB (pc' := 13) (loc' := [(0, .ref (32 * 1024)), (1, .int x1), (2, .int x2), (3, .int x3)]) (st' := [.int x3, .ref (q2 * 1024)]) 1 rfl ?_
      obtain ⟨v3, hv3, hD⟩ := Option.bind_eq_some_iff.mp hD
      refine k_runV rfl rfl rfl (c_get (r := q2) (o := 0) (K := 6) kq2 (by decide)) rfl rfl (t_e_House_mayBeLeft (d := d + 4) kq2 hv3) ?_
      refine k_if rfl (fun c16_3 => ?_) (fun c16_3 => ?_)
      · rw [c16_3, cond_true] at hD
        refine k_wk [0, 1, 2, 3] (loc' := [(0, .ref (32 * 1024)), (1, .int x1), (2, .int x2), (3, .int x3)]) rfl rfl ?_
        exact t_e_Evening_isSuspect_92 ht hK2  hD
      · rw [c16_3, cond_false] at hD
        refine k_runB (pc' := 21) (loc' := [(0, .ref (32 * 1024)), (1, .int x1), (2, .int x2), (3, .int x3)]) (st' := [.ref (32 * 1024), .int x3]) 2 rfl ?_
        refine k_gf 32 0 (K := 7) rfl rfl rfl rfl rfl ?_
        refine k_gf 2 0 (K := 2) rfl rfl rfl rfl rfl ?_
        refine k_runB (pc' := 28) (loc' := [(0, .ref (32 * 1024)), (1, .int x1), (2, .int x2), (3, .int x3)]) (st' := [.int x1, .ref (2 * 1024 + 3), .int x3]) 1 rfl ?_
        obtain ⟨v5, hv5, hD⟩ := Option.bind_eq_some_iff.mp hD
        refine k_ldI rfl (c_get (r := 2) (o := 3) (K := 2) rfl (by decide)) hv5 ?_
        refine k_ic rfl (fun c29_5 => ?_) (fun c29_5 => ?_)
        · rw [c29_5, cond_true] at hD
          refine k_wk [0, 1, 2, 3] (loc' := [(0, .ref (32 * 1024)), (1, .int x1), (2, .int x2), (3, .int x3)]) rfl rfl ?_
          exact t_e_Evening_isSuspect_92 ht hK2  hD
        · rw [c29_5, cond_false] at hD
          refine k_runB (pc' := 33) (loc' := [(0, .ref (32 * 1024)), (1, .int x1), (2, .int x2), (3, .int x3)]) (st' := [.ref (32 * 1024)]) 1 rfl ?_
          refine k_gf 32 0 (K := 7) rfl rfl rfl rfl rfl ?_
          refine k_runB (pc' := 37) (loc' := [(0, .ref (32 * 1024)), (1, .int x1), (2, .int x2), (3, .int x3)]) (st' := [.ref (32 * 1024), .ref (33 * 1024)]) 1 rfl ?_
          refine k_gf 32 0 (K := 7) rfl rfl rfl rfl rfl ?_
          obtain ⟨⟨v7, P8, F9, A10, J11⟩, hv7, hD⟩ := Option.bind_eq_some_iff.mp hD
          dsimp only at hD
          refine k_runV rfl rfl rfl (c_get (r := 33) (o := 0) (K := 2) rfl (by decide)) rfl rfl (t_e_State_copy (d := d + 4) ht rfl rfl hv7) ?_
          refine k_runB (pc' := 44) (loc' := [(0, .ref (32 * 1024)), (1, .int x1), (2, .int x2), (3, .int x3)]) (st' := [.ref (32 * 1024)]) 1 rfl ?_
          refine k_gf 32 0 (K := 7) rfl rfl rfl rfl rfl ?_
          refine k_gf 33 0 (K := 2) rfl rfl rfl rfl rfl ?_
          refine k_runB (pc' := 52) (loc' := [(0, .ref (32 * 1024)), (1, .int x1), (2, .int x2), (3, .int x3)]) (st' := [.int x3, .int x1, .ref (33 * 1024 + 3)]) 2 rfl ?_
          obtain ⟨A12, hA12, hD⟩ := Option.bind_eq_some_iff.mp hD
          refine k_cstI 33 3 (K := 2) rfl rfl rfl rfl (fun _ => rfl) hA12 ?_
          refine k_runB (pc' := 54) (loc' := [(0, .ref (32 * 1024)), (1, .int x1), (2, .int x2), (3, .int x3)]) (st' := [.ref (32 * 1024)]) 1 rfl ?_
          refine k_gf 32 0 (K := 7) rfl rfl rfl rfl rfl ?_
          refine k_runB (pc' := 58) (loc' := [(0, .ref (32 * 1024)), (1, .int x1), (2, .int x2), (3, .int x3)]) (st' := [.ref (32 * 1024), .ref (36 * 1024)]) 1 rfl ?_
          obtain ⟨q13, hq13, hD⟩ := Option.bind_eq_some_iff.mp hD
          refine k_gq 32 0 (K := 7) (K2 := 6) (key := 4) rfl rfl rfl rfl rfl hq13 (fun kq13 => ?_)
          refine k_gf q13 0 (K := 6) kq13 rfl rfl rfl rfl ?_
          refine k_runB (pc' := 65) (loc' := [(0, .ref (32 * 1024)), (1, .int x1), (2, .int x2), (3, .int x3)]) (st' := [.ref (32 * 1024), .int (F9 q13 18), .ref (36 * 1024)]) 1 rfl ?_
          obtain ⟨q14, hq14, hD⟩ := Option.bind_eq_some_iff.mp hD
          refine k_gq 32 0 (K := 7) (K2 := 6) (key := 4) rfl rfl rfl rfl rfl hq14 (fun kq14 => ?_)
          refine k_runB (pc' := 69) (loc' := [(0, .ref (32 * 1024)), (1, .int x1), (2, .int x2), (3, .int x3)]) (st' := [.ref (32 * 1024), .ref (q14 * 1024), .int (F9 q13 18), .ref (36 * 1024)]) 1 rfl ?_
          refine k_gf 32 0 (K := 7) rfl rfl rfl rfl rfl ?_
          obtain ⟨⟨v15, P16, F17, A18, J19⟩, hv15, hD⟩ := Option.bind_eq_some_iff.mp hD
          dsimp only at hD
          refine k_runV rfl rfl rfl (c_get (r := 36) (o := 0) (K := 10) rfl (by decide)) rfl rfl (t_e_Sleep_goTill (d := d) ht kq14 rfl hv15) ?_
          refine k_runB (pc' := 76) (loc' := [(0, .ref (32 * 1024)), (1, .int x1), (2, .int x2), (3, .int x3)]) (st' := [.ref (32 * 1024)]) 1 rfl ?_
          refine k_gf 32 0 (K := 7) rfl rfl rfl rfl rfl ?_
          refine k_runB (pc' := 80) (loc' := [(0, .ref (32 * 1024)), (1, .int x1), (2, .int x2), (3, .int x3)]) (st' := [.ref (32 * 1024), .ref (25 * 1024)]) 1 rfl ?_
          refine k_gf 32 0 (K := 7) rfl rfl rfl rfl rfl ?_
          refine k_runB (pc' := 84) (loc' := [(0, .ref (32 * 1024)), (1, .int x1), (2, .int x2), (3, .int x3)]) (st' := [.int x2, .ref (33 * 1024), .ref (25 * 1024)]) 1 rfl ?_
          obtain ⟨v20, hv20, hD⟩ := Option.bind_eq_some_iff.mp hD
          refine k_runV rfl rfl rfl (c_get (r := 25) (o := 0) (K := 4) rfl (by decide)) rfl rfl (t_e_Told_isSoIn (d := d + 4) rfl hv20) ?_
          refine k_if rfl (fun c87_20 => ?_) (fun c87_20 => ?_)
          · rw [c87_20, cond_true] at hD
            refine k_wk [0, 1, 2, 3] (loc' := [(0, .ref (32 * 1024)), (1, .int x1), (2, .int x2), (3, .int x3)]) rfl rfl ?_
            exact t_e_Evening_isSuspect_92 ht hK2  hD
          · rw [c87_20, cond_false] at hD
            refine k_runB (pc' := 91) (loc' := [(0, .ref (32 * 1024)), (1, .int x1), (2, .int x2), (3, .int x3)]) (st' := [.int 1]) 1 rfl ?_
            cases hD
            exact k_zret rfl rfl (Or.inr rfl)
/-- SleepWork$Evening.isSuspect(II)Z  -/
def e_Evening_isSuspect (n : Nat) (P : Nat → Nat → Nat) (F : Nat → Nat → Int32) (A : Nat → Nat → Nat → Int32) (J : Nat → Nat → Nat → Int64) (x1 : Int32) (x2 : Int32) : Option (Int32 × (Nat → Nat → Nat) × (Nat → Nat → Int32) × (Nat → Nat → Nat → Int32) × (Nat → Nat → Nat → Int64)) :=
  e_Evening_isSuspect_2 n P F A J x1 x2 ((-1))
set_option maxRecDepth 10000 in
theorem t_e_Evening_isSuspect (ht : ∀ ci k, t.1 ci k = k_ty ci k) {n : Nat} {P : Nat → Nat → Nat} {F : Nat → Nat → Int32} {A : Nat → Nat → Nat → Int32} {J : Nat → Nat → Nat → Int64} {x1 : Int32} {x2 : Int32}  {w : Int32 × (Nat → Nat → Nat) × (Nat → Nat → Int32) × (Nat → Nat → Nat → Int32) × (Nat → Nat → Nat → Int64)} : e_Evening_isSuspect n P F A J x1 x2 = some w → k_run t lg (d + 5) 19 0 [(0, .ref (32 * 1024)), (1, .int x1), (2, .int x2)] [] (c_h c B P F A J) (some (.int w.1), c_h c B w.2.1 w.2.2.1 w.2.2.2.1 w.2.2.2.2) := by
  intro hD
  unfold e_Evening_isSuspect at hD
  refine k_runB (pc' := 2) (loc' := [(0, .ref (32 * 1024)), (1, .int x1), (2, .int x2), (3, .int ((-1)))]) (st' := []) 2 rfl ?_
  refine k_wk [0, 1, 2, 3] (loc' := [(0, .ref (32 * 1024)), (1, .int x1), (2, .int x2), (3, .int ((-1)))]) rfl rfl ?_
  exact t_e_Evening_isSuspect_2 ht   hD
def e_Evening_suspectBits_30 (K4 : (Nat → Nat → Nat) → (Nat → Nat → Int32) → (Nat → Nat → Nat → Int32) → (Nat → Nat → Nat → Int64) → Int32 → Int32 → Int32 → Option (Int32 × (Nat → Nat → Nat) × (Nat → Nat → Int32) × (Nat → Nat → Nat → Int32) × (Nat → Nat → Nat → Int64))) (n : Nat) (P : Nat → Nat → Nat) (F : Nat → Nat → Int32) (A : Nat → Nat → Nat → Int32) (J : Nat → Nat → Nat → Int64) (x1 : Int32) (x2 : Int32) (x3 : Int32) : Option (Int32 × (Nat → Nat → Nat) × (Nat → Nat → Int32) × (Nat → Nat → Nat → Int32) × (Nat → Nat → Nat → Int64)) :=
    K4 P F A J x1 x2 (x3 + 1)
set_option maxRecDepth 10000 in
theorem t_e_Evening_suspectBits_30 (ht : ∀ ci k, t.1 ci k = k_ty ci k) {n : Nat} {K4 : (Nat → Nat → Nat) → (Nat → Nat → Int32) → (Nat → Nat → Nat → Int32) → (Nat → Nat → Nat → Int64) → Int32 → Int32 → Int32 → Option (Int32 × (Nat → Nat → Nat) × (Nat → Nat → Int32) × (Nat → Nat → Nat → Int32) × (Nat → Nat → Nat → Int64))} (hK4 : ∀ (P : Nat → Nat → Nat) (F : Nat → Nat → Int32) (A : Nat → Nat → Nat → Int32) (J : Nat → Nat → Nat → Int64) (x1 : Int32) (x2 : Int32) (x3 : Int32) (w : Int32 × (Nat → Nat → Nat) × (Nat → Nat → Int32) × (Nat → Nat → Nat → Int32) × (Nat → Nat → Nat → Int64)), K4 P F A J x1 x2 x3 = some w → k_run t lg (d + 6) 18 4 [(0, .ref (32 * 1024)), (1, .int x1), (2, .int x2), (3, .int x3)] [] (c_h c B P F A J) (some (.int w.1), c_h c B w.2.1 w.2.2.1 w.2.2.2.1 w.2.2.2.2)) {P : Nat → Nat → Nat} {F : Nat → Nat → Int32} {A : Nat → Nat → Nat → Int32} {J : Nat → Nat → Nat → Int64} {x1 : Int32} {x2 : Int32} {x3 : Int32}  {w : Int32 × (Nat → Nat → Nat) × (Nat → Nat → Int32) × (Nat → Nat → Nat → Int32) × (Nat → Nat → Nat → Int64)} : e_Evening_suspectBits_30 K4 n P F A J x1 x2 x3 = some w → k_run t lg (d + 6) 18 30 [(0, .ref (32 * 1024)), (1, .int x1), (2, .int x2), (3, .int x3)] [] (c_h c B P F A J) (some (.int w.1), c_h c B w.2.1 w.2.2.1 w.2.2.2.1 w.2.2.2.2) := by
  intro hD
  unfold e_Evening_suspectBits_30 at hD
  refine k_runB (pc' := 4) (loc' := [(0, .ref (32 * 1024)), (1, .int x1), (2, .int x2), (3, .int (x3 + 1))]) (st' := []) 2 rfl ?_
  refine k_wk [0, 1, 2, 3] (loc' := [(0, .ref (32 * 1024)), (1, .int x1), (2, .int x2), (3, .int (x3 + 1))]) rfl rfl ?_
  exact hK4 _ _ _ _ _ _ _ _  hD
def e_Evening_suspectBits_4 : Nat → (Nat → Nat → Nat) → (Nat → Nat → Int32) → (Nat → Nat → Nat → Int32) → (Nat → Nat → Nat → Int64) → Int32 → Int32 → Int32 → Option (Int32 × (Nat → Nat → Nat) × (Nat → Nat → Int32) × (Nat → Nat → Nat → Int32) × (Nat → Nat → Nat → Int64))
  | 0, _, _, _, _, _, _, _ => none
  | n + 1, P, F, A, J, x1, x2, x3 => (c_chk 6 (P 32 4)).bind fun q1 =>
    cond (g_cnd .ge x3 (F q1 17))
    (some (x2, P, F, A, J))
    ((e_Evening_isSuspect n P F A J x3 x1).bind fun (v3, P4, F5, A6, J7) =>
    cond (g_cnd .eq v3 0)
    (e_Evening_suspectBits_30 (e_Evening_suspectBits_4 n) n P4 F5 A6 J7 x1 x2 x3)
    (e_Evening_suspectBits_30 (e_Evening_suspectBits_4 n) n P4 F5 A6 J7 x1 (x2 ||| ((1 : Int32) <<< (x3 &&& 31))) x3))
set_option maxRecDepth 10000 in
theorem t_e_Evening_suspectBits_4 (ht : ∀ ci k, t.1 ci k = k_ty ci k) {n : Nat}  {P : Nat → Nat → Nat} {F : Nat → Nat → Int32} {A : Nat → Nat → Nat → Int32} {J : Nat → Nat → Nat → Int64} {x1 : Int32} {x2 : Int32} {x3 : Int32}  {w : Int32 × (Nat → Nat → Nat) × (Nat → Nat → Int32) × (Nat → Nat → Nat → Int32) × (Nat → Nat → Nat → Int64)} : e_Evening_suspectBits_4 n P F A J x1 x2 x3 = some w → k_run t lg (d + 6) 18 4 [(0, .ref (32 * 1024)), (1, .int x1), (2, .int x2), (3, .int x3)] [] (c_h c B P F A J) (some (.int w.1), c_h c B w.2.1 w.2.2.1 w.2.2.2.1 w.2.2.2.2) := by
  induction n generalizing P F A J x1 x2 x3 w with
  | zero => intro hD; cases hD
  | succ n ih =>
    intro hD
    have hK4 : ∀ (P : Nat → Nat → Nat) (F : Nat → Nat → Int32) (A : Nat → Nat → Nat → Int32) (J : Nat → Nat → Nat → Int64) (x1 : Int32) (x2 : Int32) (x3 : Int32) (w : Int32 × (Nat → Nat → Nat) × (Nat → Nat → Int32) × (Nat → Nat → Nat → Int32) × (Nat → Nat → Nat → Int64)), e_Evening_suspectBits_4 n P F A J x1 x2 x3 = some w → k_run t lg (d + 6) 18 4 [(0, .ref (32 * 1024)), (1, .int x1), (2, .int x2), (3, .int x3)] [] (c_h c B P F A J) (some (.int w.1), c_h c B w.2.1 w.2.2.1 w.2.2.2.1 w.2.2.2.2) := fun _ _ _ _ _ _ _ _  h => ih  h
    unfold e_Evening_suspectBits_4 at hD
    refine k_runB (pc' := 6) (loc' := [(0, .ref (32 * 1024)), (1, .int x1), (2, .int x2), (3, .int x3)]) (st' := [.ref (32 * 1024), .int x3]) 2 rfl ?_
    obtain ⟨q1, hq1, hD⟩ := Option.bind_eq_some_iff.mp hD
    refine k_gq 32 0 (K := 7) (K2 := 6) (key := 4) rfl rfl rfl rfl rfl hq1 (fun kq1 => ?_)
    refine k_gf q1 0 (K := 6) kq1 rfl rfl rfl rfl ?_
    refine k_ic rfl (fun c12_1 => ?_) (fun c12_1 => ?_)
    · rw [c12_1, cond_true] at hD
      refine k_runB (pc' := 37) (loc' := [(0, .ref (32 * 1024)), (1, .int x1), (2, .int x2), (3, .int x3)]) (st' := [.int x2]) 1 rfl ?_
      cases hD
      exact k_iret rfl rfl
    · rw [c12_1, cond_false] at hD
      refine k_runB (pc' := 18) (loc' := [(0, .ref (32 * 1024)), (1, .int x1), (2, .int x2), (3, .int x3)]) (st' := [.int x1, .int x3, .ref (32 * 1024)]) 3 rfl ?_
      obtain ⟨⟨v3, P4, F5, A6, J7⟩, hv3, hD⟩ := Option.bind_eq_some_iff.mp hD
      dsimp only at hD
      refine k_runV rfl rfl rfl (c_get (r := 32) (o := 0) (K := 7) rfl (by decide)) rfl rfl (t_e_Evening_isSuspect (d := d) ht hv3) ?_
      refine k_if rfl (fun c21_7 => ?_) (fun c21_7 => ?_)
      · rw [c21_7, cond_true] at hD
        refine k_wk [0, 1, 2, 3] (loc' := [(0, .ref (32 * 1024)), (1, .int x1), (2, .int x2), (3, .int x3)]) rfl rfl ?_
        exact t_e_Evening_suspectBits_30 ht hK4  hD
      · rw [c21_7, cond_false] at hD
        refine k_runB (pc' := 30) (loc' := [(0, .ref (32 * 1024)), (1, .int x1), (2, .int (x2 ||| ((1 : Int32) <<< (x3 &&& 31)))), (3, .int x3)]) (st' := []) 6 rfl ?_
        refine k_wk [0, 1, 2, 3] (loc' := [(0, .ref (32 * 1024)), (1, .int x1), (2, .int (x2 ||| ((1 : Int32) <<< (x3 &&& 31)))), (3, .int x3)]) rfl rfl ?_
        exact t_e_Evening_suspectBits_30 ht hK4  hD
/-- SleepWork$Evening.suspectBits(I)I  -/
def e_Evening_suspectBits (n : Nat) (P : Nat → Nat → Nat) (F : Nat → Nat → Int32) (A : Nat → Nat → Nat → Int32) (J : Nat → Nat → Nat → Int64) (x1 : Int32) : Option (Int32 × (Nat → Nat → Nat) × (Nat → Nat → Int32) × (Nat → Nat → Nat → Int32) × (Nat → Nat → Nat → Int64)) :=
  e_Evening_suspectBits_4 n P F A J x1 0 0
set_option maxRecDepth 10000 in
theorem t_e_Evening_suspectBits (ht : ∀ ci k, t.1 ci k = k_ty ci k) {n : Nat} {P : Nat → Nat → Nat} {F : Nat → Nat → Int32} {A : Nat → Nat → Nat → Int32} {J : Nat → Nat → Nat → Int64} {x1 : Int32}  {w : Int32 × (Nat → Nat → Nat) × (Nat → Nat → Int32) × (Nat → Nat → Nat → Int32) × (Nat → Nat → Nat → Int64)} : e_Evening_suspectBits n P F A J x1 = some w → k_run t lg (d + 6) 18 0 [(0, .ref (32 * 1024)), (1, .int x1)] [] (c_h c B P F A J) (some (.int w.1), c_h c B w.2.1 w.2.2.1 w.2.2.2.1 w.2.2.2.2) := by
  intro hD
  unfold e_Evening_suspectBits at hD
  refine k_runB (pc' := 4) (loc' := [(0, .ref (32 * 1024)), (1, .int x1), (2, .int 0), (3, .int 0)]) (st' := []) 4 rfl ?_
  refine k_wk [0, 1, 2, 3] (loc' := [(0, .ref (32 * 1024)), (1, .int x1), (2, .int 0), (3, .int 0)]) rfl rfl ?_
  exact t_e_Evening_suspectBits_4 ht   hD
def e_Evening_fittingPairs_133 (K6 : (Nat → Nat → Nat) → (Nat → Nat → Int32) → (Nat → Nat → Nat → Int32) → (Nat → Nat → Nat → Int64) → Int32 → Int32 → Int32 → Int32 → Int32 → Option (Int32 × (Nat → Nat → Nat) × (Nat → Nat → Int32) × (Nat → Nat → Nat → Int32) × (Nat → Nat → Nat → Int64))) (n : Nat) (P : Nat → Nat → Nat) (F : Nat → Nat → Int32) (A : Nat → Nat → Nat → Int32) (J : Nat → Nat → Nat → Int64) (x1 : Int32) (x2 : Int32) (x3 : Int32) (x4 : Int32) (x5 : Int32) : Option (Int32 × (Nat → Nat → Nat) × (Nat → Nat → Int32) × (Nat → Nat → Nat → Int32) × (Nat → Nat → Nat → Int64)) :=
    K6 P F A J x1 x2 x3 x4 (x5 + 1)
set_option maxRecDepth 10000 in
theorem t_e_Evening_fittingPairs_133 (ht : ∀ ci k, t.1 ci k = k_ty ci k) {n : Nat} {K6 : (Nat → Nat → Nat) → (Nat → Nat → Int32) → (Nat → Nat → Nat → Int32) → (Nat → Nat → Nat → Int64) → Int32 → Int32 → Int32 → Int32 → Int32 → Option (Int32 × (Nat → Nat → Nat) × (Nat → Nat → Int32) × (Nat → Nat → Nat → Int32) × (Nat → Nat → Nat → Int64))} (hK6 : ∀ (P : Nat → Nat → Nat) (F : Nat → Nat → Int32) (A : Nat → Nat → Nat → Int32) (J : Nat → Nat → Nat → Int64) (x1 : Int32) (x2 : Int32) (x3 : Int32) (x4 : Int32) (x5 : Int32) (w : Int32 × (Nat → Nat → Nat) × (Nat → Nat → Int32) × (Nat → Nat → Nat → Int32) × (Nat → Nat → Nat → Int64)), K6 P F A J x1 x2 x3 x4 x5 = some w → k_run t lg (d + 5) 20 6 [(0, .ref (32 * 1024)), (1, .int x1), (2, .int x2), (3, .int x3), (4, .int x4), (5, .int x5)] [] (c_h c B P F A J) (some (.int w.1), c_h c B w.2.1 w.2.2.1 w.2.2.2.1 w.2.2.2.2)) {P : Nat → Nat → Nat} {F : Nat → Nat → Int32} {A : Nat → Nat → Nat → Int32} {J : Nat → Nat → Nat → Int64} {x1 : Int32} {x2 : Int32} {x3 : Int32} {x4 : Int32} {x5 : Int32}  {w : Int32 × (Nat → Nat → Nat) × (Nat → Nat → Int32) × (Nat → Nat → Nat → Int32) × (Nat → Nat → Nat → Int64)} : e_Evening_fittingPairs_133 K6 n P F A J x1 x2 x3 x4 x5 = some w → k_run t lg (d + 5) 20 133 [(0, .ref (32 * 1024)), (1, .int x1), (2, .int x2), (3, .int x3), (4, .int x4), (5, .int x5)] [] (c_h c B P F A J) (some (.int w.1), c_h c B w.2.1 w.2.2.1 w.2.2.2.1 w.2.2.2.2) := by
  intro hD
  unfold e_Evening_fittingPairs_133 at hD
  refine k_runB (pc' := 6) (loc' := [(0, .ref (32 * 1024)), (1, .int x1), (2, .int x2), (3, .int x3), (4, .int x4), (5, .int (x5 + 1))]) (st' := []) 2 rfl ?_
  refine k_wk [0, 1, 2, 3, 4, 5] (loc' := [(0, .ref (32 * 1024)), (1, .int x1), (2, .int x2), (3, .int x3), (4, .int x4), (5, .int (x5 + 1))]) rfl rfl ?_
  exact hK6 _ _ _ _ _ _ _ _ _ _  hD
def e_Evening_fittingPairs_127 (K6 : (Nat → Nat → Nat) → (Nat → Nat → Int32) → (Nat → Nat → Nat → Int32) → (Nat → Nat → Nat → Int64) → Int32 → Int32 → Int32 → Int32 → Int32 → Option (Int32 × (Nat → Nat → Nat) × (Nat → Nat → Int32) × (Nat → Nat → Nat → Int32) × (Nat → Nat → Nat → Int64))) (K16 : (Nat → Nat → Nat) → (Nat → Nat → Int32) → (Nat → Nat → Nat → Int32) → (Nat → Nat → Nat → Int64) → Int32 → Int32 → Int32 → Int32 → Int32 → Int32 → Option (Int32 × (Nat → Nat → Nat) × (Nat → Nat → Int32) × (Nat → Nat → Nat → Int32) × (Nat → Nat → Nat → Int64))) (n : Nat) (P : Nat → Nat → Nat) (F : Nat → Nat → Int32) (A : Nat → Nat → Nat → Int32) (J : Nat → Nat → Nat → Int64) (x1 : Int32) (x2 : Int32) (x3 : Int32) (x4 : Int32) (x5 : Int32) (x6 : Int32) : Option (Int32 × (Nat → Nat → Nat) × (Nat → Nat → Int32) × (Nat → Nat → Nat → Int32) × (Nat → Nat → Nat → Int64)) :=
    K16 P F A J x1 x2 x3 x4 x5 (x6 + 1)
set_option maxRecDepth 10000 in
theorem t_e_Evening_fittingPairs_127 (ht : ∀ ci k, t.1 ci k = k_ty ci k) {n : Nat} {K6 : (Nat → Nat → Nat) → (Nat → Nat → Int32) → (Nat → Nat → Nat → Int32) → (Nat → Nat → Nat → Int64) → Int32 → Int32 → Int32 → Int32 → Int32 → Option (Int32 × (Nat → Nat → Nat) × (Nat → Nat → Int32) × (Nat → Nat → Nat → Int32) × (Nat → Nat → Nat → Int64))} {K16 : (Nat → Nat → Nat) → (Nat → Nat → Int32) → (Nat → Nat → Nat → Int32) → (Nat → Nat → Nat → Int64) → Int32 → Int32 → Int32 → Int32 → Int32 → Int32 → Option (Int32 × (Nat → Nat → Nat) × (Nat → Nat → Int32) × (Nat → Nat → Nat → Int32) × (Nat → Nat → Nat → Int64))} (hK6 : ∀ (P : Nat → Nat → Nat) (F : Nat → Nat → Int32) (A : Nat → Nat → Nat → Int32) (J : Nat → Nat → Nat → Int64) (x1 : Int32) (x2 : Int32) (x3 : Int32) (x4 : Int32) (x5 : Int32) (w : Int32 × (Nat → Nat → Nat) × (Nat → Nat → Int32) × (Nat → Nat → Nat → Int32) × (Nat → Nat → Nat → Int64)), K6 P F A J x1 x2 x3 x4 x5 = some w → k_run t lg (d + 5) 20 6 [(0, .ref (32 * 1024)), (1, .int x1), (2, .int x2), (3, .int x3), (4, .int x4), (5, .int x5)] [] (c_h c B P F A J) (some (.int w.1), c_h c B w.2.1 w.2.2.1 w.2.2.2.1 w.2.2.2.2)) (hK16 : ∀ (P : Nat → Nat → Nat) (F : Nat → Nat → Int32) (A : Nat → Nat → Nat → Int32) (J : Nat → Nat → Nat → Int64) (x1 : Int32) (x2 : Int32) (x3 : Int32) (x4 : Int32) (x5 : Int32) (x6 : Int32) (w : Int32 × (Nat → Nat → Nat) × (Nat → Nat → Int32) × (Nat → Nat → Nat → Int32) × (Nat → Nat → Nat → Int64)), K16 P F A J x1 x2 x3 x4 x5 x6 = some w → k_run t lg (d + 5) 20 16 [(0, .ref (32 * 1024)), (1, .int x1), (2, .int x2), (3, .int x3), (4, .int x4), (5, .int x5), (6, .int x6)] [] (c_h c B P F A J) (some (.int w.1), c_h c B w.2.1 w.2.2.1 w.2.2.2.1 w.2.2.2.2)) {P : Nat → Nat → Nat} {F : Nat → Nat → Int32} {A : Nat → Nat → Nat → Int32} {J : Nat → Nat → Nat → Int64} {x1 : Int32} {x2 : Int32} {x3 : Int32} {x4 : Int32} {x5 : Int32} {x6 : Int32}  {w : Int32 × (Nat → Nat → Nat) × (Nat → Nat → Int32) × (Nat → Nat → Nat → Int32) × (Nat → Nat → Nat → Int64)} : e_Evening_fittingPairs_127 K6 K16 n P F A J x1 x2 x3 x4 x5 x6 = some w → k_run t lg (d + 5) 20 127 [(0, .ref (32 * 1024)), (1, .int x1), (2, .int x2), (3, .int x3), (4, .int x4), (5, .int x5), (6, .int x6)] [] (c_h c B P F A J) (some (.int w.1), c_h c B w.2.1 w.2.2.1 w.2.2.2.1 w.2.2.2.2) := by
  intro hD
  unfold e_Evening_fittingPairs_127 at hD
  refine k_runB (pc' := 16) (loc' := [(0, .ref (32 * 1024)), (1, .int x1), (2, .int x2), (3, .int x3), (4, .int x4), (5, .int x5), (6, .int (x6 + 1))]) (st' := []) 2 rfl ?_
  refine k_wk [0, 1, 2, 3, 4, 5, 6] (loc' := [(0, .ref (32 * 1024)), (1, .int x1), (2, .int x2), (3, .int x3), (4, .int x4), (5, .int x5), (6, .int (x6 + 1))]) rfl rfl ?_
  exact hK16 _ _ _ _ _ _ _ _ _ _ _  hD
def e_Evening_fittingPairs_124 (K6 : (Nat → Nat → Nat) → (Nat → Nat → Int32) → (Nat → Nat → Nat → Int32) → (Nat → Nat → Nat → Int64) → Int32 → Int32 → Int32 → Int32 → Int32 → Option (Int32 × (Nat → Nat → Nat) × (Nat → Nat → Int32) × (Nat → Nat → Nat → Int32) × (Nat → Nat → Nat → Int64))) (K16 : (Nat → Nat → Nat) → (Nat → Nat → Int32) → (Nat → Nat → Nat → Int32) → (Nat → Nat → Nat → Int64) → Int32 → Int32 → Int32 → Int32 → Int32 → Int32 → Option (Int32 × (Nat → Nat → Nat) × (Nat → Nat → Int32) × (Nat → Nat → Nat → Int32) × (Nat → Nat → Nat → Int64))) (n : Nat) (P : Nat → Nat → Nat) (F : Nat → Nat → Int32) (A : Nat → Nat → Nat → Int32) (J : Nat → Nat → Nat → Int64) (x1 : Int32) (x2 : Int32) (x3 : Int32) (x5 : Int32) (x6 : Int32) (s0 : Int32) (s1 : Int32) : Option (Int32 × (Nat → Nat → Nat) × (Nat → Nat → Int32) × (Nat → Nat → Nat → Int32) × (Nat → Nat → Nat → Int64)) :=
    e_Evening_fittingPairs_127 K6 K16 n P F A J x1 x2 x3 (s0 + s1) x5 x6
set_option maxRecDepth 10000 in
theorem t_e_Evening_fittingPairs_124 (ht : ∀ ci k, t.1 ci k = k_ty ci k) {n : Nat} {K6 : (Nat → Nat → Nat) → (Nat → Nat → Int32) → (Nat → Nat → Nat → Int32) → (Nat → Nat → Nat → Int64) → Int32 → Int32 → Int32 → Int32 → Int32 → Option (Int32 × (Nat → Nat → Nat) × (Nat → Nat → Int32) × (Nat → Nat → Nat → Int32) × (Nat → Nat → Nat → Int64))} {K16 : (Nat → Nat → Nat) → (Nat → Nat → Int32) → (Nat → Nat → Nat → Int32) → (Nat → Nat → Nat → Int64) → Int32 → Int32 → Int32 → Int32 → Int32 → Int32 → Option (Int32 × (Nat → Nat → Nat) × (Nat → Nat → Int32) × (Nat → Nat → Nat → Int32) × (Nat → Nat → Nat → Int64))} (hK6 : ∀ (P : Nat → Nat → Nat) (F : Nat → Nat → Int32) (A : Nat → Nat → Nat → Int32) (J : Nat → Nat → Nat → Int64) (x1 : Int32) (x2 : Int32) (x3 : Int32) (x4 : Int32) (x5 : Int32) (w : Int32 × (Nat → Nat → Nat) × (Nat → Nat → Int32) × (Nat → Nat → Nat → Int32) × (Nat → Nat → Nat → Int64)), K6 P F A J x1 x2 x3 x4 x5 = some w → k_run t lg (d + 5) 20 6 [(0, .ref (32 * 1024)), (1, .int x1), (2, .int x2), (3, .int x3), (4, .int x4), (5, .int x5)] [] (c_h c B P F A J) (some (.int w.1), c_h c B w.2.1 w.2.2.1 w.2.2.2.1 w.2.2.2.2)) (hK16 : ∀ (P : Nat → Nat → Nat) (F : Nat → Nat → Int32) (A : Nat → Nat → Nat → Int32) (J : Nat → Nat → Nat → Int64) (x1 : Int32) (x2 : Int32) (x3 : Int32) (x4 : Int32) (x5 : Int32) (x6 : Int32) (w : Int32 × (Nat → Nat → Nat) × (Nat → Nat → Int32) × (Nat → Nat → Nat → Int32) × (Nat → Nat → Nat → Int64)), K16 P F A J x1 x2 x3 x4 x5 x6 = some w → k_run t lg (d + 5) 20 16 [(0, .ref (32 * 1024)), (1, .int x1), (2, .int x2), (3, .int x3), (4, .int x4), (5, .int x5), (6, .int x6)] [] (c_h c B P F A J) (some (.int w.1), c_h c B w.2.1 w.2.2.1 w.2.2.2.1 w.2.2.2.2)) {P : Nat → Nat → Nat} {F : Nat → Nat → Int32} {A : Nat → Nat → Nat → Int32} {J : Nat → Nat → Nat → Int64} {x1 : Int32} {x2 : Int32} {x3 : Int32} {x5 : Int32} {x6 : Int32} {s0 : Int32} {s1 : Int32}  {w : Int32 × (Nat → Nat → Nat) × (Nat → Nat → Int32) × (Nat → Nat → Nat → Int32) × (Nat → Nat → Nat → Int64)} : e_Evening_fittingPairs_124 K6 K16 n P F A J x1 x2 x3 x5 x6 s0 s1 = some w → k_run t lg (d + 5) 20 124 [(0, .ref (32 * 1024)), (1, .int x1), (2, .int x2), (3, .int x3), (5, .int x5), (6, .int x6)] [.int s1, .int s0] (c_h c B P F A J) (some (.int w.1), c_h c B w.2.1 w.2.2.1 w.2.2.2.1 w.2.2.2.2) := by
  intro hD
  unfold e_Evening_fittingPairs_124 at hD
  refine k_runB (pc' := 127) (loc' := [(0, .ref (32 * 1024)), (1, .int x1), (2, .int x2), (3, .int x3), (4, .int (s0 + s1)), (5, .int x5), (6, .int x6)]) (st' := []) 2 rfl ?_
  refine k_wk [0, 1, 2, 3, 4, 5, 6] (loc' := [(0, .ref (32 * 1024)), (1, .int x1), (2, .int x2), (3, .int x3), (4, .int (s0 + s1)), (5, .int x5), (6, .int x6)]) rfl rfl ?_
  exact t_e_Evening_fittingPairs_127 ht hK6 hK16  hD
def e_Evening_fittingPairs_16 (K6 : (Nat → Nat → Nat) → (Nat → Nat → Int32) → (Nat → Nat → Nat → Int32) → (Nat → Nat → Nat → Int64) → Int32 → Int32 → Int32 → Int32 → Int32 → Option (Int32 × (Nat → Nat → Nat) × (Nat → Nat → Int32) × (Nat → Nat → Nat → Int32) × (Nat → Nat → Nat → Int64))) : Nat → (Nat → Nat → Nat) → (Nat → Nat → Int32) → (Nat → Nat → Nat → Int32) → (Nat → Nat → Nat → Int64) → Int32 → Int32 → Int32 → Int32 → Int32 → Int32 → Option (Int32 × (Nat → Nat → Nat) × (Nat → Nat → Int32) × (Nat → Nat → Nat → Int32) × (Nat → Nat → Nat → Int64))
  | 0, _, _, _, _, _, _, _, _, _, _ => none
  | n + 1, P, F, A, J, x1, x2, x3, x4, x5, x6 => cond (g_cnd .ge x6 36)
    (e_Evening_fittingPairs_133 K6 n P F A J x1 x2 x3 x4 x5)
    ((c_chk 6 (P 32 4)).bind fun q3 =>
    (e_House_mayBeLeft P F A J q3 x5).bind fun v4 =>
    cond (g_cnd .eq v4 0)
    (e_Evening_fittingPairs_133 K6 n P F A J x1 x2 x3 x4 x5)
    ((c_chk 6 (P 32 4)).bind fun q6 =>
    (e_House_mayBeLeft P F A J q6 x6).bind fun v7 =>
    cond (g_cnd .eq v7 0)
    (e_Evening_fittingPairs_127 K6 (e_Evening_fittingPairs_16 K6 n) n P F A J x1 x2 x3 x4 x5 x6)
    ((e_State_copy P F A J 33 2).bind fun (_, P10, F11, A12, J13) =>
    (c_st A12 33 3 6 x1 x5).bind fun A14 =>
    (c_st A14 33 3 6 x2 x6).bind fun A15 =>
    (c_chk 6 (P10 32 4)).bind fun q16 =>
    (c_chk 6 (P10 32 4)).bind fun q17 =>
    (e_Sleep_goTill n P10 F11 A15 J13 (F11 q16 18) q17 33).bind fun (_, P19, F20, A21, J22) =>
    (e_Told_isSoIn n P19 F20 A21 J22 33 x3).bind fun v23 =>
    cond (g_cnd .eq v23 0)
    (e_Evening_fittingPairs_124 K6 (e_Evening_fittingPairs_16 K6 n) n P19 F20 A21 J22 x1 x2 x3 x5 x6 x4 0)
    (e_Evening_fittingPairs_124 K6 (e_Evening_fittingPairs_16 K6 n) n P19 F20 A21 J22 x1 x2 x3 x5 x6 x4 1))))
set_option maxRecDepth 10000 in
theorem t_e_Evening_fittingPairs_16 (ht : ∀ ci k, t.1 ci k = k_ty ci k) {n : Nat} {K6 : (Nat → Nat → Nat) → (Nat → Nat → Int32) → (Nat → Nat → Nat → Int32) → (Nat → Nat → Nat → Int64) → Int32 → Int32 → Int32 → Int32 → Int32 → Option (Int32 × (Nat → Nat → Nat) × (Nat → Nat → Int32) × (Nat → Nat → Nat → Int32) × (Nat → Nat → Nat → Int64))} (hK6 : ∀ (P : Nat → Nat → Nat) (F : Nat → Nat → Int32) (A : Nat → Nat → Nat → Int32) (J : Nat → Nat → Nat → Int64) (x1 : Int32) (x2 : Int32) (x3 : Int32) (x4 : Int32) (x5 : Int32) (w : Int32 × (Nat → Nat → Nat) × (Nat → Nat → Int32) × (Nat → Nat → Nat → Int32) × (Nat → Nat → Nat → Int64)), K6 P F A J x1 x2 x3 x4 x5 = some w → k_run t lg (d + 5) 20 6 [(0, .ref (32 * 1024)), (1, .int x1), (2, .int x2), (3, .int x3), (4, .int x4), (5, .int x5)] [] (c_h c B P F A J) (some (.int w.1), c_h c B w.2.1 w.2.2.1 w.2.2.2.1 w.2.2.2.2)) {P : Nat → Nat → Nat} {F : Nat → Nat → Int32} {A : Nat → Nat → Nat → Int32} {J : Nat → Nat → Nat → Int64} {x1 : Int32} {x2 : Int32} {x3 : Int32} {x4 : Int32} {x5 : Int32} {x6 : Int32}  {w : Int32 × (Nat → Nat → Nat) × (Nat → Nat → Int32) × (Nat → Nat → Nat → Int32) × (Nat → Nat → Nat → Int64)} : e_Evening_fittingPairs_16 K6 n P F A J x1 x2 x3 x4 x5 x6 = some w → k_run t lg (d + 5) 20 16 [(0, .ref (32 * 1024)), (1, .int x1), (2, .int x2), (3, .int x3), (4, .int x4), (5, .int x5), (6, .int x6)] [] (c_h c B P F A J) (some (.int w.1), c_h c B w.2.1 w.2.2.1 w.2.2.2.1 w.2.2.2.2) := by
  induction n generalizing P F A J x1 x2 x3 x4 x5 x6 w with
  | zero => intro hD; cases hD
  | succ n ih =>
    intro hD
    have hK16 : ∀ (P : Nat → Nat → Nat) (F : Nat → Nat → Int32) (A : Nat → Nat → Nat → Int32) (J : Nat → Nat → Nat → Int64) (x1 : Int32) (x2 : Int32) (x3 : Int32) (x4 : Int32) (x5 : Int32) (x6 : Int32) (w : Int32 × (Nat → Nat → Nat) × (Nat → Nat → Int32) × (Nat → Nat → Nat → Int32) × (Nat → Nat → Nat → Int64)), e_Evening_fittingPairs_16 K6 n P F A J x1 x2 x3 x4 x5 x6 = some w → k_run t lg (d + 5) 20 16 [(0, .ref (32 * 1024)), (1, .int x1), (2, .int x2), (3, .int x3), (4, .int x4), (5, .int x5), (6, .int x6)] [] (c_h c B P F A J) (some (.int w.1), c_h c B w.2.1 w.2.2.1 w.2.2.2.1 w.2.2.2.2) := fun _ _ _ _ _ _ _ _ _ _ _  h => ih  h
    unfold e_Evening_fittingPairs_16 at hD
    refine k_runB (pc' := 20) (loc' := [(0, .ref (32 * 1024)), (1, .int x1), (2, .int x2), (3, .int x3), (4, .int x4), (5, .int x5), (6, .int x6)]) (st' := [.int 36, .int x6]) 2 rfl ?_
    refine k_ic rfl (fun c20_1 => ?_) (fun c20_1 => ?_)
    · rw [c20_1, cond_true] at hD
      refine k_wk [0, 1, 2, 3, 4, 5] (loc' := [(0, .ref (32 * 1024)), (1, .int x1), (2, .int x2), (3, .int x3), (4, .int x4), (5, .int x5)]) rfl rfl ?_
      exact t_e_Evening_fittingPairs_133 ht hK6  hD
    · rw [c20_1, cond_false] at hD
      refine k_runB (pc' := 24) (loc' := [(0, .ref (32 * 1024)), (1, .int x1), (2, .int x2), (3, .int x3), (4, .int x4), (5, .int x5), (6, .int x6)]) (st' := [.ref (32 * 1024)]) 1 rfl ?_
      obtain ⟨q3, hq3, hD⟩ := Option.bind_eq_some_iff.mp hD
      refine k_gq 32 0 (K := 7) (K2 := 6) (key := 4) rfl rfl rfl rfl rfl hq3 (fun kq3 => ?_)
      refine k_runB (pc' := 29) (loc' := [(0, .ref (32 * 1024)), (1, .int x1), (2, .int x2), (3, .int x3), (4, .int x4), (5, .int x5), (6, .int x6)]) (st' := [.int x5, .ref (q3 * 1024)]) 1 rfl ?_
      obtain ⟨v4, hv4, hD⟩ := Option.bind_eq_some_iff.mp hD
      refine k_runV rfl rfl rfl (c_get (r := q3) (o := 0) (K := 6) kq3 (by decide)) rfl rfl (t_e_House_mayBeLeft (d := d + 4) kq3 hv4) ?_
      refine k_if rfl (fun c32_4 => ?_) (fun c32_4 => ?_)
      · rw [c32_4, cond_true] at hD
        refine k_wk [0, 1, 2, 3, 4, 5] (loc' := [(0, .ref (32 * 1024)), (1, .int x1), (2, .int x2), (3, .int x3), (4, .int x4), (5, .int x5)]) rfl rfl ?_
        exact t_e_Evening_fittingPairs_133 ht hK6  hD
      · rw [c32_4, cond_false] at hD
        refine k_runB (pc' := 36) (loc' := [(0, .ref (32 * 1024)), (1, .int x1), (2, .int x2), (3, .int x3), (4, .int x4), (5, .int x5), (6, .int x6)]) (st' := [.ref (32 * 1024)]) 1 rfl ?_
        obtain ⟨q6, hq6, hD⟩ := Option.bind_eq_some_iff.mp hD
        refine k_gq 32 0 (K := 7) (K2 := 6) (key := 4) rfl rfl rfl rfl rfl hq6 (fun kq6 => ?_)
        refine k_runB (pc' := 41) (loc' := [(0, .ref (32 * 1024)), (1, .int x1), (2, .int x2), (3, .int x3), (4, .int x4), (5, .int x5), (6, .int x6)]) (st' := [.int x6, .ref (q6 * 1024)]) 1 rfl ?_
        obtain ⟨v7, hv7, hD⟩ := Option.bind_eq_some_iff.mp hD
        refine k_runV rfl rfl rfl (c_get (r := q6) (o := 0) (K := 6) kq6 (by decide)) rfl rfl (t_e_House_mayBeLeft (d := d + 4) kq6 hv7) ?_
        refine k_if rfl (fun c44_7 => ?_) (fun c44_7 => ?_)
        · rw [c44_7, cond_true] at hD
          refine k_wk [0, 1, 2, 3, 4, 5, 6] (loc' := [(0, .ref (32 * 1024)), (1, .int x1), (2, .int x2), (3, .int x3), (4, .int x4), (5, .int x5), (6, .int x6)]) rfl rfl ?_
          exact t_e_Evening_fittingPairs_127 ht hK6 hK16  hD
        · rw [c44_7, cond_false] at hD
          refine k_runB (pc' := 48) (loc' := [(0, .ref (32 * 1024)), (1, .int x1), (2, .int x2), (3, .int x3), (4, .int x4), (5, .int x5), (6, .int x6)]) (st' := [.ref (32 * 1024)]) 1 rfl ?_
          refine k_gf 32 0 (K := 7) rfl rfl rfl rfl rfl ?_
          refine k_runB (pc' := 52) (loc' := [(0, .ref (32 * 1024)), (1, .int x1), (2, .int x2), (3, .int x3), (4, .int x4), (5, .int x5), (6, .int x6)]) (st' := [.ref (32 * 1024), .ref (33 * 1024)]) 1 rfl ?_
          refine k_gf 32 0 (K := 7) rfl rfl rfl rfl rfl ?_
          obtain ⟨⟨v9, P10, F11, A12, J13⟩, hv9, hD⟩ := Option.bind_eq_some_iff.mp hD
          dsimp only at hD
          refine k_runV rfl rfl rfl (c_get (r := 33) (o := 0) (K := 2) rfl (by decide)) rfl rfl (t_e_State_copy (d := d + 4) ht rfl rfl hv9) ?_
          refine k_runB (pc' := 59) (loc' := [(0, .ref (32 * 1024)), (1, .int x1), (2, .int x2), (3, .int x3), (4, .int x4), (5, .int x5), (6, .int x6)]) (st' := [.ref (32 * 1024)]) 1 rfl ?_
          refine k_gf 32 0 (K := 7) rfl rfl rfl rfl rfl ?_
          refine k_gf 33 0 (K := 2) rfl rfl rfl rfl rfl ?_
          refine k_runB (pc' := 68) (loc' := [(0, .ref (32 * 1024)), (1, .int x1), (2, .int x2), (3, .int x3), (4, .int x4), (5, .int x5), (6, .int x6)]) (st' := [.int x5, .int x1, .ref (33 * 1024 + 3)]) 2 rfl ?_
          obtain ⟨A14, hA14, hD⟩ := Option.bind_eq_some_iff.mp hD
          refine k_cstI 33 3 (K := 2) rfl rfl rfl rfl (fun _ => rfl) hA14 ?_
          refine k_runB (pc' := 70) (loc' := [(0, .ref (32 * 1024)), (1, .int x1), (2, .int x2), (3, .int x3), (4, .int x4), (5, .int x5), (6, .int x6)]) (st' := [.ref (32 * 1024)]) 1 rfl ?_
          refine k_gf 32 0 (K := 7) rfl rfl rfl rfl rfl ?_
          refine k_gf 33 0 (K := 2) rfl rfl rfl rfl rfl ?_
          refine k_runB (pc' := 79) (loc' := [(0, .ref (32 * 1024)), (1, .int x1), (2, .int x2), (3, .int x3), (4, .int x4), (5, .int x5), (6, .int x6)]) (st' := [.int x6, .int x2, .ref (33 * 1024 + 3)]) 2 rfl ?_
          obtain ⟨A15, hA15, hD⟩ := Option.bind_eq_some_iff.mp hD
          refine k_cstI 33 3 (K := 2) rfl rfl rfl rfl (fun _ => rfl) hA15 ?_
          refine k_runB (pc' := 81) (loc' := [(0, .ref (32 * 1024)), (1, .int x1), (2, .int x2), (3, .int x3), (4, .int x4), (5, .int x5), (6, .int x6)]) (st' := [.ref (32 * 1024)]) 1 rfl ?_
          refine k_gf 32 0 (K := 7) rfl rfl rfl rfl rfl ?_
          refine k_runB (pc' := 85) (loc' := [(0, .ref (32 * 1024)), (1, .int x1), (2, .int x2), (3, .int x3), (4, .int x4), (5, .int x5), (6, .int x6)]) (st' := [.ref (32 * 1024), .ref (36 * 1024)]) 1 rfl ?_
          obtain ⟨q16, hq16, hD⟩ := Option.bind_eq_some_iff.mp hD
          refine k_gq 32 0 (K := 7) (K2 := 6) (key := 4) rfl rfl rfl rfl rfl hq16 (fun kq16 => ?_)
          refine k_gf q16 0 (K := 6) kq16 rfl rfl rfl rfl ?_
          refine k_runB (pc' := 92) (loc' := [(0, .ref (32 * 1024)), (1, .int x1), (2, .int x2), (3, .int x3), (4, .int x4), (5, .int x5), (6, .int x6)]) (st' := [.ref (32 * 1024), .int (F11 q16 18), .ref (36 * 1024)]) 1 rfl ?_
          obtain ⟨q17, hq17, hD⟩ := Option.bind_eq_some_iff.mp hD
          refine k_gq 32 0 (K := 7) (K2 := 6) (key := 4) rfl rfl rfl rfl rfl hq17 (fun kq17 => ?_)
          refine k_runB (pc' := 96) (loc' := [(0, .ref (32 * 1024)), (1, .int x1), (2, .int x2), (3, .int x3), (4, .int x4), (5, .int x5), (6, .int x6)]) (st' := [.ref (32 * 1024), .ref (q17 * 1024), .int (F11 q16 18), .ref (36 * 1024)]) 1 rfl ?_
          refine k_gf 32 0 (K := 7) rfl rfl rfl rfl rfl ?_
          obtain ⟨⟨v18, P19, F20, A21, J22⟩, hv18, hD⟩ := Option.bind_eq_some_iff.mp hD
          dsimp only at hD
          refine k_runV rfl rfl rfl (c_get (r := 36) (o := 0) (K := 10) rfl (by decide)) rfl rfl (t_e_Sleep_goTill (d := d) ht kq17 rfl hv18) ?_
          refine k_runB (pc' := 105) (loc' := [(0, .ref (32 * 1024)), (1, .int x1), (2, .int x2), (3, .int x3), (4, .int x4), (5, .int x5), (6, .int x6)]) (st' := [.ref (32 * 1024), .int x4]) 2 rfl ?_
          refine k_gf 32 0 (K := 7) rfl rfl rfl rfl rfl ?_
          refine k_runB (pc' := 109) (loc' := [(0, .ref (32 * 1024)), (1, .int x1), (2, .int x2), (3, .int x3), (4, .int x4), (5, .int x5), (6, .int x6)]) (st' := [.ref (32 * 1024), .ref (25 * 1024), .int x4]) 1 rfl ?_
          refine k_gf 32 0 (K := 7) rfl rfl rfl rfl rfl ?_
          refine k_runB (pc' := 113) (loc' := [(0, .ref (32 * 1024)), (1, .int x1), (2, .int x2), (3, .int x3), (4, .int x4), (5, .int x5), (6, .int x6)]) (st' := [.int x3, .ref (33 * 1024), .ref (25 * 1024), .int x4]) 1 rfl ?_
          obtain ⟨v23, hv23, hD⟩ := Option.bind_eq_some_iff.mp hD
          refine k_runV rfl rfl rfl (c_get (r := 25) (o := 0) (K := 4) rfl (by decide)) rfl rfl (t_e_Told_isSoIn (d := d + 4) rfl hv23) ?_
          refine k_if rfl (fun c116_23 => ?_) (fun c116_23 => ?_)
          · rw [c116_23, cond_true] at hD
            refine k_runB (pc' := 124) (loc' := [(0, .ref (32 * 1024)), (1, .int x1), (2, .int x2), (3, .int x3), (4, .int x4), (5, .int x5), (6, .int x6)]) (st' := [.int 0, .int x4]) 1 rfl ?_
            refine k_wk [0, 1, 2, 3, 5, 6] (loc' := [(0, .ref (32 * 1024)), (1, .int x1), (2, .int x2), (3, .int x3), (5, .int x5), (6, .int x6)]) rfl rfl ?_
            exact t_e_Evening_fittingPairs_124 ht hK6 hK16  hD
          · rw [c116_23, cond_false] at hD
            refine k_runB (pc' := 124) (loc' := [(0, .ref (32 * 1024)), (1, .int x1), (2, .int x2), (3, .int x3), (4, .int x4), (5, .int x5), (6, .int x6)]) (st' := [.int 1, .int x4]) 2 rfl ?_
            refine k_wk [0, 1, 2, 3, 5, 6] (loc' := [(0, .ref (32 * 1024)), (1, .int x1), (2, .int x2), (3, .int x3), (5, .int x5), (6, .int x6)]) rfl rfl ?_
            exact t_e_Evening_fittingPairs_124 ht hK6 hK16  hD
def e_Evening_fittingPairs_6 : Nat → (Nat → Nat → Nat) → (Nat → Nat → Int32) → (Nat → Nat → Nat → Int32) → (Nat → Nat → Nat → Int64) → Int32 → Int32 → Int32 → Int32 → Int32 → Option (Int32 × (Nat → Nat → Nat) × (Nat → Nat → Int32) × (Nat → Nat → Nat → Int32) × (Nat → Nat → Nat → Int64))
  | 0, _, _, _, _, _, _, _, _, _ => none
  | n + 1, P, F, A, J, x1, x2, x3, x4, x5 => cond (g_cnd .ge x5 36)
    (some (x4, P, F, A, J))
    (e_Evening_fittingPairs_16 (e_Evening_fittingPairs_6 n) n P F A J x1 x2 x3 x4 x5 ((-1)))
set_option maxRecDepth 10000 in
theorem t_e_Evening_fittingPairs_6 (ht : ∀ ci k, t.1 ci k = k_ty ci k) {n : Nat}  {P : Nat → Nat → Nat} {F : Nat → Nat → Int32} {A : Nat → Nat → Nat → Int32} {J : Nat → Nat → Nat → Int64} {x1 : Int32} {x2 : Int32} {x3 : Int32} {x4 : Int32} {x5 : Int32}  {w : Int32 × (Nat → Nat → Nat) × (Nat → Nat → Int32) × (Nat → Nat → Nat → Int32) × (Nat → Nat → Nat → Int64)} : e_Evening_fittingPairs_6 n P F A J x1 x2 x3 x4 x5 = some w → k_run t lg (d + 5) 20 6 [(0, .ref (32 * 1024)), (1, .int x1), (2, .int x2), (3, .int x3), (4, .int x4), (5, .int x5)] [] (c_h c B P F A J) (some (.int w.1), c_h c B w.2.1 w.2.2.1 w.2.2.2.1 w.2.2.2.2) := by
  induction n generalizing P F A J x1 x2 x3 x4 x5 w with
  | zero => intro hD; cases hD
  | succ n ih =>
    intro hD
    have hK6 : ∀ (P : Nat → Nat → Nat) (F : Nat → Nat → Int32) (A : Nat → Nat → Nat → Int32) (J : Nat → Nat → Nat → Int64) (x1 : Int32) (x2 : Int32) (x3 : Int32) (x4 : Int32) (x5 : Int32) (w : Int32 × (Nat → Nat → Nat) × (Nat → Nat → Int32) × (Nat → Nat → Nat → Int32) × (Nat → Nat → Nat → Int64)), e_Evening_fittingPairs_6 n P F A J x1 x2 x3 x4 x5 = some w → k_run t lg (d + 5) 20 6 [(0, .ref (32 * 1024)), (1, .int x1), (2, .int x2), (3, .int x3), (4, .int x4), (5, .int x5)] [] (c_h c B P F A J) (some (.int w.1), c_h c B w.2.1 w.2.2.1 w.2.2.2.1 w.2.2.2.2) := fun _ _ _ _ _ _ _ _ _ _  h => ih  h
    unfold e_Evening_fittingPairs_6 at hD
    refine k_runB (pc' := 10) (loc' := [(0, .ref (32 * 1024)), (1, .int x1), (2, .int x2), (3, .int x3), (4, .int x4), (5, .int x5)]) (st' := [.int 36, .int x5]) 2 rfl ?_
    refine k_ic rfl (fun c10_0 => ?_) (fun c10_0 => ?_)
    · rw [c10_0, cond_true] at hD
      refine k_runB (pc' := 141) (loc' := [(0, .ref (32 * 1024)), (1, .int x1), (2, .int x2), (3, .int x3), (4, .int x4), (5, .int x5)]) (st' := [.int x4]) 1 rfl ?_
      cases hD
      exact k_iret rfl rfl
    · rw [c10_0, cond_false] at hD
      refine k_runB (pc' := 16) (loc' := [(0, .ref (32 * 1024)), (1, .int x1), (2, .int x2), (3, .int x3), (4, .int x4), (5, .int x5), (6, .int ((-1)))]) (st' := []) 2 rfl ?_
      refine k_wk [0, 1, 2, 3, 4, 5, 6] (loc' := [(0, .ref (32 * 1024)), (1, .int x1), (2, .int x2), (3, .int x3), (4, .int x4), (5, .int x5), (6, .int ((-1)))]) rfl rfl ?_
      exact t_e_Evening_fittingPairs_16 ht hK6  hD
/-- SleepWork$Evening.fittingPairs(III)I  -/
def e_Evening_fittingPairs (n : Nat) (P : Nat → Nat → Nat) (F : Nat → Nat → Int32) (A : Nat → Nat → Nat → Int32) (J : Nat → Nat → Nat → Int64) (x1 : Int32) (x2 : Int32) (x3 : Int32) : Option (Int32 × (Nat → Nat → Nat) × (Nat → Nat → Int32) × (Nat → Nat → Nat → Int32) × (Nat → Nat → Nat → Int64)) :=
  e_Evening_fittingPairs_6 n P F A J x1 x2 x3 0 ((-1))
set_option maxRecDepth 10000 in
theorem t_e_Evening_fittingPairs (ht : ∀ ci k, t.1 ci k = k_ty ci k) {n : Nat} {P : Nat → Nat → Nat} {F : Nat → Nat → Int32} {A : Nat → Nat → Nat → Int32} {J : Nat → Nat → Nat → Int64} {x1 : Int32} {x2 : Int32} {x3 : Int32}  {w : Int32 × (Nat → Nat → Nat) × (Nat → Nat → Int32) × (Nat → Nat → Nat → Int32) × (Nat → Nat → Nat → Int64)} : e_Evening_fittingPairs n P F A J x1 x2 x3 = some w → k_run t lg (d + 5) 20 0 [(0, .ref (32 * 1024)), (1, .int x1), (2, .int x2), (3, .int x3)] [] (c_h c B P F A J) (some (.int w.1), c_h c B w.2.1 w.2.2.1 w.2.2.2.1 w.2.2.2.2) := by
  intro hD
  unfold e_Evening_fittingPairs at hD
  refine k_runB (pc' := 6) (loc' := [(0, .ref (32 * 1024)), (1, .int x1), (2, .int x2), (3, .int x3), (4, .int 0), (5, .int ((-1)))]) (st' := []) 4 rfl ?_
  refine k_wk [0, 1, 2, 3, 4, 5] (loc' := [(0, .ref (32 * 1024)), (1, .int x1), (2, .int x2), (3, .int x3), (4, .int 0), (5, .int ((-1)))]) rfl rfl ?_
  exact t_e_Evening_fittingPairs_6 ht   hD
/-- SleepWork$Laws.clear()V  -/
def e_Laws_clear (P : Nat → Nat → Nat) (F : Nat → Nat → Int32) (A : Nat → Nat → Nat → Int32) (J : Nat → Nat → Nat → Int64) (r0 : Nat) : Option (Unit × (Nat → Nat → Nat) × (Nat → Nat → Int32) × (Nat → Nat → Nat → Int32) × (Nat → Nat → Nat → Int64)) :=
  (c_pf F r0 1304 0).bind fun F1 =>
  (c_fi A r0 14 6 ((-1))).bind fun A2 =>
  some ((), P, F1, A2, J)
set_option maxRecDepth 10000 in
theorem t_e_Laws_clear (ht : ∀ ci k, t.1 ci k = k_ty ci k) {P : Nat → Nat → Nat} {F : Nat → Nat → Int32} {A : Nat → Nat → Nat → Int32} {J : Nat → Nat → Nat → Int64} {r0 : Nat} (hr0 : c_kind r0 = 6) {w : Unit × (Nat → Nat → Nat) × (Nat → Nat → Int32) × (Nat → Nat → Nat → Int32) × (Nat → Nat → Nat → Int64)} : e_Laws_clear P F A J r0 = some w → k_run t lg (d + 1) 30 0 [(0, .ref (r0 * 1024 + 13))] [] (c_h c B P F A J) (none, c_h c B w.2.1 w.2.2.1 w.2.2.2.1 w.2.2.2.2) := by
  intro hD
  unfold e_Laws_clear at hD
  refine k_runB (pc' := 2) (loc' := [(0, .ref (r0 * 1024 + 13))]) (st' := [.int 0, .ref (r0 * 1024 + 13)]) 2 rfl ?_
  obtain ⟨F1, hF1, hD⟩ := Option.bind_eq_some_iff.mp hD
  refine k_cpt r0 13 (K := 6) (key := 1304) hr0 rfl (ht 2 4) rfl rfl rfl hF1 ?_
  refine k_runB (pc' := 6) (loc' := [(0, .ref (r0 * 1024 + 13))]) (st' := [.ref (r0 * 1024 + 13)]) 1 rfl ?_
  refine k_gf r0 13 (K := 6) hr0 rfl rfl rfl rfl ?_
  refine k_runB (pc' := 10) (loc' := [(0, .ref (r0 * 1024 + 13))]) (st' := [.int ((-1)), .ref (r0 * 1024 + 14)]) 1 rfl ?_
  obtain ⟨A2, hA2, hD⟩ := Option.bind_eq_some_iff.mp hD
  refine k_runC rfl rfl rfl rfl (t_fillI r0 14 (K := 6) (n := 6) hr0 (fun _ => rfl) (fun _ _ => rfl) (by decide) hA2) ?_
  cases hD
  exact k_vret rfl rfl
/-- SleepWork$House.clear()V  -/
def e_House_clear (P : Nat → Nat → Nat) (F : Nat → Nat → Int32) (A : Nat → Nat → Nat → Int32) (J : Nat → Nat → Nat → Int64) (r0 : Nat) : Option (Unit × (Nat → Nat → Nat) × (Nat → Nat → Int32) × (Nat → Nat → Nat → Int32) × (Nat → Nat → Nat → Int64)) :=
  (c_pf F r0 13 0).bind fun F1 =>
  (c_pf F1 r0 14 0).bind fun F2 =>
  (c_pf F2 r0 15 0).bind fun F3 =>
  (c_pf F3 r0 16 0).bind fun F4 =>
  (c_pf F4 r0 17 0).bind fun F5 =>
  (c_pf F5 r0 18 480).bind fun F6 =>
  (c_fi A r0 5 6 0).bind fun A7 =>
  (e_Laws_clear P F6 A7 J r0).bind fun (_, P9, F10, A11, J12) =>
  some ((), P9, F10, A11, J12)
set_option maxRecDepth 10000 in
theorem t_e_House_clear (ht : ∀ ci k, t.1 ci k = k_ty ci k) {P : Nat → Nat → Nat} {F : Nat → Nat → Int32} {A : Nat → Nat → Nat → Int32} {J : Nat → Nat → Nat → Int64} {r0 : Nat} (hr0 : c_kind r0 = 6) {w : Unit × (Nat → Nat → Nat) × (Nat → Nat → Int32) × (Nat → Nat → Nat → Int32) × (Nat → Nat → Nat → Int64)} : e_House_clear P F A J r0 = some w → k_run t lg (d + 2) 22 0 [(0, .ref (r0 * 1024))] [] (c_h c B P F A J) (none, c_h c B w.2.1 w.2.2.1 w.2.2.2.1 w.2.2.2.2) := by
  intro hD
  unfold e_House_clear at hD
  refine k_runB (pc' := 2) (loc' := [(0, .ref (r0 * 1024))]) (st' := [.int 0, .ref (r0 * 1024)]) 2 rfl ?_
  obtain ⟨F1, hF1, hD⟩ := Option.bind_eq_some_iff.mp hD
  refine k_cpt r0 0 (K := 6) (key := 13) hr0 rfl (ht 1 13) rfl rfl rfl hF1 ?_
  refine k_runB (pc' := 7) (loc' := [(0, .ref (r0 * 1024))]) (st' := [.int 0, .ref (r0 * 1024)]) 2 rfl ?_
  obtain ⟨F2, hF2, hD⟩ := Option.bind_eq_some_iff.mp hD
  refine k_cpt r0 0 (K := 6) (key := 14) hr0 rfl (ht 1 14) rfl rfl rfl hF2 ?_
  refine k_runB (pc' := 12) (loc' := [(0, .ref (r0 * 1024))]) (st' := [.int 0, .ref (r0 * 1024)]) 2 rfl ?_
  obtain ⟨F3, hF3, hD⟩ := Option.bind_eq_some_iff.mp hD
  refine k_cpt r0 0 (K := 6) (key := 15) hr0 rfl (ht 1 15) rfl rfl rfl hF3 ?_
  refine k_runB (pc' := 17) (loc' := [(0, .ref (r0 * 1024))]) (st' := [.int 0, .ref (r0 * 1024)]) 2 rfl ?_
  obtain ⟨F4, hF4, hD⟩ := Option.bind_eq_some_iff.mp hD
  refine k_cpt r0 0 (K := 6) (key := 16) hr0 rfl (ht 1 16) rfl rfl rfl hF4 ?_
  refine k_runB (pc' := 22) (loc' := [(0, .ref (r0 * 1024))]) (st' := [.int 0, .ref (r0 * 1024)]) 2 rfl ?_
  obtain ⟨F5, hF5, hD⟩ := Option.bind_eq_some_iff.mp hD
  refine k_cpt r0 0 (K := 6) (key := 17) hr0 rfl (ht 1 17) rfl rfl rfl hF5 ?_
  refine k_runB (pc' := 29) (loc' := [(0, .ref (r0 * 1024))]) (st' := [.int 480, .ref (r0 * 1024)]) 2 rfl ?_
  obtain ⟨F6, hF6, hD⟩ := Option.bind_eq_some_iff.mp hD
  refine k_cpt r0 0 (K := 6) (key := 18) hr0 rfl (ht 1 18) rfl rfl rfl hF6 ?_
  refine k_runB (pc' := 33) (loc' := [(0, .ref (r0 * 1024))]) (st' := [.ref (r0 * 1024)]) 1 rfl ?_
  refine k_gf r0 0 (K := 6) hr0 rfl rfl rfl rfl ?_
  refine k_runB (pc' := 37) (loc' := [(0, .ref (r0 * 1024))]) (st' := [.int 0, .ref (r0 * 1024 + 5)]) 1 rfl ?_
  obtain ⟨A7, hA7, hD⟩ := Option.bind_eq_some_iff.mp hD
  refine k_runC rfl rfl rfl rfl (t_fillI r0 5 (K := 6) (n := 6) hr0 (fun _ => rfl) (fun _ _ => rfl) (by decide) hA7) ?_
  refine k_runB (pc' := 41) (loc' := [(0, .ref (r0 * 1024))]) (st' := [.ref (r0 * 1024)]) 1 rfl ?_
  refine k_gf r0 0 (K := 6) hr0 rfl rfl rfl rfl ?_
  obtain ⟨⟨v8, P9, F10, A11, J12⟩, hv8, hD⟩ := Option.bind_eq_some_iff.mp hD
  dsimp only at hD
  refine k_runV rfl rfl rfl (c_get (r := r0) (o := 13) (K := 6) hr0 (by decide)) rfl rfl (t_e_Laws_clear (d := d) ht hr0 hv8) ?_
  cases hD
  exact k_vret rfl rfl
end MC
end Qz22
