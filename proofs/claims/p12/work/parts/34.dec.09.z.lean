section Qz10
/-! the reference's methods as functions (printed by wip/dec.py) -/
section MD
variable {t : gT} {lg : Nat → Nat} {d : Nat} {c : Nat × Nat} {B : Nat → List gE} {F : Nat → Int32} {A : Nat → Nat → Int32} {J : Nat → Nat → Int64}
def d_term_24 (n : Nat) (F : Nat → Int32) (A : Nat → Nat → Int32) (J : Nat → Nat → Int64) : Option (Unit × (Nat → Int32) × (Nat → Nat → Int32) × (Nat → Nat → Int64)) :=
    (m_st A 40 100 (F 49) (F 56)).bind fun A9 =>
    (m_pf F 49 ((F 49) + 1)).bind fun F10 =>
    some ((), F10, A9, J)
theorem t_d_term_24 (ht : ∀ k, t.1 12 k = k_ty 12 k) {n : Nat}  {F : Nat → Int32} {A : Nat → Nat → Int32} {J : Nat → Nat → Int64}  {w : Unit × (Nat → Int32) × (Nat → Nat → Int32) × (Nat → Nat → Int64)} : d_term_24 n F A J = some w → k_run t lg (d + 4) 171 24 [(0, .ref 40960)] [] (m_h c B F A J) (none, m_h c B w.2.1 w.2.2.1 w.2.2.2) := by
  intro hD
  unfold d_term_24 at hD
  refine k_runB (pc' := 36) (loc' := [(0, .ref 40960)]) (st' := [.int (F 56), .int (F 49), .ref 41000]) 6 rfl ?_
  obtain ⟨A9, hA9, hD⟩ := Option.bind_eq_some_iff.mp hD
  refine k_stI 40 rfl rfl (fun _ => rfl) hA9 ?_
  refine k_runB (pc' := 44) (loc' := [(0, .ref 40960)]) (st' := [.int ((F 49) + 1), .ref 40960]) 5 rfl ?_
  obtain ⟨F10, hF10, hD⟩ := Option.bind_eq_some_iff.mp hD
  refine k_ptI rfl (ht 49) rfl rfl hF10 ?_
  cases hD
  exact k_vret rfl rfl
/-- SleepWorkModel.term()V -/
def d_term (n : Nat) (F : Nat → Int32) (A : Nat → Nat → Int32) (J : Nat → Nat → Int64) : Option (Unit × (Nat → Int32) × (Nat → Nat → Int32) × (Nat → Nat → Int64)) :=
  (m_st A 39 100 (F 49) (F 56)).bind fun A1 =>
  cond (g_cnd .ne (F 13) 0)
  (d_term_24 n F A1 J)
  ((d_expression n F A1 J).bind fun (_, F4, A5, J6) =>
  (m_st A5 40 100 (F4 49) (F4 56)).bind fun A7 =>
  (m_pf F4 49 ((F4 49) + 1)).bind fun F8 =>
  some ((), F8, A7, J6))
theorem t_d_term (ht : ∀ k, t.1 12 k = k_ty 12 k) {n : Nat} {r : Unit} {F' : Nat → Int32} {A' : Nat → Nat → Int32} {J' : Nat → Nat → Int64} : d_term n F A J = some (r, F', A', J') → k_run t lg (d + 4) 171 0 [(0, .ref 40960)] [] (m_h c B F A J) (none, m_h c B F' A' J') := by
  intro hD
  unfold d_term at hD
  refine k_runB (pc' := 12) (loc' := [(0, .ref 40960)]) (st' := [.int (F 56), .int (F 49), .ref 40999]) 6 rfl ?_
  obtain ⟨A1, hA1, hD⟩ := Option.bind_eq_some_iff.mp hD
  refine k_stI 39 rfl rfl (fun _ => rfl) hA1 ?_
  refine k_runB (pc' := 17) (loc' := [(0, .ref 40960)]) (st' := [.int (F 13)]) 2 rfl ?_
  refine k_if rfl (fun c17_1 => ?_) (fun c17_1 => ?_)
  · rw [c17_1, cond_true] at hD
    refine k_wk [0] (loc' := [(0, .ref 40960)]) rfl rfl ?_
    exact t_d_term_24 ht  hD
  · rw [c17_1, cond_false] at hD
    refine k_runB (pc' := 21) (loc' := [(0, .ref 40960)]) (st' := [.ref 40960]) 1 rfl ?_
    obtain ⟨⟨v3, F4, A5, J6⟩, hv3, hD⟩ := Option.bind_eq_some_iff.mp hD
    dsimp only at hD
    refine k_runC rfl rfl rfl rfl (t_d_expression (d := d) ht hv3) ?_
    refine k_runB (pc' := 36) (loc' := [(0, .ref 40960)]) (st' := [.int (F4 56), .int (F4 49), .ref 41000]) 6 rfl ?_
    obtain ⟨A7, hA7, hD⟩ := Option.bind_eq_some_iff.mp hD
    refine k_stI 40 rfl rfl (fun _ => rfl) hA7 ?_
    refine k_runB (pc' := 44) (loc' := [(0, .ref 40960)]) (st' := [.int ((F4 49) + 1), .ref 40960]) 5 rfl ?_
    obtain ⟨F8, hF8, hD⟩ := Option.bind_eq_some_iff.mp hD
    refine k_ptI rfl (ht 49) rfl rfl hF8 ?_
    cases hD
    exact k_vret rfl rfl
def d_tellLaw_135 (n : Nat) (F : Nat → Int32) (A : Nat → Nat → Int32) (J : Nat → Nat → Int64) (x1 : Int32) (x2 : Int32) : Option (Unit × (Nat → Int32) × (Nat → Nat → Int32) × (Nat → Nat → Int64)) :=
    (m_st A 36 100 (F 49) (vp_nar .boolean 0)).bind fun A50 =>
    (d_term n F A50 J).bind fun (_, F52, A53, J54) =>
    (d_must F52 A53 J54 4).bind fun (_, F56, A57, J58) =>
    cond (g_cnd .le (F56 13) 0)
    ((m_ld (A57 33) 2 (F56 19)).bind fun v60 =>
    (m_st A57 33 2 (F56 19) (v60 + 1)).bind fun A61 =>
    cond (g_cnd .ge x1 0)
    ((m_st A61 34 12 ((6 * (F56 19)) + x1) x2).bind fun A63 =>
    (m_st A63 35 12 ((6 * (F56 19)) + x1) (F56 49)).bind fun A64 =>
    some ((), F56, A64, J58))
    (some ((), F56, A61, J58)))
    (some ((), F56, A57, J58))
theorem t_d_tellLaw_135 (ht : ∀ k, t.1 12 k = k_ty 12 k) {n : Nat}  {F : Nat → Int32} {A : Nat → Nat → Int32} {J : Nat → Nat → Int64} {x1 : Int32} {x2 : Int32} {w : Unit × (Nat → Int32) × (Nat → Nat → Int32) × (Nat → Nat → Int64)} : d_tellLaw_135 n F A J x1 x2 = some w → k_run t lg (d + 5) 170 135 [(0, .ref 40960), (1, .int x1), (2, .int x2)] [] (m_h c B F A J) (none, m_h c B w.2.1 w.2.2.1 w.2.2.2) := by
  intro hD
  unfold d_tellLaw_135 at hD
  refine k_runB (pc' := 144) (loc' := [(0, .ref 40960), (1, .int x1), (2, .int x2)]) (st' := [.int 0, .int (F 49), .ref 40996]) 5 rfl ?_
  obtain ⟨A50, hA50, hD⟩ := Option.bind_eq_some_iff.mp hD
  refine k_stZ 36 rfl rfl (fun _ => rfl) hA50 ?_
  refine k_runB (pc' := 146) (loc' := [(0, .ref 40960), (1, .int x1), (2, .int x2)]) (st' := [.ref 40960]) 1 rfl ?_
  obtain ⟨⟨v51, F52, A53, J54⟩, hv51, hD⟩ := Option.bind_eq_some_iff.mp hD
  dsimp only at hD
  refine k_runC rfl rfl rfl rfl (t_d_term (d := d) ht hv51) ?_
  refine k_runB (pc' := 151) (loc' := [(0, .ref 40960), (1, .int x1), (2, .int x2)]) (st' := [.int 4, .ref 40960]) 2 rfl ?_
  obtain ⟨⟨v55, F56, A57, J58⟩, hv55, hD⟩ := Option.bind_eq_some_iff.mp hD
  dsimp only at hD
  refine k_runC rfl rfl rfl rfl (t_d_must (d := d + 2) ht hv55) ?_
  refine k_runB (pc' := 158) (loc' := [(0, .ref 40960), (1, .int x1), (2, .int x2)]) (st' := [.int (F56 13)]) 2 rfl ?_
  refine k_if rfl (fun c158_58 => ?_) (fun c158_58 => ?_)
  · rw [c158_58, cond_true] at hD
    refine k_runB (pc' := 171) (loc' := [(0, .ref 40960), (1, .int x1), (2, .int x2)]) (st' := [.int (F56 19), .ref 40993, .int (F56 19), .ref 40993]) 5 rfl ?_
    obtain ⟨v60, hv60, hD⟩ := Option.bind_eq_some_iff.mp hD
    refine k_ldI rfl rfl hv60 ?_
    refine k_runB (pc' := 174) (loc' := [(0, .ref 40960), (1, .int x1), (2, .int x2)]) (st' := [.int (v60 + 1), .int (F56 19), .ref 40993]) 2 rfl ?_
    obtain ⟨A61, hA61, hD⟩ := Option.bind_eq_some_iff.mp hD
    refine k_stI 33 rfl rfl (fun _ => rfl) hA61 ?_
    refine k_runB (pc' := 176) (loc' := [(0, .ref 40960), (1, .int x1), (2, .int x2)]) (st' := [.int x1]) 1 rfl ?_
    refine k_if rfl (fun c176_61 => ?_) (fun c176_61 => ?_)
    · rw [c176_61, cond_true] at hD
      refine k_runB (pc' := 194) (loc' := [(0, .ref 40960), (1, .int x1), (2, .int x2)]) (st' := [.int x2, .int ((6 * (F56 19)) + x1), .ref 40994]) 9 rfl ?_
      obtain ⟨A63, hA63, hD⟩ := Option.bind_eq_some_iff.mp hD
      refine k_stI 34 rfl rfl (fun _ => rfl) hA63 ?_
      refine k_runB (pc' := 212) (loc' := [(0, .ref 40960), (1, .int x1), (2, .int x2)]) (st' := [.int (F56 49), .int ((6 * (F56 19)) + x1), .ref 40995]) 10 rfl ?_
      obtain ⟨A64, hA64, hD⟩ := Option.bind_eq_some_iff.mp hD
      refine k_stI 35 rfl rfl (fun _ => rfl) hA64 ?_
      cases hD
      exact k_vret rfl rfl
    · rw [c176_61, cond_false] at hD
      cases hD
      exact k_vret rfl rfl
  · rw [c158_58, cond_false] at hD
    cases hD
    exact k_vret rfl rfl
def d_tellLaw_116 (K18 : (Nat → Int32) → (Nat → Nat → Int32) → (Nat → Nat → Int64) → Int32 → Int32 → Int32 → Option (Unit × (Nat → Int32) × (Nat → Nat → Int32) × (Nat → Nat → Int64))) (n : Nat) (F : Nat → Int32) (A : Nat → Nat → Int32) (J : Nat → Nat → Int64) (x1 : Int32) (x2 : Int32) (x3 : Int32) : Option (Unit × (Nat → Int32) × (Nat → Nat → Int32) × (Nat → Nat → Int64)) :=
    (d_must F A J 32).bind fun (_, F99, A100, J101) =>
    (d_term n F99 A100 J101).bind fun (_, F103, A104, J105) =>
    (d_must F103 A104 J105 33).bind fun (_, F107, A108, J109) =>
    K18 F107 A108 J109 x1 x2 x3
theorem t_d_tellLaw_116 (ht : ∀ k, t.1 12 k = k_ty 12 k) {n : Nat} {K18 : (Nat → Int32) → (Nat → Nat → Int32) → (Nat → Nat → Int64) → Int32 → Int32 → Int32 → Option (Unit × (Nat → Int32) × (Nat → Nat → Int32) × (Nat → Nat → Int64))} (hK18 : ∀ (F : Nat → Int32) (A : Nat → Nat → Int32) (J : Nat → Nat → Int64) (x1 : Int32) (x2 : Int32) (x3 : Int32) (w : Unit × (Nat → Int32) × (Nat → Nat → Int32) × (Nat → Nat → Int64)), K18 F A J x1 x2 x3 = some w → k_run t lg (d + 5) 170 18 [(0, .ref 40960), (1, .int x1), (2, .int x2), (3, .int x3)] [] (m_h c B F A J) (none, m_h c B w.2.1 w.2.2.1 w.2.2.2)) {F : Nat → Int32} {A : Nat → Nat → Int32} {J : Nat → Nat → Int64} {x1 : Int32} {x2 : Int32} {x3 : Int32} {w : Unit × (Nat → Int32) × (Nat → Nat → Int32) × (Nat → Nat → Int64)} : d_tellLaw_116 K18 n F A J x1 x2 x3 = some w → k_run t lg (d + 5) 170 116 [(0, .ref 40960), (1, .int x1), (2, .int x2), (3, .int x3)] [] (m_h c B F A J) (none, m_h c B w.2.1 w.2.2.1 w.2.2.2) := by
  intro hD
  unfold d_tellLaw_116 at hD
  refine k_runB (pc' := 119) (loc' := [(0, .ref 40960), (1, .int x1), (2, .int x2), (3, .int x3)]) (st' := [.int 32, .ref 40960]) 2 rfl ?_
  obtain ⟨⟨v98, F99, A100, J101⟩, hv98, hD⟩ := Option.bind_eq_some_iff.mp hD
  dsimp only at hD
  refine k_runC rfl rfl rfl rfl (t_d_must (d := d + 2) ht hv98) ?_
  refine k_runB (pc' := 123) (loc' := [(0, .ref 40960), (1, .int x1), (2, .int x2), (3, .int x3)]) (st' := [.ref 40960]) 1 rfl ?_
  obtain ⟨⟨v102, F103, A104, J105⟩, hv102, hD⟩ := Option.bind_eq_some_iff.mp hD
  dsimp only at hD
  refine k_runC rfl rfl rfl rfl (t_d_term (d := d) ht hv102) ?_
  refine k_runB (pc' := 129) (loc' := [(0, .ref 40960), (1, .int x1), (2, .int x2), (3, .int x3)]) (st' := [.int 33, .ref 40960]) 2 rfl ?_
  obtain ⟨⟨v106, F107, A108, J109⟩, hv106, hD⟩ := Option.bind_eq_some_iff.mp hD
  dsimp only at hD
  refine k_runC rfl rfl rfl rfl (t_d_must (d := d + 2) ht hv106) ?_
  refine k_runB (pc' := 18) (loc' := [(0, .ref 40960), (1, .int x1), (2, .int x2), (3, .int x3)]) (st' := []) 1 rfl ?_
  refine k_wk [0, 1, 2, 3] (loc' := [(0, .ref 40960), (1, .int x1), (2, .int x2), (3, .int x3)]) rfl rfl ?_
  exact hK18 _ _ _ _ _ _ _ hD
def d_tellLaw_44 (K18 : (Nat → Int32) → (Nat → Nat → Int32) → (Nat → Nat → Int64) → Int32 → Int32 → Int32 → Option (Unit × (Nat → Int32) × (Nat → Nat → Int32) × (Nat → Nat → Int64))) (n : Nat) (F : Nat → Int32) (A : Nat → Nat → Int32) (J : Nat → Nat → Int64) (x1 : Int32) (x2 : Int32) (x3 : Int32) : Option (Unit × (Nat → Int32) × (Nat → Nat → Int32) × (Nat → Nat → Int64)) :=
    cond (g_cnd .le (F 13) 0)
    ((d_goesOn F A J).bind fun (_, F67, A68, J69) =>
    (m_st A68 36 100 (F67 49) (vp_nar .boolean 1)).bind fun A70 =>
    (m_st A70 37 100 (F67 49) (F67 56)).bind fun A71 =>
    (d_expression n F67 A71 J69).bind fun (_, F73, A74, J75) =>
    (d_must F73 A74 J75 13).bind fun (_, F77, A78, J79) =>
    (m_st A78 38 100 (F77 49) (F77 56)).bind fun A80 =>
    cond (g_cnd .ne (F77 13) 0)
    (d_tellLaw_116 K18 n F77 A80 J79 x1 x2 (x3 + 1))
    ((d_expression n F77 A80 J79).bind fun (_, F83, A84, J85) =>
    (d_must F83 A84 J85 32).bind fun (_, F87, A88, J89) =>
    (d_term n F87 A88 J89).bind fun (_, F91, A92, J93) =>
    (d_must F91 A92 J93 33).bind fun (_, F95, A96, J97) =>
    K18 F95 A96 J97 x1 x2 (x3 + 1)))
    (some ((), F, A, J))
theorem t_d_tellLaw_44 (ht : ∀ k, t.1 12 k = k_ty 12 k) {n : Nat} {K18 : (Nat → Int32) → (Nat → Nat → Int32) → (Nat → Nat → Int64) → Int32 → Int32 → Int32 → Option (Unit × (Nat → Int32) × (Nat → Nat → Int32) × (Nat → Nat → Int64))} (hK18 : ∀ (F : Nat → Int32) (A : Nat → Nat → Int32) (J : Nat → Nat → Int64) (x1 : Int32) (x2 : Int32) (x3 : Int32) (w : Unit × (Nat → Int32) × (Nat → Nat → Int32) × (Nat → Nat → Int64)), K18 F A J x1 x2 x3 = some w → k_run t lg (d + 5) 170 18 [(0, .ref 40960), (1, .int x1), (2, .int x2), (3, .int x3)] [] (m_h c B F A J) (none, m_h c B w.2.1 w.2.2.1 w.2.2.2)) {F : Nat → Int32} {A : Nat → Nat → Int32} {J : Nat → Nat → Int64} {x1 : Int32} {x2 : Int32} {x3 : Int32} {w : Unit × (Nat → Int32) × (Nat → Nat → Int32) × (Nat → Nat → Int64)} : d_tellLaw_44 K18 n F A J x1 x2 x3 = some w → k_run t lg (d + 5) 170 44 [(0, .ref 40960), (1, .int x1), (2, .int x2), (3, .int x3)] [] (m_h c B F A J) (none, m_h c B w.2.1 w.2.2.1 w.2.2.2) := by
  intro hD
  unfold d_tellLaw_44 at hD
  refine k_runB (pc' := 48) (loc' := [(0, .ref 40960), (1, .int x1), (2, .int x2), (3, .int x3)]) (st' := [.int (F 13)]) 2 rfl ?_
  refine k_if rfl (fun c48_64 => ?_) (fun c48_64 => ?_)
  · rw [c48_64, cond_true] at hD
    refine k_runB (pc' := 56) (loc' := [(0, .ref 40960), (1, .int x1), (2, .int x2), (3, .int (x3 + 1))]) (st' := [.ref 40960]) 2 rfl ?_
    obtain ⟨⟨v66, F67, A68, J69⟩, hv66, hD⟩ := Option.bind_eq_some_iff.mp hD
    dsimp only at hD
    refine k_runC rfl rfl rfl rfl (t_d_goesOn (d := d + 3) ht hv66) ?_
    refine k_runB (pc' := 68) (loc' := [(0, .ref 40960), (1, .int x1), (2, .int x2), (3, .int (x3 + 1))]) (st' := [.int 1, .int (F67 49), .ref 40996]) 5 rfl ?_
    obtain ⟨A70, hA70, hD⟩ := Option.bind_eq_some_iff.mp hD
    refine k_stZ 36 rfl rfl (fun _ => rfl) hA70 ?_
    refine k_runB (pc' := 81) (loc' := [(0, .ref 40960), (1, .int x1), (2, .int x2), (3, .int (x3 + 1))]) (st' := [.int (F67 56), .int (F67 49), .ref 40997]) 6 rfl ?_
    obtain ⟨A71, hA71, hD⟩ := Option.bind_eq_some_iff.mp hD
    refine k_stI 37 rfl rfl (fun _ => rfl) hA71 ?_
    refine k_runB (pc' := 83) (loc' := [(0, .ref 40960), (1, .int x1), (2, .int x2), (3, .int (x3 + 1))]) (st' := [.ref 40960]) 1 rfl ?_
    obtain ⟨⟨v72, F73, A74, J75⟩, hv72, hD⟩ := Option.bind_eq_some_iff.mp hD
    dsimp only at hD
    refine k_runC rfl rfl rfl rfl (t_d_expression (d := d + 1) ht hv72) ?_
    refine k_runB (pc' := 89) (loc' := [(0, .ref 40960), (1, .int x1), (2, .int x2), (3, .int (x3 + 1))]) (st' := [.int 13, .ref 40960]) 2 rfl ?_
    obtain ⟨⟨v76, F77, A78, J79⟩, hv76, hD⟩ := Option.bind_eq_some_iff.mp hD
    dsimp only at hD
    refine k_runC rfl rfl rfl rfl (t_d_must (d := d + 2) ht hv76) ?_
    refine k_runB (pc' := 104) (loc' := [(0, .ref 40960), (1, .int x1), (2, .int x2), (3, .int (x3 + 1))]) (st' := [.int (F77 56), .int (F77 49), .ref 40998]) 6 rfl ?_
    obtain ⟨A80, hA80, hD⟩ := Option.bind_eq_some_iff.mp hD
    refine k_stI 38 rfl rfl (fun _ => rfl) hA80 ?_
    refine k_runB (pc' := 109) (loc' := [(0, .ref 40960), (1, .int x1), (2, .int x2), (3, .int (x3 + 1))]) (st' := [.int (F77 13)]) 2 rfl ?_
    refine k_if rfl (fun c109_80 => ?_) (fun c109_80 => ?_)
    · rw [c109_80, cond_true] at hD
      refine k_wk [0, 1, 2, 3] (loc' := [(0, .ref 40960), (1, .int x1), (2, .int x2), (3, .int (x3 + 1))]) rfl rfl ?_
      exact t_d_tellLaw_116 ht hK18 hD
    · rw [c109_80, cond_false] at hD
      refine k_runB (pc' := 113) (loc' := [(0, .ref 40960), (1, .int x1), (2, .int x2), (3, .int (x3 + 1))]) (st' := [.ref 40960]) 1 rfl ?_
      obtain ⟨⟨v82, F83, A84, J85⟩, hv82, hD⟩ := Option.bind_eq_some_iff.mp hD
      dsimp only at hD
      refine k_runC rfl rfl rfl rfl (t_d_expression (d := d + 1) ht hv82) ?_
      refine k_runB (pc' := 119) (loc' := [(0, .ref 40960), (1, .int x1), (2, .int x2), (3, .int (x3 + 1))]) (st' := [.int 32, .ref 40960]) 2 rfl ?_
      obtain ⟨⟨v86, F87, A88, J89⟩, hv86, hD⟩ := Option.bind_eq_some_iff.mp hD
      dsimp only at hD
      refine k_runC rfl rfl rfl rfl (t_d_must (d := d + 2) ht hv86) ?_
      refine k_runB (pc' := 123) (loc' := [(0, .ref 40960), (1, .int x1), (2, .int x2), (3, .int (x3 + 1))]) (st' := [.ref 40960]) 1 rfl ?_
      obtain ⟨⟨v90, F91, A92, J93⟩, hv90, hD⟩ := Option.bind_eq_some_iff.mp hD
      dsimp only at hD
      refine k_runC rfl rfl rfl rfl (t_d_term (d := d) ht hv90) ?_
      refine k_runB (pc' := 129) (loc' := [(0, .ref 40960), (1, .int x1), (2, .int x2), (3, .int (x3 + 1))]) (st' := [.int 33, .ref 40960]) 2 rfl ?_
      obtain ⟨⟨v94, F95, A96, J97⟩, hv94, hD⟩ := Option.bind_eq_some_iff.mp hD
      dsimp only at hD
      refine k_runC rfl rfl rfl rfl (t_d_must (d := d + 2) ht hv94) ?_
      refine k_runB (pc' := 18) (loc' := [(0, .ref 40960), (1, .int x1), (2, .int x2), (3, .int (x3 + 1))]) (st' := []) 1 rfl ?_
      refine k_wk [0, 1, 2, 3] (loc' := [(0, .ref 40960), (1, .int x1), (2, .int x2), (3, .int (x3 + 1))]) rfl rfl ?_
      exact hK18 _ _ _ _ _ _ _ hD
  · rw [c48_64, cond_false] at hD
    cases hD
    exact k_vret rfl rfl
def d_tellLaw_18 : Nat → (Nat → Int32) → (Nat → Nat → Int32) → (Nat → Nat → Int64) → Int32 → Int32 → Int32 → Option (Unit × (Nat → Int32) × (Nat → Nat → Int32) × (Nat → Nat → Int64))
  | 0, _, _, _, _, _, _ => none
  | n + 1, F, A, J, x1, x2, x3 => cond (g_cnd .ne (F 13) 0)
    (d_tellLaw_135 n F A J x1 x2)
    ((d_is F A J 31).bind fun v10 =>
    cond (g_cnd .eq v10 0)
    (d_tellLaw_135 n F A J x1 x2)
    (cond (g_cnd .ne x3 4)
    (d_tellLaw_44 (d_tellLaw_18 n) n F A J x1 x2 x3)
    ((d_fail F A J 2).bind fun (_, F14, A15, J16) =>
    cond (g_cnd .le (F14 13) 0)
    ((d_goesOn F14 A15 J16).bind fun (_, F19, A20, J21) =>
    (m_st A20 36 100 (F19 49) (vp_nar .boolean 1)).bind fun A22 =>
    (m_st A22 37 100 (F19 49) (F19 56)).bind fun A23 =>
    (d_expression n F19 A23 J21).bind fun (_, F25, A26, J27) =>
    (d_must F25 A26 J27 13).bind fun (_, F29, A30, J31) =>
    (m_st A30 38 100 (F29 49) (F29 56)).bind fun A32 =>
    cond (g_cnd .ne (F29 13) 0)
    (d_tellLaw_116 (d_tellLaw_18 n) n F29 A32 J31 x1 x2 (x3 + 1))
    ((d_expression n F29 A32 J31).bind fun (_, F35, A36, J37) =>
    (d_must F35 A36 J37 32).bind fun (_, F39, A40, J41) =>
    (d_term n F39 A40 J41).bind fun (_, F43, A44, J45) =>
    (d_must F43 A44 J45 33).bind fun (_, F47, A48, J49) =>
    (d_tellLaw_18 n) F47 A48 J49 x1 x2 (x3 + 1)))
    (some ((), F14, A15, J16)))))
theorem t_d_tellLaw_18 (ht : ∀ k, t.1 12 k = k_ty 12 k) {n : Nat}  {F : Nat → Int32} {A : Nat → Nat → Int32} {J : Nat → Nat → Int64} {x1 : Int32} {x2 : Int32} {x3 : Int32} {w : Unit × (Nat → Int32) × (Nat → Nat → Int32) × (Nat → Nat → Int64)} : d_tellLaw_18 n F A J x1 x2 x3 = some w → k_run t lg (d + 5) 170 18 [(0, .ref 40960), (1, .int x1), (2, .int x2), (3, .int x3)] [] (m_h c B F A J) (none, m_h c B w.2.1 w.2.2.1 w.2.2.2) := by
  induction n generalizing F A J x1 x2 x3 w with
  | zero => intro hD; cases hD
  | succ n ih =>
    intro hD
    have hK18 : ∀ (F : Nat → Int32) (A : Nat → Nat → Int32) (J : Nat → Nat → Int64) (x1 : Int32) (x2 : Int32) (x3 : Int32) (w : Unit × (Nat → Int32) × (Nat → Nat → Int32) × (Nat → Nat → Int64)), d_tellLaw_18 n F A J x1 x2 x3 = some w → k_run t lg (d + 5) 170 18 [(0, .ref 40960), (1, .int x1), (2, .int x2), (3, .int x3)] [] (m_h c B F A J) (none, m_h c B w.2.1 w.2.2.1 w.2.2.2) := fun _ _ _ _ _ _ _ h => ih h
    unfold d_tellLaw_18 at hD
    refine k_runB (pc' := 22) (loc' := [(0, .ref 40960), (1, .int x1), (2, .int x2), (3, .int x3)]) (st' := [.int (F 13)]) 2 rfl ?_
    refine k_if rfl (fun c22_8 => ?_) (fun c22_8 => ?_)
    · rw [c22_8, cond_true] at hD
      refine k_wk [0, 1, 2] (loc' := [(0, .ref 40960), (1, .int x1), (2, .int x2)]) rfl rfl ?_
      exact t_d_tellLaw_135 ht  hD
    · rw [c22_8, cond_false] at hD
      refine k_runB (pc' := 28) (loc' := [(0, .ref 40960), (1, .int x1), (2, .int x2), (3, .int x3)]) (st' := [.int 31, .ref 40960]) 2 rfl ?_
      obtain ⟨v10, hv10, hD⟩ := Option.bind_eq_some_iff.mp hD
      refine k_runC rfl rfl rfl rfl (t_d_is (d := d + 4) hv10) ?_
      refine k_if rfl (fun c31_10 => ?_) (fun c31_10 => ?_)
      · rw [c31_10, cond_true] at hD
        refine k_wk [0, 1, 2] (loc' := [(0, .ref 40960), (1, .int x1), (2, .int x2)]) rfl rfl ?_
        exact t_d_tellLaw_135 ht  hD
      · rw [c31_10, cond_false] at hD
        refine k_runB (pc' := 36) (loc' := [(0, .ref 40960), (1, .int x1), (2, .int x2), (3, .int x3)]) (st' := [.int 4, .int x3]) 2 rfl ?_
        refine k_ic rfl (fun c36_11 => ?_) (fun c36_11 => ?_)
        · rw [c36_11, cond_true] at hD
          refine k_wk [0, 1, 2, 3] (loc' := [(0, .ref 40960), (1, .int x1), (2, .int x2), (3, .int x3)]) rfl rfl ?_
          exact t_d_tellLaw_44 ht hK18 hD
        · rw [c36_11, cond_false] at hD
          refine k_runB (pc' := 41) (loc' := [(0, .ref 40960), (1, .int x1), (2, .int x2), (3, .int x3)]) (st' := [.int 2, .ref 40960]) 2 rfl ?_
          obtain ⟨⟨v13, F14, A15, J16⟩, hv13, hD⟩ := Option.bind_eq_some_iff.mp hD
          dsimp only at hD
          refine k_runC rfl rfl rfl rfl (t_d_fail (d := d + 4) ht hv13) ?_
          refine k_runB (pc' := 48) (loc' := [(0, .ref 40960), (1, .int x1), (2, .int x2), (3, .int x3)]) (st' := [.int (F14 13)]) 2 rfl ?_
          refine k_if rfl (fun c48_16 => ?_) (fun c48_16 => ?_)
          · rw [c48_16, cond_true] at hD
            refine k_runB (pc' := 56) (loc' := [(0, .ref 40960), (1, .int x1), (2, .int x2), (3, .int (x3 + 1))]) (st' := [.ref 40960]) 2 rfl ?_
            obtain ⟨⟨v18, F19, A20, J21⟩, hv18, hD⟩ := Option.bind_eq_some_iff.mp hD
            dsimp only at hD
            refine k_runC rfl rfl rfl rfl (t_d_goesOn (d := d + 3) ht hv18) ?_
            refine k_runB (pc' := 68) (loc' := [(0, .ref 40960), (1, .int x1), (2, .int x2), (3, .int (x3 + 1))]) (st' := [.int 1, .int (F19 49), .ref 40996]) 5 rfl ?_
            obtain ⟨A22, hA22, hD⟩ := Option.bind_eq_some_iff.mp hD
            refine k_stZ 36 rfl rfl (fun _ => rfl) hA22 ?_
            refine k_runB (pc' := 81) (loc' := [(0, .ref 40960), (1, .int x1), (2, .int x2), (3, .int (x3 + 1))]) (st' := [.int (F19 56), .int (F19 49), .ref 40997]) 6 rfl ?_
            obtain ⟨A23, hA23, hD⟩ := Option.bind_eq_some_iff.mp hD
            refine k_stI 37 rfl rfl (fun _ => rfl) hA23 ?_
            refine k_runB (pc' := 83) (loc' := [(0, .ref 40960), (1, .int x1), (2, .int x2), (3, .int (x3 + 1))]) (st' := [.ref 40960]) 1 rfl ?_
            obtain ⟨⟨v24, F25, A26, J27⟩, hv24, hD⟩ := Option.bind_eq_some_iff.mp hD
            dsimp only at hD
            refine k_runC rfl rfl rfl rfl (t_d_expression (d := d + 1) ht hv24) ?_
            refine k_runB (pc' := 89) (loc' := [(0, .ref 40960), (1, .int x1), (2, .int x2), (3, .int (x3 + 1))]) (st' := [.int 13, .ref 40960]) 2 rfl ?_
            obtain ⟨⟨v28, F29, A30, J31⟩, hv28, hD⟩ := Option.bind_eq_some_iff.mp hD
            dsimp only at hD
            refine k_runC rfl rfl rfl rfl (t_d_must (d := d + 2) ht hv28) ?_
            refine k_runB (pc' := 104) (loc' := [(0, .ref 40960), (1, .int x1), (2, .int x2), (3, .int (x3 + 1))]) (st' := [.int (F29 56), .int (F29 49), .ref 40998]) 6 rfl ?_
            obtain ⟨A32, hA32, hD⟩ := Option.bind_eq_some_iff.mp hD
            refine k_stI 38 rfl rfl (fun _ => rfl) hA32 ?_
            refine k_runB (pc' := 109) (loc' := [(0, .ref 40960), (1, .int x1), (2, .int x2), (3, .int (x3 + 1))]) (st' := [.int (F29 13)]) 2 rfl ?_
            refine k_if rfl (fun c109_32 => ?_) (fun c109_32 => ?_)
            · rw [c109_32, cond_true] at hD
              refine k_wk [0, 1, 2, 3] (loc' := [(0, .ref 40960), (1, .int x1), (2, .int x2), (3, .int (x3 + 1))]) rfl rfl ?_
              exact t_d_tellLaw_116 ht hK18 hD
            · rw [c109_32, cond_false] at hD
              refine k_runB (pc' := 113) (loc' := [(0, .ref 40960), (1, .int x1), (2, .int x2), (3, .int (x3 + 1))]) (st' := [.ref 40960]) 1 rfl ?_
              obtain ⟨⟨v34, F35, A36, J37⟩, hv34, hD⟩ := Option.bind_eq_some_iff.mp hD
              dsimp only at hD
              refine k_runC rfl rfl rfl rfl (t_d_expression (d := d + 1) ht hv34) ?_
              refine k_runB (pc' := 119) (loc' := [(0, .ref 40960), (1, .int x1), (2, .int x2), (3, .int (x3 + 1))]) (st' := [.int 32, .ref 40960]) 2 rfl ?_
              obtain ⟨⟨v38, F39, A40, J41⟩, hv38, hD⟩ := Option.bind_eq_some_iff.mp hD
              dsimp only at hD
              refine k_runC rfl rfl rfl rfl (t_d_must (d := d + 2) ht hv38) ?_
              refine k_runB (pc' := 123) (loc' := [(0, .ref 40960), (1, .int x1), (2, .int x2), (3, .int (x3 + 1))]) (st' := [.ref 40960]) 1 rfl ?_
              obtain ⟨⟨v42, F43, A44, J45⟩, hv42, hD⟩ := Option.bind_eq_some_iff.mp hD
              dsimp only at hD
              refine k_runC rfl rfl rfl rfl (t_d_term (d := d) ht hv42) ?_
              refine k_runB (pc' := 129) (loc' := [(0, .ref 40960), (1, .int x1), (2, .int x2), (3, .int (x3 + 1))]) (st' := [.int 33, .ref 40960]) 2 rfl ?_
              obtain ⟨⟨v46, F47, A48, J49⟩, hv46, hD⟩ := Option.bind_eq_some_iff.mp hD
              dsimp only at hD
              refine k_runC rfl rfl rfl rfl (t_d_must (d := d + 2) ht hv46) ?_
              refine k_runB (pc' := 18) (loc' := [(0, .ref 40960), (1, .int x1), (2, .int x2), (3, .int (x3 + 1))]) (st' := []) 1 rfl ?_
              refine k_wk [0, 1, 2, 3] (loc' := [(0, .ref 40960), (1, .int x1), (2, .int x2), (3, .int (x3 + 1))]) rfl rfl ?_
              exact hK18 _ _ _ _ _ _ _ hD
          · rw [c48_16, cond_false] at hD
            cases hD
            exact k_vret rfl rfl
/-- SleepWorkModel.tellLaw()V -/
def d_tellLaw (n : Nat) (F : Nat → Int32) (A : Nat → Nat → Int32) (J : Nat → Nat → Int64) : Option (Unit × (Nat → Int32) × (Nat → Nat → Int32) × (Nat → Nat → Int64)) :=
  (d_known n F A J 3).bind fun (v1, F2, A3, J4) =>
  (d_must F2 A3 J4 5).bind fun (_, F6, A7, J8) =>
  d_tellLaw_18 n F6 A7 J8 v1 (F6 49) 0
theorem t_d_tellLaw (ht : ∀ k, t.1 12 k = k_ty 12 k) {n : Nat} {r : Unit} {F' : Nat → Int32} {A' : Nat → Nat → Int32} {J' : Nat → Nat → Int64} : d_tellLaw n F A J = some (r, F', A', J') → k_run t lg (d + 5) 170 0 [(0, .ref 40960)] [] (m_h c B F A J) (none, m_h c B F' A' J') := by
  intro hD
  unfold d_tellLaw at hD
  refine k_runB (pc' := 2) (loc' := [(0, .ref 40960)]) (st' := [.int 3, .ref 40960]) 2 rfl ?_
  obtain ⟨⟨v1, F2, A3, J4⟩, hv1, hD⟩ := Option.bind_eq_some_iff.mp hD
  dsimp only at hD
  refine k_runC rfl rfl rfl rfl (t_d_known (d := d + 1) ht hv1) ?_
  refine k_runB (pc' := 8) (loc' := [(0, .ref 40960), (1, .int v1)]) (st' := [.int 5, .ref 40960]) 3 rfl ?_
  obtain ⟨⟨v5, F6, A7, J8⟩, hv5, hD⟩ := Option.bind_eq_some_iff.mp hD
  dsimp only at hD
  refine k_runC rfl rfl rfl rfl (t_d_must (d := d + 2) ht hv5) ?_
  refine k_runB (pc' := 18) (loc' := [(0, .ref 40960), (1, .int v1), (2, .int (F6 49)), (3, .int 0)]) (st' := []) 5 rfl ?_
  refine k_wk [0, 1, 2, 3] (loc' := [(0, .ref 40960), (1, .int v1), (2, .int (F6 49)), (3, .int 0)]) rfl rfl ?_
  exact t_d_tellLaw_18 ht  hD
/-- SleepWorkModel.tell()V -/
def d_tell0 (n : Nat) (F : Nat → Int32) (A : Nat → Nat → Int32) (J : Nat → Nat → Int64) : Option (Unit × (Nat → Int32) × (Nat → Nat → Int32) × (Nat → Nat → Int64)) :=
  (m_ld (A 3) 403 (F 11)).bind fun v1 =>
  cond (decide (v1 = 20))
  ((m_ld (A 11) 2 (F 19)).bind fun v3 =>
  (d_roomFor F A J v3 8).bind fun (_, F5, A6, J7) =>
  cond (g_cnd .ne (F5 13) 0)
  (some ((), F5, A6, J7))
  ((d_tellRoom n F5 A6 J7).bind fun (_, F10, A11, J12) =>
  some ((), F10, A11, J12)))
  (cond (decide (v1 = 21))
  ((m_ld (A 12) 2 (F 19)).bind fun v13 =>
  (d_roomFor F A J v13 12).bind fun (_, F15, A16, J17) =>
  cond (g_cnd .ne (F15 13) 0)
  (some ((), F15, A16, J17))
  ((d_tellDoor n F15 A16 J17).bind fun (_, F20, A21, J22) =>
  some ((), F20, A21, J22)))
  (cond (decide (v1 = 22))
  ((d_fail F A J 1).bind fun (_, F24, A25, J26) =>
  some ((), F24, A25, J26))
  (cond (decide (v1 = 23))
  ((m_ld (A 17) 2 (F 19)).bind fun v27 =>
  (d_roomFor F A J v27 6).bind fun (_, F29, A30, J31) =>
  cond (g_cnd .ne (F29 13) 0)
  (some ((), F29, A30, J31))
  ((d_tellTool n F29 A30 J31).bind fun (_, F34, A35, J36) =>
  some ((), F34, A35, J36)))
  (cond (decide (v1 = 24))
  ((m_ld (A 19) 2 (F 19)).bind fun v37 =>
  (d_roomFor F A J v37 6).bind fun (_, F39, A40, J41) =>
  cond (g_cnd .ne (F39 13) 0)
  (some ((), F39, A40, J41))
  ((d_tellTask n F39 A40 J41).bind fun (_, F44, A45, J46) =>
  some ((), F44, A45, J46)))
  (cond (decide (v1 = 25))
  ((d_goesOn F A J).bind fun (_, F48, A49, J50) =>
  (d_tellStep n F48 A49 J50 ((F48 11) - 1)).bind fun (_, F52, A53, J54) =>
  some ((), F52, A53, J54))
  (cond (decide (v1 = 26))
  ((d_fail F A J 1).bind fun (_, F56, A57, J58) =>
  some ((), F56, A57, J58))
  (cond (decide (v1 = 27))
  ((d_fail F A J 1).bind fun (_, F60, A61, J62) =>
  some ((), F60, A61, J62))
  (cond (decide (v1 = 28))
  ((m_ld (A 29) 2 (F 19)).bind fun v63 =>
  (d_roomFor F A J v63 6).bind fun (_, F65, A66, J67) =>
  cond (g_cnd .ne (F65 13) 0)
  (some ((), F65, A66, J67))
  ((d_tellMan n F65 A66 J67).bind fun (_, F70, A71, J72) =>
  some ((), F70, A71, J72)))
  (cond (decide (v1 = 29))
  ((d_fail F A J 1).bind fun (_, F74, A75, J76) =>
  some ((), F74, A75, J76))
  (cond (decide (v1 = 30))
  ((m_ld (A 33) 2 (F 19)).bind fun v77 =>
  (d_roomFor F A J v77 8).bind fun (_, F79, A80, J81) =>
  cond (g_cnd .ne (F79 13) 0)
  (some ((), F79, A80, J81))
  ((d_tellLaw n F79 A80 J81).bind fun (_, F84, A85, J86) =>
  some ((), F84, A85, J86)))
  (cond (decide (v1 = 31))
  ((d_fail F A J 1).bind fun (_, F88, A89, J90) =>
  some ((), F88, A89, J90))
  (cond (decide (v1 = 32))
  ((d_fail F A J 1).bind fun (_, F92, A93, J94) =>
  some ((), F92, A93, J94))
  (cond (decide (v1 = 33))
  ((d_fail F A J 1).bind fun (_, F96, A97, J98) =>
  some ((), F96, A97, J98))
  (cond (decide (v1 = 34))
  ((d_goesOn F A J).bind fun (_, F100, A101, J102) =>
  (d_bounded F100 A101 J102 1 600).bind fun (v103, F104, A105, J106) =>
  (m_st A105 41 2 (F100 19) v103).bind fun A107 =>
  (d_must F104 A107 J106 4).bind fun (_, F109, A110, J111) =>
  some ((), F109, A110, J111))
  ((d_fail F A J 1).bind fun (_, F113, A114, J115) =>
  some ((), F113, A114, J115))))))))))))))))
theorem t_d_tell0 (ht : ∀ k, t.1 12 k = k_ty 12 k) {n : Nat} {r : Unit} {F' : Nat → Int32} {A' : Nat → Nat → Int32} {J' : Nat → Nat → Int64} : d_tell0 n F A J = some (r, F', A', J') → k_run t lg (d + 6) 159 0 [(0, .ref 40960)] [] (m_h c B F A J) (none, m_h c B F' A' J') := by
  intro hD
  unfold d_tell0 at hD
  refine k_runB (pc' := 8) (loc' := [(0, .ref 40960)]) (st' := [.int (F 11), .ref 40963]) 4 rfl ?_
  obtain ⟨v1, hv1, hD⟩ := Option.bind_eq_some_iff.mp hD
  refine k_ldI rfl rfl hv1 ?_
  cases c9_1_0 : decide (v1 = 20) with
  | true =>
    rw [c9_1_0, cond_true] at hD
    refine k_tab (tgt := 84) rfl (by rw [of_decide_eq_true c9_1_0]; decide) ?_
    refine k_runB (pc' := 93) (loc' := [(0, .ref 40960)]) (st' := [.int (F 19), .ref 40971, .ref 40960]) 5 rfl ?_
    obtain ⟨v3, hv3, hD⟩ := Option.bind_eq_some_iff.mp hD
    refine k_ldI rfl rfl hv3 ?_
    refine k_runB (pc' := 96) (loc' := [(0, .ref 40960)]) (st' := [.int 8, .int v3, .ref 40960]) 1 rfl ?_
    obtain ⟨⟨v4, F5, A6, J7⟩, hv4, hD⟩ := Option.bind_eq_some_iff.mp hD
    dsimp only at hD
    refine k_runC rfl rfl rfl rfl (t_d_roomFor (d := d + 3) ht hv4) ?_
    refine k_runB (pc' := 103) (loc' := [(0, .ref 40960)]) (st' := [.int (F5 13)]) 2 rfl ?_
    refine k_if rfl (fun c103_7 => ?_) (fun c103_7 => ?_)
    · rw [c103_7, cond_true] at hD
      cases hD
      exact k_vret rfl rfl
    · rw [c103_7, cond_false] at hD
      refine k_runB (pc' := 107) (loc' := [(0, .ref 40960)]) (st' := [.ref 40960]) 1 rfl ?_
      obtain ⟨⟨v9, F10, A11, J12⟩, hv9, hD⟩ := Option.bind_eq_some_iff.mp hD
      dsimp only at hD
      refine k_runC rfl rfl rfl rfl (t_d_tellRoom (d := d + 1) ht hv9) ?_
      refine k_runB (pc' := 309) (loc' := [(0, .ref 40960)]) (st' := []) 1 rfl ?_
      cases hD
      exact k_vret rfl rfl
  | false =>
    rw [c9_1_0, cond_false] at hD
    cases c9_1_1 : decide (v1 = 21) with
    | true =>
      rw [c9_1_1, cond_true] at hD
      refine k_tab (tgt := 113) rfl (by rw [of_decide_eq_true c9_1_1]; decide) ?_
      refine k_runB (pc' := 122) (loc' := [(0, .ref 40960)]) (st' := [.int (F 19), .ref 40972, .ref 40960]) 5 rfl ?_
      obtain ⟨v13, hv13, hD⟩ := Option.bind_eq_some_iff.mp hD
      refine k_ldI rfl rfl hv13 ?_
      refine k_runB (pc' := 125) (loc' := [(0, .ref 40960)]) (st' := [.int 12, .int v13, .ref 40960]) 1 rfl ?_
      obtain ⟨⟨v14, F15, A16, J17⟩, hv14, hD⟩ := Option.bind_eq_some_iff.mp hD
      dsimp only at hD
      refine k_runC rfl rfl rfl rfl (t_d_roomFor (d := d + 3) ht hv14) ?_
      refine k_runB (pc' := 132) (loc' := [(0, .ref 40960)]) (st' := [.int (F15 13)]) 2 rfl ?_
      refine k_if rfl (fun c132_17 => ?_) (fun c132_17 => ?_)
      · rw [c132_17, cond_true] at hD
        cases hD
        exact k_vret rfl rfl
      · rw [c132_17, cond_false] at hD
        refine k_runB (pc' := 136) (loc' := [(0, .ref 40960)]) (st' := [.ref 40960]) 1 rfl ?_
        obtain ⟨⟨v19, F20, A21, J22⟩, hv19, hD⟩ := Option.bind_eq_some_iff.mp hD
        dsimp only at hD
        refine k_runC rfl rfl rfl rfl (t_d_tellDoor (d := d + 1) ht hv19) ?_
        refine k_runB (pc' := 309) (loc' := [(0, .ref 40960)]) (st' := []) 1 rfl ?_
        cases hD
        exact k_vret rfl rfl
    | false =>
      rw [c9_1_1, cond_false] at hD
      cases c9_1_2 : decide (v1 = 22) with
      | true =>
        rw [c9_1_2, cond_true] at hD
        refine k_tab (tgt := 304) rfl (by rw [of_decide_eq_true c9_1_2]; decide) ?_
        refine k_runB (pc' := 306) (loc' := [(0, .ref 40960)]) (st' := [.int 1, .ref 40960]) 2 rfl ?_
        obtain ⟨⟨v23, F24, A25, J26⟩, hv23, hD⟩ := Option.bind_eq_some_iff.mp hD
        dsimp only at hD
        refine k_runC rfl rfl rfl rfl (t_d_fail (d := d + 5) ht hv23) ?_
        cases hD
        exact k_vret rfl rfl
      | false =>
        rw [c9_1_2, cond_false] at hD
        cases c9_1_3 : decide (v1 = 23) with
        | true =>
          rw [c9_1_3, cond_true] at hD
          refine k_tab (tgt := 142) rfl (by rw [of_decide_eq_true c9_1_3]; decide) ?_
          refine k_runB (pc' := 151) (loc' := [(0, .ref 40960)]) (st' := [.int (F 19), .ref 40977, .ref 40960]) 5 rfl ?_
          obtain ⟨v27, hv27, hD⟩ := Option.bind_eq_some_iff.mp hD
          refine k_ldI rfl rfl hv27 ?_
          refine k_runB (pc' := 154) (loc' := [(0, .ref 40960)]) (st' := [.int 6, .int v27, .ref 40960]) 1 rfl ?_
          obtain ⟨⟨v28, F29, A30, J31⟩, hv28, hD⟩ := Option.bind_eq_some_iff.mp hD
          dsimp only at hD
          refine k_runC rfl rfl rfl rfl (t_d_roomFor (d := d + 3) ht hv28) ?_
          refine k_runB (pc' := 161) (loc' := [(0, .ref 40960)]) (st' := [.int (F29 13)]) 2 rfl ?_
          refine k_if rfl (fun c161_31 => ?_) (fun c161_31 => ?_)
          · rw [c161_31, cond_true] at hD
            cases hD
            exact k_vret rfl rfl
          · rw [c161_31, cond_false] at hD
            refine k_runB (pc' := 165) (loc' := [(0, .ref 40960)]) (st' := [.ref 40960]) 1 rfl ?_
            obtain ⟨⟨v33, F34, A35, J36⟩, hv33, hD⟩ := Option.bind_eq_some_iff.mp hD
            dsimp only at hD
            refine k_runC rfl rfl rfl rfl (t_d_tellTool (d := d + 1) ht hv33) ?_
            refine k_runB (pc' := 309) (loc' := [(0, .ref 40960)]) (st' := []) 1 rfl ?_
            cases hD
            exact k_vret rfl rfl
        | false =>
          rw [c9_1_3, cond_false] at hD
          cases c9_1_4 : decide (v1 = 24) with
          | true =>
            rw [c9_1_4, cond_true] at hD
            refine k_tab (tgt := 171) rfl (by rw [of_decide_eq_true c9_1_4]; decide) ?_
            refine k_runB (pc' := 180) (loc' := [(0, .ref 40960)]) (st' := [.int (F 19), .ref 40979, .ref 40960]) 5 rfl ?_
            obtain ⟨v37, hv37, hD⟩ := Option.bind_eq_some_iff.mp hD
            refine k_ldI rfl rfl hv37 ?_
            refine k_runB (pc' := 183) (loc' := [(0, .ref 40960)]) (st' := [.int 6, .int v37, .ref 40960]) 1 rfl ?_
            obtain ⟨⟨v38, F39, A40, J41⟩, hv38, hD⟩ := Option.bind_eq_some_iff.mp hD
            dsimp only at hD
            refine k_runC rfl rfl rfl rfl (t_d_roomFor (d := d + 3) ht hv38) ?_
            refine k_runB (pc' := 190) (loc' := [(0, .ref 40960)]) (st' := [.int (F39 13)]) 2 rfl ?_
            refine k_if rfl (fun c190_41 => ?_) (fun c190_41 => ?_)
            · rw [c190_41, cond_true] at hD
              cases hD
              exact k_vret rfl rfl
            · rw [c190_41, cond_false] at hD
              refine k_runB (pc' := 194) (loc' := [(0, .ref 40960)]) (st' := [.ref 40960]) 1 rfl ?_
              obtain ⟨⟨v43, F44, A45, J46⟩, hv43, hD⟩ := Option.bind_eq_some_iff.mp hD
              dsimp only at hD
              refine k_runC rfl rfl rfl rfl (t_d_tellTask (d := d + 1) ht hv43) ?_
              refine k_runB (pc' := 309) (loc' := [(0, .ref 40960)]) (st' := []) 1 rfl ?_
              cases hD
              exact k_vret rfl rfl
          | false =>
            rw [c9_1_4, cond_false] at hD
            cases c9_1_5 : decide (v1 = 25) with
            | true =>
              rw [c9_1_5, cond_true] at hD
              refine k_tab (tgt := 200) rfl (by rw [of_decide_eq_true c9_1_5]; decide) ?_
              refine k_runB (pc' := 201) (loc' := [(0, .ref 40960)]) (st' := [.ref 40960]) 1 rfl ?_
              obtain ⟨⟨v47, F48, A49, J50⟩, hv47, hD⟩ := Option.bind_eq_some_iff.mp hD
              dsimp only at hD
              refine k_runC rfl rfl rfl rfl (t_d_goesOn (d := d + 4) ht hv47) ?_
              refine k_runB (pc' := 211) (loc' := [(0, .ref 40960)]) (st' := [.int ((F48 11) - 1), .ref 40960]) 5 rfl ?_
              obtain ⟨⟨v51, F52, A53, J54⟩, hv51, hD⟩ := Option.bind_eq_some_iff.mp hD
              dsimp only at hD
              refine k_runC rfl rfl rfl rfl (t_d_tellStep (d := d + 1) ht hv51) ?_
              refine k_runB (pc' := 309) (loc' := [(0, .ref 40960)]) (st' := []) 1 rfl ?_
              cases hD
              exact k_vret rfl rfl
            | false =>
              rw [c9_1_5, cond_false] at hD
              cases c9_1_6 : decide (v1 = 26) with
              | true =>
                rw [c9_1_6, cond_true] at hD
                refine k_tab (tgt := 304) rfl (by rw [of_decide_eq_true c9_1_6]; decide) ?_
                refine k_runB (pc' := 306) (loc' := [(0, .ref 40960)]) (st' := [.int 1, .ref 40960]) 2 rfl ?_
                obtain ⟨⟨v55, F56, A57, J58⟩, hv55, hD⟩ := Option.bind_eq_some_iff.mp hD
                dsimp only at hD
                refine k_runC rfl rfl rfl rfl (t_d_fail (d := d + 5) ht hv55) ?_
                cases hD
                exact k_vret rfl rfl
              | false =>
                rw [c9_1_6, cond_false] at hD
                cases c9_1_7 : decide (v1 = 27) with
                | true =>
                  rw [c9_1_7, cond_true] at hD
                  refine k_tab (tgt := 304) rfl (by rw [of_decide_eq_true c9_1_7]; decide) ?_
                  refine k_runB (pc' := 306) (loc' := [(0, .ref 40960)]) (st' := [.int 1, .ref 40960]) 2 rfl ?_
                  obtain ⟨⟨v59, F60, A61, J62⟩, hv59, hD⟩ := Option.bind_eq_some_iff.mp hD
                  dsimp only at hD
                  refine k_runC rfl rfl rfl rfl (t_d_fail (d := d + 5) ht hv59) ?_
                  cases hD
                  exact k_vret rfl rfl
                | false =>
                  rw [c9_1_7, cond_false] at hD
                  cases c9_1_8 : decide (v1 = 28) with
                  | true =>
                    rw [c9_1_8, cond_true] at hD
                    refine k_tab (tgt := 217) rfl (by rw [of_decide_eq_true c9_1_8]; decide) ?_
                    refine k_runB (pc' := 226) (loc' := [(0, .ref 40960)]) (st' := [.int (F 19), .ref 40989, .ref 40960]) 5 rfl ?_
                    obtain ⟨v63, hv63, hD⟩ := Option.bind_eq_some_iff.mp hD
                    refine k_ldI rfl rfl hv63 ?_
                    refine k_runB (pc' := 229) (loc' := [(0, .ref 40960)]) (st' := [.int 6, .int v63, .ref 40960]) 1 rfl ?_
                    obtain ⟨⟨v64, F65, A66, J67⟩, hv64, hD⟩ := Option.bind_eq_some_iff.mp hD
                    dsimp only at hD
                    refine k_runC rfl rfl rfl rfl (t_d_roomFor (d := d + 3) ht hv64) ?_
                    refine k_runB (pc' := 236) (loc' := [(0, .ref 40960)]) (st' := [.int (F65 13)]) 2 rfl ?_
                    refine k_if rfl (fun c236_67 => ?_) (fun c236_67 => ?_)
                    · rw [c236_67, cond_true] at hD
                      cases hD
                      exact k_vret rfl rfl
                    · rw [c236_67, cond_false] at hD
                      refine k_runB (pc' := 240) (loc' := [(0, .ref 40960)]) (st' := [.ref 40960]) 1 rfl ?_
                      obtain ⟨⟨v69, F70, A71, J72⟩, hv69, hD⟩ := Option.bind_eq_some_iff.mp hD
                      dsimp only at hD
                      refine k_runC rfl rfl rfl rfl (t_d_tellMan (d := d + 1) ht hv69) ?_
                      refine k_runB (pc' := 309) (loc' := [(0, .ref 40960)]) (st' := []) 1 rfl ?_
                      cases hD
                      exact k_vret rfl rfl
                  | false =>
                    rw [c9_1_8, cond_false] at hD
                    cases c9_1_9 : decide (v1 = 29) with
                    | true =>
                      rw [c9_1_9, cond_true] at hD
                      refine k_tab (tgt := 304) rfl (by rw [of_decide_eq_true c9_1_9]; decide) ?_
                      refine k_runB (pc' := 306) (loc' := [(0, .ref 40960)]) (st' := [.int 1, .ref 40960]) 2 rfl ?_
                      obtain ⟨⟨v73, F74, A75, J76⟩, hv73, hD⟩ := Option.bind_eq_some_iff.mp hD
                      dsimp only at hD
                      refine k_runC rfl rfl rfl rfl (t_d_fail (d := d + 5) ht hv73) ?_
                      cases hD
                      exact k_vret rfl rfl
                    | false =>
                      rw [c9_1_9, cond_false] at hD
                      cases c9_1_10 : decide (v1 = 30) with
                      | true =>
                        rw [c9_1_10, cond_true] at hD
                        refine k_tab (tgt := 246) rfl (by rw [of_decide_eq_true c9_1_10]; decide) ?_
                        refine k_runB (pc' := 255) (loc' := [(0, .ref 40960)]) (st' := [.int (F 19), .ref 40993, .ref 40960]) 5 rfl ?_
                        obtain ⟨v77, hv77, hD⟩ := Option.bind_eq_some_iff.mp hD
                        refine k_ldI rfl rfl hv77 ?_
                        refine k_runB (pc' := 258) (loc' := [(0, .ref 40960)]) (st' := [.int 8, .int v77, .ref 40960]) 1 rfl ?_
                        obtain ⟨⟨v78, F79, A80, J81⟩, hv78, hD⟩ := Option.bind_eq_some_iff.mp hD
                        dsimp only at hD
                        refine k_runC rfl rfl rfl rfl (t_d_roomFor (d := d + 3) ht hv78) ?_
                        refine k_runB (pc' := 265) (loc' := [(0, .ref 40960)]) (st' := [.int (F79 13)]) 2 rfl ?_
                        refine k_if rfl (fun c265_81 => ?_) (fun c265_81 => ?_)
                        · rw [c265_81, cond_true] at hD
                          cases hD
                          exact k_vret rfl rfl
                        · rw [c265_81, cond_false] at hD
                          refine k_runB (pc' := 269) (loc' := [(0, .ref 40960)]) (st' := [.ref 40960]) 1 rfl ?_
                          obtain ⟨⟨v83, F84, A85, J86⟩, hv83, hD⟩ := Option.bind_eq_some_iff.mp hD
                          dsimp only at hD
                          refine k_runC rfl rfl rfl rfl (t_d_tellLaw (d := d) ht hv83) ?_
                          refine k_runB (pc' := 309) (loc' := [(0, .ref 40960)]) (st' := []) 1 rfl ?_
                          cases hD
                          exact k_vret rfl rfl
                      | false =>
                        rw [c9_1_10, cond_false] at hD
                        cases c9_1_11 : decide (v1 = 31) with
                        | true =>
                          rw [c9_1_11, cond_true] at hD
                          refine k_tab (tgt := 304) rfl (by rw [of_decide_eq_true c9_1_11]; decide) ?_
                          refine k_runB (pc' := 306) (loc' := [(0, .ref 40960)]) (st' := [.int 1, .ref 40960]) 2 rfl ?_
                          obtain ⟨⟨v87, F88, A89, J90⟩, hv87, hD⟩ := Option.bind_eq_some_iff.mp hD
                          dsimp only at hD
                          refine k_runC rfl rfl rfl rfl (t_d_fail (d := d + 5) ht hv87) ?_
                          cases hD
                          exact k_vret rfl rfl
                        | false =>
                          rw [c9_1_11, cond_false] at hD
                          cases c9_1_12 : decide (v1 = 32) with
                          | true =>
                            rw [c9_1_12, cond_true] at hD
                            refine k_tab (tgt := 304) rfl (by rw [of_decide_eq_true c9_1_12]; decide) ?_
                            refine k_runB (pc' := 306) (loc' := [(0, .ref 40960)]) (st' := [.int 1, .ref 40960]) 2 rfl ?_
                            obtain ⟨⟨v91, F92, A93, J94⟩, hv91, hD⟩ := Option.bind_eq_some_iff.mp hD
                            dsimp only at hD
                            refine k_runC rfl rfl rfl rfl (t_d_fail (d := d + 5) ht hv91) ?_
                            cases hD
                            exact k_vret rfl rfl
                          | false =>
                            rw [c9_1_12, cond_false] at hD
                            cases c9_1_13 : decide (v1 = 33) with
                            | true =>
                              rw [c9_1_13, cond_true] at hD
                              refine k_tab (tgt := 304) rfl (by rw [of_decide_eq_true c9_1_13]; decide) ?_
                              refine k_runB (pc' := 306) (loc' := [(0, .ref 40960)]) (st' := [.int 1, .ref 40960]) 2 rfl ?_
                              obtain ⟨⟨v95, F96, A97, J98⟩, hv95, hD⟩ := Option.bind_eq_some_iff.mp hD
                              dsimp only at hD
                              refine k_runC rfl rfl rfl rfl (t_d_fail (d := d + 5) ht hv95) ?_
                              cases hD
                              exact k_vret rfl rfl
                            | false =>
                              rw [c9_1_13, cond_false] at hD
                              cases c9_1_14 : decide (v1 = 34) with
                              | true =>
                                rw [c9_1_14, cond_true] at hD
                                refine k_tab (tgt := 275) rfl (by rw [of_decide_eq_true c9_1_14]; decide) ?_
                                refine k_runB (pc' := 276) (loc' := [(0, .ref 40960)]) (st' := [.ref 40960]) 1 rfl ?_
                                obtain ⟨⟨v99, F100, A101, J102⟩, hv99, hD⟩ := Option.bind_eq_some_iff.mp hD
                                dsimp only at hD
                                refine k_runC rfl rfl rfl rfl (t_d_goesOn (d := d + 4) ht hv99) ?_
                                refine k_runB (pc' := 292) (loc' := [(0, .ref 40960)]) (st' := [.int 600, .int 1, .ref 40960, .int (F100 19), .ref 41001]) 7 rfl ?_
                                obtain ⟨⟨v103, F104, A105, J106⟩, hv103, hD⟩ := Option.bind_eq_some_iff.mp hD
                                dsimp only at hD
                                refine k_runC rfl rfl rfl rfl (t_d_bounded (d := d + 3) ht hv103) ?_
                                obtain ⟨A107, hA107, hD⟩ := Option.bind_eq_some_iff.mp hD
                                refine k_stI 41 rfl rfl (fun _ => rfl) hA107 ?_
                                refine k_runB (pc' := 298) (loc' := [(0, .ref 40960)]) (st' := [.int 4, .ref 40960]) 2 rfl ?_
                                obtain ⟨⟨v108, F109, A110, J111⟩, hv108, hD⟩ := Option.bind_eq_some_iff.mp hD
                                dsimp only at hD
                                refine k_runC rfl rfl rfl rfl (t_d_must (d := d + 3) ht hv108) ?_
                                refine k_runB (pc' := 309) (loc' := [(0, .ref 40960)]) (st' := []) 1 rfl ?_
                                cases hD
                                exact k_vret rfl rfl
                              | false =>
                                rw [c9_1_14, cond_false] at hD
                                refine k_tab (tgt := 304) rfl (by rw [if_pos (m_out (lo := 20) (hi := 34) [20, 21, 22, 23, 24, 25, 26, 27, 28, 29, 30, 31, 32, 33, 34] (by decide) (by decide) (List.forall_mem_cons.mpr ⟨of_decide_eq_false c9_1_0, List.forall_mem_cons.mpr ⟨of_decide_eq_false c9_1_1, List.forall_mem_cons.mpr ⟨of_decide_eq_false c9_1_2, List.forall_mem_cons.mpr ⟨of_decide_eq_false c9_1_3, List.forall_mem_cons.mpr ⟨of_decide_eq_false c9_1_4, List.forall_mem_cons.mpr ⟨of_decide_eq_false c9_1_5, List.forall_mem_cons.mpr ⟨of_decide_eq_false c9_1_6, List.forall_mem_cons.mpr ⟨of_decide_eq_false c9_1_7, List.forall_mem_cons.mpr ⟨of_decide_eq_false c9_1_8, List.forall_mem_cons.mpr ⟨of_decide_eq_false c9_1_9, List.forall_mem_cons.mpr ⟨of_decide_eq_false c9_1_10, List.forall_mem_cons.mpr ⟨of_decide_eq_false c9_1_11, List.forall_mem_cons.mpr ⟨of_decide_eq_false c9_1_12, List.forall_mem_cons.mpr ⟨of_decide_eq_false c9_1_13, List.forall_mem_cons.mpr ⟨of_decide_eq_false c9_1_14, fun _ h => absurd h List.not_mem_nil⟩⟩⟩⟩⟩⟩⟩⟩⟩⟩⟩⟩⟩⟩⟩))]; rfl) ?_
                                refine k_runB (pc' := 306) (loc' := [(0, .ref 40960)]) (st' := [.int 1, .ref 40960]) 2 rfl ?_
                                obtain ⟨⟨v112, F113, A114, J115⟩, hv112, hD⟩ := Option.bind_eq_some_iff.mp hD
                                dsimp only at hD
                                refine k_runC rfl rfl rfl rfl (t_d_fail (d := d + 5) ht hv112) ?_
                                cases hD
                                exact k_vret rfl rfl
/-- SleepWorkModel.tell(III)I -/
def d_tell3 (F : Nat → Int32) (A : Nat → Nat → Int32) (J : Nat → Nat → Int64) (x1 : Int32) (x2 : Int32) (x3 : Int32) : Option (Int32 × (Nat → Int32) × (Nat → Nat → Int32) × (Nat → Nat → Int64)) :=
  cond (g_cnd .eq (F 77) 30)
  (some ((-1), F, A, J))
  ((d_isStep F A J x1 x2).bind fun v2 =>
  cond (g_cnd .eq v2 0)
  (some ((-1), F, A, J))
  ((d_in x3 0 999).bind fun v4 =>
  cond (g_cnd .ne v4 0)
  ((m_st A 58 30 (F 77) x1).bind fun A6 =>
  (m_st A6 59 30 (F 77) x2).bind fun A7 =>
  (m_st A7 60 30 (F 77) x3).bind fun A8 =>
  (m_pf F 77 ((F 77) + 1)).bind fun F9 =>
  some ((F9 77) - 1, F9, A8, J))
  (some ((-1), F, A, J))))
theorem t_d_tell3 (ht : ∀ k, t.1 12 k = k_ty 12 k) {x1 : Int32} {x2 : Int32} {x3 : Int32} {r : Int32} {F' : Nat → Int32} {A' : Nat → Nat → Int32} {J' : Nat → Nat → Int64} : d_tell3 F A J x1 x2 x3 = some (r, F', A', J') → k_run t lg (d + 3) 230 0 [(0, .ref 40960), (1, .int x1), (2, .int x2), (3, .int x3)] [] (m_h c B F A J) (some (.int r), m_h c B F' A' J') := by
  intro hD
  unfold d_tell3 at hD
  refine k_runB (pc' := 6) (loc' := [(0, .ref 40960), (1, .int x1), (2, .int x2), (3, .int x3)]) (st' := [.int 30, .int (F 77)]) 3 rfl ?_
  refine k_ic rfl (fun c6_0 => ?_) (fun c6_0 => ?_)
  · rw [c6_0, cond_true] at hD
    refine k_runB (pc' := 30) (loc' := [(0, .ref 40960), (1, .int x1), (2, .int x2), (3, .int x3)]) (st' := [.int ((-1))]) 1 rfl ?_
    cases hD
    exact k_iret rfl rfl
  · rw [c6_0, cond_false] at hD
    refine k_runB (pc' := 12) (loc' := [(0, .ref 40960), (1, .int x1), (2, .int x2), (3, .int x3)]) (st' := [.int x2, .int x1, .ref 40960]) 3 rfl ?_
    obtain ⟨v2, hv2, hD⟩ := Option.bind_eq_some_iff.mp hD
    refine k_runC rfl rfl rfl rfl (t_d_isStep (d := d) hv2) ?_
    refine k_if rfl (fun c15_2 => ?_) (fun c15_2 => ?_)
    · rw [c15_2, cond_true] at hD
      refine k_runB (pc' := 30) (loc' := [(0, .ref 40960), (1, .int x1), (2, .int x2), (3, .int x3)]) (st' := [.int ((-1))]) 1 rfl ?_
      cases hD
      exact k_iret rfl rfl
    · rw [c15_2, cond_false] at hD
      refine k_runB (pc' := 23) (loc' := [(0, .ref 40960), (1, .int x1), (2, .int x2), (3, .int x3)]) (st' := [.int 999, .int 0, .int x3]) 3 rfl ?_
      obtain ⟨v4, hv4, hD⟩ := Option.bind_eq_some_iff.mp hD
      refine k_runC rfl rfl rfl rfl (t_d_in (d := d + 2) hv4) ?_
      refine k_if rfl (fun c26_4 => ?_) (fun c26_4 => ?_)
      · rw [c26_4, cond_true] at hD
        refine k_runB (pc' := 40) (loc' := [(0, .ref 40960), (1, .int x1), (2, .int x2), (3, .int x3)]) (st' := [.int x1, .int (F 77), .ref 41018]) 5 rfl ?_
        obtain ⟨A6, hA6, hD⟩ := Option.bind_eq_some_iff.mp hD
        refine k_stI 58 rfl rfl (fun _ => rfl) hA6 ?_
        refine k_runB (pc' := 50) (loc' := [(0, .ref 40960), (1, .int x1), (2, .int x2), (3, .int x3)]) (st' := [.int x2, .int (F 77), .ref 41019]) 5 rfl ?_
        obtain ⟨A7, hA7, hD⟩ := Option.bind_eq_some_iff.mp hD
        refine k_stI 59 rfl rfl (fun _ => rfl) hA7 ?_
        refine k_runB (pc' := 60) (loc' := [(0, .ref 40960), (1, .int x1), (2, .int x2), (3, .int x3)]) (st' := [.int x3, .int (F 77), .ref 41020]) 5 rfl ?_
        obtain ⟨A8, hA8, hD⟩ := Option.bind_eq_some_iff.mp hD
        refine k_stI 60 rfl rfl (fun _ => rfl) hA8 ?_
        refine k_runB (pc' := 68) (loc' := [(0, .ref 40960), (1, .int x1), (2, .int x2), (3, .int x3)]) (st' := [.int ((F 77) + 1), .ref 40960]) 5 rfl ?_
        obtain ⟨F9, hF9, hD⟩ := Option.bind_eq_some_iff.mp hD
        refine k_ptI rfl (ht 77) rfl rfl hF9 ?_
        refine k_runB (pc' := 77) (loc' := [(0, .ref 40960), (1, .int x1), (2, .int x2), (3, .int x3)]) (st' := [.int ((F9 77) - 1)]) 4 rfl ?_
        cases hD
        exact k_iret rfl rfl
      · rw [c26_4, cond_false] at hD
        refine k_runB (pc' := 30) (loc' := [(0, .ref 40960), (1, .int x1), (2, .int x2), (3, .int x3)]) (st' := [.int ((-1))]) 1 rfl ?_
        cases hD
        exact k_iret rfl rfl
def d_read_322 : Nat → (Nat → Int32) → (Nat → Nat → Int32) → (Nat → Nat → Int64) → Int32 → Option (Int32 × (Nat → Int32) × (Nat → Nat → Int32) × (Nat → Nat → Int64))
  | 0, _, _, _, _ => none
  | n + 1, F, A, J, x1 => cond (g_cnd .ge x1 3)
    (some (0, F, A, J))
    ((m_st A 61 3 x1 (vp_nar .boolean 0)).bind fun A48 =>
    (d_read_322 n) F A48 J (x1 + 1))
theorem t_d_read_322 (ht : ∀ k, t.1 12 k = k_ty 12 k) {n : Nat}  {F : Nat → Int32} {A : Nat → Nat → Int32} {J : Nat → Nat → Int64} {x1 : Int32} {w : Int32 × (Nat → Int32) × (Nat → Nat → Int32) × (Nat → Nat → Int64)} : d_read_322 n F A J x1 = some w → k_run t lg (d + 7) 155 322 [(0, .ref 40960), (1, .int x1)] [] (m_h c B F A J) (some (.int w.1), m_h c B w.2.1 w.2.2.1 w.2.2.2) := by
  induction n generalizing F A J x1 w with
  | zero => intro hD; cases hD
  | succ n ih =>
    intro hD
    have hK322 : ∀ (F : Nat → Int32) (A : Nat → Nat → Int32) (J : Nat → Nat → Int64) (x1 : Int32) (w : Int32 × (Nat → Int32) × (Nat → Nat → Int32) × (Nat → Nat → Int64)), d_read_322 n F A J x1 = some w → k_run t lg (d + 7) 155 322 [(0, .ref 40960), (1, .int x1)] [] (m_h c B F A J) (some (.int w.1), m_h c B w.2.1 w.2.2.1 w.2.2.2) := fun _ _ _ _ _ h => ih h
    unfold d_read_322 at hD
    refine k_runB (pc' := 324) (loc' := [(0, .ref 40960), (1, .int x1)]) (st' := [.int 3, .int x1]) 2 rfl ?_
    refine k_ic rfl (fun c324_46 => ?_) (fun c324_46 => ?_)
    · rw [c324_46, cond_true] at hD
      refine k_runB (pc' := 341) (loc' := [(0, .ref 40960), (1, .int x1)]) (st' := [.int 0]) 1 rfl ?_
      cases hD
      exact k_iret rfl rfl
    · rw [c324_46, cond_false] at hD
      refine k_runB (pc' := 333) (loc' := [(0, .ref 40960), (1, .int x1)]) (st' := [.int 0, .int x1, .ref 41021]) 4 rfl ?_
      obtain ⟨A48, hA48, hD⟩ := Option.bind_eq_some_iff.mp hD
      refine k_stZ 61 rfl rfl (fun _ => rfl) hA48 ?_
      refine k_runB (pc' := 322) (loc' := [(0, .ref 40960), (1, .int (x1 + 1))]) (st' := []) 2 rfl ?_
      refine k_wk [0, 1] (loc' := [(0, .ref 40960), (1, .int (x1 + 1))]) rfl rfl ?_
      exact hK322 _ _ _ _ _ hD
def d_read_271 (n : Nat) (F : Nat → Int32) (A : Nat → Nat → Int32) (J : Nat → Nat → Int64) (s1 : Int32) : Option (Int32 × (Nat → Int32) × (Nat → Nat → Int32) × (Nat → Nat → Int64)) :=
    (m_pf F 17 s1).bind fun F37 =>
    cond (g_cnd .le (F37 13) 0)
    (cond (g_cnd .le (F37 15) 0)
    ((m_pf F37 18 (F37 19)).bind fun F40 =>
    (d_begins n F40 A J).bind fun (_, F42, A43, J44) =>
    (m_pf F42 74 0).bind fun F45 =>
    (m_pf F45 77 0).bind fun F46 =>
    d_read_322 n F46 A43 J44 0)
    (some (F37 15, F37, A, J)))
    (some (F37 13, F37, A, J))
theorem t_d_read_271 (ht : ∀ k, t.1 12 k = k_ty 12 k) {n : Nat}  {F : Nat → Int32} {A : Nat → Nat → Int32} {J : Nat → Nat → Int64} {s1 : Int32} {w : Int32 × (Nat → Int32) × (Nat → Nat → Int32) × (Nat → Nat → Int64)} : d_read_271 n F A J s1 = some w → k_run t lg (d + 7) 155 271 [(0, .ref 40960)] [.int s1, .ref 40960] (m_h c B F A J) (some (.int w.1), m_h c B w.2.1 w.2.2.1 w.2.2.2) := by
  intro hD
  unfold d_read_271 at hD
  obtain ⟨F37, hF37, hD⟩ := Option.bind_eq_some_iff.mp hD
  refine k_ptI rfl (ht 17) rfl rfl hF37 ?_
  refine k_runB (pc' := 278) (loc' := [(0, .ref 40960)]) (st' := [.int (F37 13)]) 2 rfl ?_
  refine k_if rfl (fun c278_37 => ?_) (fun c278_37 => ?_)
  · rw [c278_37, cond_true] at hD
    refine k_runB (pc' := 290) (loc' := [(0, .ref 40960)]) (st' := [.int (F37 15)]) 2 rfl ?_
    refine k_if rfl (fun c290_38 => ?_) (fun c290_38 => ?_)
    · rw [c290_38, cond_true] at hD
      refine k_runB (pc' := 303) (loc' := [(0, .ref 40960)]) (st' := [.int (F37 19), .ref 40960]) 3 rfl ?_
      obtain ⟨F40, hF40, hD⟩ := Option.bind_eq_some_iff.mp hD
      refine k_ptI rfl (ht 18) rfl rfl hF40 ?_
      refine k_runB (pc' := 307) (loc' := [(0, .ref 40960)]) (st' := [.ref 40960]) 1 rfl ?_
      obtain ⟨⟨v41, F42, A43, J44⟩, hv41, hD⟩ := Option.bind_eq_some_iff.mp hD
      dsimp only at hD
      refine k_runC rfl rfl rfl rfl (t_d_begins (d := d + 5) hv41) ?_
      refine k_runB (pc' := 312) (loc' := [(0, .ref 40960)]) (st' := [.int 0, .ref 40960]) 2 rfl ?_
      obtain ⟨F45, hF45, hD⟩ := Option.bind_eq_some_iff.mp hD
      refine k_ptI rfl (ht 74) rfl rfl hF45 ?_
      refine k_runB (pc' := 317) (loc' := [(0, .ref 40960)]) (st' := [.int 0, .ref 40960]) 2 rfl ?_
      obtain ⟨F46, hF46, hD⟩ := Option.bind_eq_some_iff.mp hD
      refine k_ptI rfl (ht 77) rfl rfl hF46 ?_
      refine k_runB (pc' := 322) (loc' := [(0, .ref 40960), (1, .int 0)]) (st' := []) 2 rfl ?_
      refine k_wk [0, 1] (loc' := [(0, .ref 40960), (1, .int 0)]) rfl rfl ?_
      exact t_d_read_322 ht  hD
    · rw [c290_38, cond_false] at hD
      refine k_runB (pc' := 297) (loc' := [(0, .ref 40960)]) (st' := [.int (F37 15)]) 2 rfl ?_
      cases hD
      exact k_iret rfl rfl
  · rw [c278_37, cond_false] at hD
    refine k_runB (pc' := 285) (loc' := [(0, .ref 40960)]) (st' := [.int (F37 13)]) 2 rfl ?_
    cases hD
    exact k_iret rfl rfl
def d_read_241 (n : Nat) (F : Nat → Int32) (A : Nat → Nat → Int32) (J : Nat → Nat → Int64) : Option (Int32 × (Nat → Int32) × (Nat → Nat → Int32) × (Nat → Nat → Int64)) :=
    cond (g_cnd .le (F 13) 0)
    (cond (g_cnd .le (F 15) 0)
    (d_read_271 n F A J ((-1)))
    (d_read_271 n F A J (F 16)))
    (d_read_271 n F A J (F 14))
theorem t_d_read_241 (ht : ∀ k, t.1 12 k = k_ty 12 k) {n : Nat}  {F : Nat → Int32} {A : Nat → Nat → Int32} {J : Nat → Nat → Int64}  {w : Int32 × (Nat → Int32) × (Nat → Nat → Int32) × (Nat → Nat → Int64)} : d_read_241 n F A J = some w → k_run t lg (d + 7) 155 241 [(0, .ref 40960)] [] (m_h c B F A J) (some (.int w.1), m_h c B w.2.1 w.2.2.1 w.2.2.2) := by
  intro hD
  unfold d_read_241 at hD
  refine k_runB (pc' := 246) (loc' := [(0, .ref 40960)]) (st' := [.int (F 13), .ref 40960]) 3 rfl ?_
  refine k_if rfl (fun c246_34 => ?_) (fun c246_34 => ?_)
  · rw [c246_34, cond_true] at hD
    refine k_runB (pc' := 260) (loc' := [(0, .ref 40960)]) (st' := [.int (F 15), .ref 40960]) 2 rfl ?_
    refine k_if rfl (fun c260_35 => ?_) (fun c260_35 => ?_)
    · rw [c260_35, cond_true] at hD
      refine k_runB (pc' := 271) (loc' := [(0, .ref 40960)]) (st' := [.int ((-1)), .ref 40960]) 1 rfl ?_
      refine k_wk [0] (loc' := [(0, .ref 40960)]) rfl rfl ?_
      exact t_d_read_271 ht  hD
    · rw [c260_35, cond_false] at hD
      refine k_runB (pc' := 271) (loc' := [(0, .ref 40960)]) (st' := [.int (F 16), .ref 40960]) 3 rfl ?_
      refine k_wk [0] (loc' := [(0, .ref 40960)]) rfl rfl ?_
      exact t_d_read_271 ht  hD
  · rw [c246_34, cond_false] at hD
    refine k_runB (pc' := 271) (loc' := [(0, .ref 40960)]) (st' := [.int (F 14), .ref 40960]) 3 rfl ?_
    refine k_wk [0] (loc' := [(0, .ref 40960)]) rfl rfl ?_
    exact t_d_read_271 ht  hD
def d_read_219 : Nat → (Nat → Int32) → (Nat → Nat → Int32) → (Nat → Nat → Int64) → Option (Int32 × (Nat → Int32) × (Nat → Nat → Int32) × (Nat → Nat → Int64))
  | 0, _, _, _ => none
  | n + 1, F, A, J => cond (g_cnd .ne (F 13) 0)
    (d_read_241 n F A J)
    ((d_is F A J 0).bind fun v29 =>
    cond (g_cnd .ne v29 0)
    (d_read_241 n F A J)
    ((d_tell0 n F A J).bind fun (_, F32, A33, J34) =>
    (d_read_219 n) F32 A33 J34))
theorem t_d_read_219 (ht : ∀ k, t.1 12 k = k_ty 12 k) {n : Nat}  {F : Nat → Int32} {A : Nat → Nat → Int32} {J : Nat → Nat → Int64}  {w : Int32 × (Nat → Int32) × (Nat → Nat → Int32) × (Nat → Nat → Int64)} : d_read_219 n F A J = some w → k_run t lg (d + 7) 155 219 [(0, .ref 40960)] [] (m_h c B F A J) (some (.int w.1), m_h c B w.2.1 w.2.2.1 w.2.2.2) := by
  induction n generalizing F A J  w with
  | zero => intro hD; cases hD
  | succ n ih =>
    intro hD
    have hK219 : ∀ (F : Nat → Int32) (A : Nat → Nat → Int32) (J : Nat → Nat → Int64) (w : Int32 × (Nat → Int32) × (Nat → Nat → Int32) × (Nat → Nat → Int64)), d_read_219 n F A J = some w → k_run t lg (d + 7) 155 219 [(0, .ref 40960)] [] (m_h c B F A J) (some (.int w.1), m_h c B w.2.1 w.2.2.1 w.2.2.2) := fun _ _ _  _ h => ih h
    unfold d_read_219 at hD
    refine k_runB (pc' := 223) (loc' := [(0, .ref 40960)]) (st' := [.int (F 13)]) 2 rfl ?_
    refine k_if rfl (fun c223_27 => ?_) (fun c223_27 => ?_)
    · rw [c223_27, cond_true] at hD
      refine k_wk [0] (loc' := [(0, .ref 40960)]) rfl rfl ?_
      exact t_d_read_241 ht  hD
    · rw [c223_27, cond_false] at hD
      refine k_runB (pc' := 228) (loc' := [(0, .ref 40960)]) (st' := [.int 0, .ref 40960]) 2 rfl ?_
      obtain ⟨v29, hv29, hD⟩ := Option.bind_eq_some_iff.mp hD
      refine k_runC rfl rfl rfl rfl (t_d_is (d := d + 6) hv29) ?_
      refine k_if rfl (fun c231_29 => ?_) (fun c231_29 => ?_)
      · rw [c231_29, cond_true] at hD
        refine k_wk [0] (loc' := [(0, .ref 40960)]) rfl rfl ?_
        exact t_d_read_241 ht  hD
      · rw [c231_29, cond_false] at hD
        refine k_runB (pc' := 235) (loc' := [(0, .ref 40960)]) (st' := [.ref 40960]) 1 rfl ?_
        obtain ⟨⟨v31, F32, A33, J34⟩, hv31, hD⟩ := Option.bind_eq_some_iff.mp hD
        dsimp only at hD
        refine k_runC rfl rfl rfl rfl (t_d_tell0 (d := d) ht hv31) ?_
        refine k_runB (pc' := 219) (loc' := [(0, .ref 40960)]) (st' := []) 1 rfl ?_
        refine k_wk [0] (loc' := [(0, .ref 40960)]) rfl rfl ?_
        exact hK219 _ _ _  _ hD
def d_read_177 : Nat → (Nat → Int32) → (Nat → Nat → Int32) → (Nat → Nat → Int64) → Int32 → Option (Int32 × (Nat → Int32) × (Nat → Nat → Int32) × (Nat → Nat → Int64))
  | 0, _, _, _, _ => none
  | n + 1, F, A, J, x1 => cond (g_cnd .ge x1 6)
    (d_read_219 n F A J)
    ((m_st A 34 12 ((6 * (F 19)) + x1) 0).bind fun A26 =>
    (m_st A26 35 12 ((6 * (F 19)) + x1) 0).bind fun A27 =>
    (d_read_177 n) F A27 J (x1 + 1))
theorem t_d_read_177 (ht : ∀ k, t.1 12 k = k_ty 12 k) {n : Nat}  {F : Nat → Int32} {A : Nat → Nat → Int32} {J : Nat → Nat → Int64} {x1 : Int32} {w : Int32 × (Nat → Int32) × (Nat → Nat → Int32) × (Nat → Nat → Int64)} : d_read_177 n F A J x1 = some w → k_run t lg (d + 7) 155 177 [(0, .ref 40960), (1, .int x1)] [] (m_h c B F A J) (some (.int w.1), m_h c B w.2.1 w.2.2.1 w.2.2.2) := by
  induction n generalizing F A J x1 w with
  | zero => intro hD; cases hD
  | succ n ih =>
    intro hD
    have hK177 : ∀ (F : Nat → Int32) (A : Nat → Nat → Int32) (J : Nat → Nat → Int64) (x1 : Int32) (w : Int32 × (Nat → Int32) × (Nat → Nat → Int32) × (Nat → Nat → Int64)), d_read_177 n F A J x1 = some w → k_run t lg (d + 7) 155 177 [(0, .ref 40960), (1, .int x1)] [] (m_h c B F A J) (some (.int w.1), m_h c B w.2.1 w.2.2.1 w.2.2.2) := fun _ _ _ _ _ h => ih h
    unfold d_read_177 at hD
    refine k_runB (pc' := 180) (loc' := [(0, .ref 40960), (1, .int x1)]) (st' := [.int 6, .int x1]) 2 rfl ?_
    refine k_ic rfl (fun c180_24 => ?_) (fun c180_24 => ?_)
    · rw [c180_24, cond_true] at hD
      refine k_wk [0] (loc' := [(0, .ref 40960)]) rfl rfl ?_
      exact t_d_read_219 ht  hD
    · rw [c180_24, cond_false] at hD
      refine k_runB (pc' := 197) (loc' := [(0, .ref 40960), (1, .int x1)]) (st' := [.int 0, .int ((6 * (F 19)) + x1), .ref 40994]) 9 rfl ?_
      obtain ⟨A26, hA26, hD⟩ := Option.bind_eq_some_iff.mp hD
      refine k_stI 34 rfl rfl (fun _ => rfl) hA26 ?_
      refine k_runB (pc' := 212) (loc' := [(0, .ref 40960), (1, .int x1)]) (st' := [.int 0, .int ((6 * (F 19)) + x1), .ref 40995]) 9 rfl ?_
      obtain ⟨A27, hA27, hD⟩ := Option.bind_eq_some_iff.mp hD
      refine k_stI 35 rfl rfl (fun _ => rfl) hA27 ?_
      refine k_runB (pc' := 177) (loc' := [(0, .ref 40960), (1, .int (x1 + 1))]) (st' := []) 2 rfl ?_
      refine k_wk [0, 1] (loc' := [(0, .ref 40960), (1, .int (x1 + 1))]) rfl rfl ?_
      exact hK177 _ _ _ _ _ hD
def d_read_10 : Nat → (Nat → Int32) → (Nat → Nat → Int32) → (Nat → Nat → Int64) → Int32 → Option (Int32 × (Nat → Int32) × (Nat → Nat → Int32) × (Nat → Nat → Int64))
  | 0, _, _, _, _ => none
  | n + 1, F, A, J, x1 => cond (g_cnd .ge x1 (F 4))
    ((m_pf F 2 0).bind fun F3 =>
    (d_cut n F3 A J).bind fun (_, F5, A6, J7) =>
    (m_pf F5 11 0).bind fun F8 =>
    (m_pf F8 12 0).bind fun F9 =>
    (m_pf F9 13 0).bind fun F10 =>
    (m_pf F10 15 0).bind fun F11 =>
    (m_pf F11 19 (1 - (F11 18))).bind fun F12 =>
    (m_pf F12 20 0).bind fun F13 =>
    (m_st A6 11 2 (F13 19) 0).bind fun A14 =>
    (m_st A14 12 2 (F13 19) 0).bind fun A15 =>
    (m_st A15 17 2 (F13 19) 0).bind fun A16 =>
    (m_st A16 19 2 (F13 19) 0).bind fun A17 =>
    (m_st A17 29 2 (F13 19) 0).bind fun A18 =>
    (m_st A18 33 2 (F13 19) 0).bind fun A19 =>
    (m_st A19 41 2 (F13 19) 480).bind fun A20 =>
    (m_pf F13 49 (50 * (F13 19))).bind fun F21 =>
    (m_pf F21 56 (420 * (F21 19))).bind fun F22 =>
    d_read_177 n F22 A20 J7 0)
    ((m_ld (A 1) 2000 x1).bind fun v23 =>
    (m_st A 2 2000 x1 (vp_nar .byte v23)).bind fun A24 =>
    (d_read_10 n) F A24 J (x1 + 1))
theorem t_d_read_10 (ht : ∀ k, t.1 12 k = k_ty 12 k) {n : Nat}  {F : Nat → Int32} {A : Nat → Nat → Int32} {J : Nat → Nat → Int64} {x1 : Int32} {w : Int32 × (Nat → Int32) × (Nat → Nat → Int32) × (Nat → Nat → Int64)} : d_read_10 n F A J x1 = some w → k_run t lg (d + 7) 155 10 [(0, .ref 40960), (1, .int x1)] [] (m_h c B F A J) (some (.int w.1), m_h c B w.2.1 w.2.2.1 w.2.2.2) := by
  induction n generalizing F A J x1 w with
  | zero => intro hD; cases hD
  | succ n ih =>
    intro hD
    have hK10 : ∀ (F : Nat → Int32) (A : Nat → Nat → Int32) (J : Nat → Nat → Int64) (x1 : Int32) (w : Int32 × (Nat → Int32) × (Nat → Nat → Int32) × (Nat → Nat → Int64)), d_read_10 n F A J x1 = some w → k_run t lg (d + 7) 155 10 [(0, .ref 40960), (1, .int x1)] [] (m_h c B F A J) (some (.int w.1), m_h c B w.2.1 w.2.2.1 w.2.2.2) := fun _ _ _ _ _ h => ih h
    unfold d_read_10 at hD
    refine k_runB (pc' := 15) (loc' := [(0, .ref 40960), (1, .int x1)]) (st' := [.int (F 4), .int x1]) 3 rfl ?_
    refine k_ic rfl (fun c15_1 => ?_) (fun c15_1 => ?_)
    · rw [c15_1, cond_true] at hD
      refine k_runB (pc' := 38) (loc' := [(0, .ref 40960), (1, .int x1)]) (st' := [.int 0, .ref 40960]) 2 rfl ?_
      obtain ⟨F3, hF3, hD⟩ := Option.bind_eq_some_iff.mp hD
      refine k_ptI rfl (ht 2) rfl rfl hF3 ?_
      refine k_runB (pc' := 42) (loc' := [(0, .ref 40960), (1, .int x1)]) (st' := [.ref 40960]) 1 rfl ?_
      obtain ⟨⟨v4, F5, A6, J7⟩, hv4, hD⟩ := Option.bind_eq_some_iff.mp hD
      dsimp only at hD
      refine k_runC rfl rfl rfl rfl (t_d_cut (d := d + 4) ht hv4) ?_
      refine k_runB (pc' := 47) (loc' := [(0, .ref 40960), (1, .int x1)]) (st' := [.int 0, .ref 40960]) 2 rfl ?_
      obtain ⟨F8, hF8, hD⟩ := Option.bind_eq_some_iff.mp hD
      refine k_ptI rfl (ht 11) rfl rfl hF8 ?_
      refine k_runB (pc' := 52) (loc' := [(0, .ref 40960), (1, .int x1)]) (st' := [.int 0, .ref 40960]) 2 rfl ?_
      obtain ⟨F9, hF9, hD⟩ := Option.bind_eq_some_iff.mp hD
      refine k_ptI rfl (ht 12) rfl rfl hF9 ?_
      refine k_runB (pc' := 57) (loc' := [(0, .ref 40960), (1, .int x1)]) (st' := [.int 0, .ref 40960]) 2 rfl ?_
      obtain ⟨F10, hF10, hD⟩ := Option.bind_eq_some_iff.mp hD
      refine k_ptI rfl (ht 13) rfl rfl hF10 ?_
      refine k_runB (pc' := 62) (loc' := [(0, .ref 40960), (1, .int x1)]) (st' := [.int 0, .ref 40960]) 2 rfl ?_
      obtain ⟨F11, hF11, hD⟩ := Option.bind_eq_some_iff.mp hD
      refine k_ptI rfl (ht 15) rfl rfl hF11 ?_
      refine k_runB (pc' := 72) (loc' := [(0, .ref 40960), (1, .int x1)]) (st' := [.int (1 - (F11 18)), .ref 40960]) 5 rfl ?_
      obtain ⟨F12, hF12, hD⟩ := Option.bind_eq_some_iff.mp hD
      refine k_ptI rfl (ht 19) rfl rfl hF12 ?_
      refine k_runB (pc' := 77) (loc' := [(0, .ref 40960), (1, .int x1)]) (st' := [.int 0, .ref 40960]) 2 rfl ?_
      obtain ⟨F13, hF13, hD⟩ := Option.bind_eq_some_iff.mp hD
      refine k_ptI rfl (ht 20) rfl rfl hF13 ?_
      refine k_runB (pc' := 89) (loc' := [(0, .ref 40960), (1, .int x1)]) (st' := [.int 0, .int (F13 19), .ref 40971]) 5 rfl ?_
      obtain ⟨A14, hA14, hD⟩ := Option.bind_eq_some_iff.mp hD
      refine k_stI 11 rfl rfl (fun _ => rfl) hA14 ?_
      refine k_runB (pc' := 99) (loc' := [(0, .ref 40960), (1, .int x1)]) (st' := [.int 0, .int (F13 19), .ref 40972]) 5 rfl ?_
      obtain ⟨A15, hA15, hD⟩ := Option.bind_eq_some_iff.mp hD
      refine k_stI 12 rfl rfl (fun _ => rfl) hA15 ?_
      refine k_runB (pc' := 109) (loc' := [(0, .ref 40960), (1, .int x1)]) (st' := [.int 0, .int (F13 19), .ref 40977]) 5 rfl ?_
      obtain ⟨A16, hA16, hD⟩ := Option.bind_eq_some_iff.mp hD
      refine k_stI 17 rfl rfl (fun _ => rfl) hA16 ?_
      refine k_runB (pc' := 119) (loc' := [(0, .ref 40960), (1, .int x1)]) (st' := [.int 0, .int (F13 19), .ref 40979]) 5 rfl ?_
      obtain ⟨A17, hA17, hD⟩ := Option.bind_eq_some_iff.mp hD
      refine k_stI 19 rfl rfl (fun _ => rfl) hA17 ?_
      refine k_runB (pc' := 129) (loc' := [(0, .ref 40960), (1, .int x1)]) (st' := [.int 0, .int (F13 19), .ref 40989]) 5 rfl ?_
      obtain ⟨A18, hA18, hD⟩ := Option.bind_eq_some_iff.mp hD
      refine k_stI 29 rfl rfl (fun _ => rfl) hA18 ?_
      refine k_runB (pc' := 139) (loc' := [(0, .ref 40960), (1, .int x1)]) (st' := [.int 0, .int (F13 19), .ref 40993]) 5 rfl ?_
      obtain ⟨A19, hA19, hD⟩ := Option.bind_eq_some_iff.mp hD
      refine k_stI 33 rfl rfl (fun _ => rfl) hA19 ?_
      refine k_runB (pc' := 151) (loc' := [(0, .ref 40960), (1, .int x1)]) (st' := [.int 480, .int (F13 19), .ref 41001]) 5 rfl ?_
      obtain ⟨A20, hA20, hD⟩ := Option.bind_eq_some_iff.mp hD
      refine k_stI 41 rfl rfl (fun _ => rfl) hA20 ?_
      refine k_runB (pc' := 160) (loc' := [(0, .ref 40960), (1, .int x1)]) (st' := [.int (50 * (F13 19)), .ref 40960]) 5 rfl ?_
      obtain ⟨F21, hF21, hD⟩ := Option.bind_eq_some_iff.mp hD
      refine k_ptI rfl (ht 49) rfl rfl hF21 ?_
      refine k_runB (pc' := 172) (loc' := [(0, .ref 40960), (1, .int x1)]) (st' := [.int (420 * (F21 19)), .ref 40960]) 5 rfl ?_
      obtain ⟨F22, hF22, hD⟩ := Option.bind_eq_some_iff.mp hD
      refine k_ptI rfl (ht 56) rfl rfl hF22 ?_
      refine k_runB (pc' := 177) (loc' := [(0, .ref 40960), (1, .int 0)]) (st' := []) 2 rfl ?_
      refine k_wk [0, 1] (loc' := [(0, .ref 40960), (1, .int 0)]) rfl rfl ?_
      exact t_d_read_177 ht  hD
    · rw [c15_1, cond_false] at hD
      refine k_runB (pc' := 28) (loc' := [(0, .ref 40960), (1, .int x1)]) (st' := [.int x1, .ref 40961, .int x1, .ref 40962]) 6 rfl ?_
      obtain ⟨v23, hv23, hD⟩ := Option.bind_eq_some_iff.mp hD
      refine k_ldB rfl rfl hv23 ?_
      obtain ⟨A24, hA24, hD⟩ := Option.bind_eq_some_iff.mp hD
      refine k_stB 2 rfl rfl (fun _ => rfl) hA24 ?_
      refine k_runB (pc' := 10) (loc' := [(0, .ref 40960), (1, .int (x1 + 1))]) (st' := []) 2 rfl ?_
      refine k_wk [0, 1] (loc' := [(0, .ref 40960), (1, .int (x1 + 1))]) rfl rfl ?_
      exact hK10 _ _ _ _ _ hD
/-- SleepWorkModel.read()I -/
def d_read (n : Nat) (F : Nat → Int32) (A : Nat → Nat → Int32) (J : Nat → Nat → Int64) : Option (Int32 × (Nat → Int32) × (Nat → Nat → Int32) × (Nat → Nat → Int64)) :=
  (m_pf F 4 (F 2)).bind fun F1 =>
  d_read_10 n F1 A J 0
theorem t_d_read (ht : ∀ k, t.1 12 k = k_ty 12 k) {n : Nat} {r : Int32} {F' : Nat → Int32} {A' : Nat → Nat → Int32} {J' : Nat → Nat → Int64} : d_read n F A J = some (r, F', A', J') → k_run t lg (d + 7) 155 0 [(0, .ref 40960)] [] (m_h c B F A J) (some (.int r), m_h c B F' A' J') := by
  intro hD
  unfold d_read at hD
  refine k_runB (pc' := 5) (loc' := [(0, .ref 40960)]) (st' := [.int (F 2), .ref 40960]) 3 rfl ?_
  obtain ⟨F1, hF1, hD⟩ := Option.bind_eq_some_iff.mp hD
  refine k_ptI rfl (ht 4) rfl rfl hF1 ?_
  refine k_runB (pc' := 10) (loc' := [(0, .ref 40960), (1, .int 0)]) (st' := []) 2 rfl ?_
  refine k_wk [0, 1] (loc' := [(0, .ref 40960), (1, .int 0)]) rfl rfl ?_
  exact t_d_read_10 ht  hD
end MD
end Qz10
section Qz11
/-! the reference's methods as functions (printed by wip/dec.py) -/
section MD
variable {t : gT} {lg : Nat → Nat} {d : Nat} {c : Nat × Nat} {B : Nat → List gE} {F : Nat → Int32} {A : Nat → Nat → Int32} {J : Nat → Nat → Int64}
end MD
end Qz11
section Qz12
/-! the class's cells (printed by wip/cls.py). Kinds:
0: SleepWork, regions [0]
1: SleepWork$Tape, byte[2000], regions [1]
2: SleepWork$State, int[36], int[6], int[6], int[6], int[6], int[6], int[6], regions [2, 3, 5, 6, 7, 8, 9, 10, 11, 12, 13, 14, 15, 16, 17, 18, 19, 20, 21, 22, 23, 24, 29, 30, 31, 33]
3: SleepWork$Past, State[20], regions [4]
4: SleepWork$Told, int[30], int[30], regions [25]
5: State[3], regions [26]
6: SleepWork$House, int[12], int[12], int[12], int[6], int[6], int[36], int[36], int[36], int[36], int[36], int[36], int[6], SleepWork$Laws, int[6], int[400], int[400], int[32], regions [27, 28]
7: SleepWork$Evening, regions [32]
8: long[0], regions [34]
9: int[37], regions [35]
10: SleepWork$Sleep, SleepWork$Ways, int[64], int[6], int[6], int[6], int[6], int[6], int[6], int[6], regions [36]
11: SleepWork$Reader, SleepWork$Scanner, int[401], int[401], int[401], long[401], long[21], long[8], long[6], long[6], long[6], regions [37]
-/
def c_kds : List Nat := [0, 1, 2, 2, 3, 2, 2, 2, 2, 2, 2, 2, 2, 2, 2, 2, 2, 2, 2, 2, 2, 2, 2, 2, 2, 4, 5, 6, 6, 2, 2, 2, 7, 2, 8, 9, 10, 11]
def c_kind (r : Nat) : Nat := c_kds.getD r 99
def c_lay0 (r : Nat) (p : Nat → Nat) (f : Nat → Int32) (a : Nat → Nat → Int32) (j : Nat → Nat → Int64) : List gE := [.inr (11, [.ref 1024, .ref 2048, .ref 3072, .ref 4096, .ref 25600, .ref 26624, .ref 32768, .ref 37888, .ref (p 8 * 1024), .ref (p 9 * 1024), .int (f 10), .int (f 11)])]
def c_lay1 (r : Nat) (p : Nat → Nat) (f : Nat → Int32) (a : Nat → Nat → Int32) (j : Nat → Nat → Int64) : List gE := [.inr (8, [.ref (r * 1024 + 1), .int (f 1)]), .inl (1, 2000, .inl (a 1))]
def c_lay2 (r : Nat) (p : Nat → Nat) (f : Nat → Int32) (a : Nat → Nat → Int32) (j : Nat → Nat → Int64) : List gE := [.inr (7, [.ref (r * 1024 + 1), .ref (r * 1024 + 2), .ref (r * 1024 + 3), .ref (r * 1024 + 4), .ref (r * 1024 + 5), .ref (r * 1024 + 6), .ref (r * 1024 + 7), .int (f 7), .int (f 8)]), .inl (0, 36, .inl (a 1)), .inl (0, 6, .inl (a 2)), .inl (0, 6, .inl (a 3)), .inl (0, 6, .inl (a 4)), .inl (0, 6, .inl (a 5)), .inl (0, 6, .inl (a 6)), .inl (0, 6, .inl (a 7))]
def c_lay3 (r : Nat) (p : Nat → Nat) (f : Nat → Int32) (a : Nat → Nat → Int32) (j : Nat → Nat → Int64) : List gE := [.inr (3, [.ref (r * 1024 + 1), .int (f 1), .int (f 2)]), .inl (4, 20, .inr (.inr (.inr (.inr fun i => if i < 20 then some ((5 + i) * 1024) else none))))]
def c_lay4 (r : Nat) (p : Nat → Nat) (f : Nat → Int32) (a : Nat → Nat → Int32) (j : Nat → Nat → Int64) : List gE := [.inr (9, [.ref (r * 1024 + 1), .ref (r * 1024 + 2), .int (f 2)]), .inl (0, 30, .inl (a 1)), .inl (0, 30, .inl (a 2))]
def c_lay5 (r : Nat) (p : Nat → Nat) (f : Nat → Int32) (a : Nat → Nat → Int32) (j : Nat → Nat → Int64) : List gE := [.inl (4, 3, .inr (.inr (.inr (.inr fun i => if i < 3 then some ((29 + i) * 1024) else none))))]
def c_lay6 (r : Nat) (p : Nat → Nat) (f : Nat → Int32) (a : Nat → Nat → Int32) (j : Nat → Nat → Int64) : List gE := [.inr (1, [.ref (r * 1024 + 1), .ref (r * 1024 + 2), .ref (r * 1024 + 3), .ref (r * 1024 + 4), .ref (r * 1024 + 5), .ref (r * 1024 + 6), .ref (r * 1024 + 7), .ref (r * 1024 + 8), .ref (r * 1024 + 9), .ref (r * 1024 + 10), .ref (r * 1024 + 11), .ref (r * 1024 + 12), .ref (r * 1024 + 13), .int (f 13), .int (f 14), .int (f 15), .int (f 16), .int (f 17), .int (f 18)]), .inl (0, 12, .inl (a 1)), .inl (0, 12, .inl (a 2)), .inl (0, 12, .inl (a 3)), .inl (0, 6, .inl (a 4)), .inl (0, 6, .inl (a 5)), .inl (0, 36, .inl (a 6)), .inl (0, 36, .inl (a 7)), .inl (0, 36, .inl (a 8)), .inl (0, 36, .inl (a 9)), .inl (0, 36, .inl (a 10)), .inl (0, 36, .inl (a 11)), .inl (0, 6, .inl (a 12)), .inr (2, [.ref (r * 1024 + 14), .ref (r * 1024 + 15), .ref (r * 1024 + 16), .ref (r * 1024 + 17), .int (f 1304)]), .inl (0, 6, .inl (a 14)), .inl (0, 400, .inl (a 15)), .inl (0, 400, .inl (a 16)), .inl (0, 32, .inl (a 17))]
def c_lay7 (r : Nat) (p : Nat → Nat) (f : Nat → Int32) (a : Nat → Nat → Int32) (j : Nat → Nat → Int64) : List gE := [.inr (0, [.ref 36864, .ref 2048, .ref 33792, .ref 25600, .ref (p 4 * 1024), .int (f 5), .int (f 6), .int (f 7), .int (f 8), .ref (p 9), .int (f 10), .int (f 11), .int (f 12), .int (f 13), .ref 35840, .int (f 15)])]
def c_lay8 (r : Nat) (p : Nat → Nat) (f : Nat → Int32) (a : Nat → Nat → Int32) (j : Nat → Nat → Int64) : List gE := [.inl (3, 0, .inr (.inl (j 0)))]
def c_lay9 (r : Nat) (p : Nat → Nat) (f : Nat → Int32) (a : Nat → Nat → Int32) (j : Nat → Nat → Int64) : List gE := [.inl (0, 37, .inl (a 0))]
def c_lay10 (r : Nat) (p : Nat → Nat) (f : Nat → Int32) (a : Nat → Nat → Int32) (j : Nat → Nat → Int64) : List gE := [.inr (6, [.ref (r * 1024 + 1), .ref (r * 1024 + 3), .ref (r * 1024 + 4), .ref (r * 1024 + 5), .ref (r * 1024 + 6), .ref (r * 1024 + 7), .ref (r * 1024 + 8), .ref (r * 1024 + 9), .ref (p 8 * 1024), .ref (p 9 * 1024)]), .inr (10, [.ref (r * 1024 + 2), .int (f 101)]), .inl (0, 64, .inl (a 2)), .inl (0, 6, .inl (a 3)), .inl (0, 6, .inl (a 4)), .inl (0, 6, .inl (a 5)), .inl (0, 6, .inl (a 6)), .inl (0, 6, .inl (a 7)), .inl (0, 6, .inl (a 8)), .inl (0, 6, .inl (a 9))]
def c_lay11 (r : Nat) (p : Nat → Nat) (f : Nat → Int32) (a : Nat → Nat → Int32) (j : Nat → Nat → Int64) : List gE := [.inr (4, [.ref (r * 1024 + 1), .ref (r * 1024 + 7), .ref (r * 1024 + 8), .ref (r * 1024 + 9), .ref (r * 1024 + 10), .ref (p 5 * 1024), .ref (p 6 * 1024), .int (f 7), .int (f 8), .int (f 9), .int (f 10), .int (f 11), .int (f 12), .int (f 13)]), .inr (5, [.ref (r * 1024 + 2), .ref (r * 1024 + 3), .ref (r * 1024 + 4), .ref (r * 1024 + 5), .ref (r * 1024 + 6), .int (f 105)]), .inl (0, 401, .inl (a 2)), .inl (0, 401, .inl (a 3)), .inl (0, 401, .inl (a 4)), .inl (3, 401, .inr (.inl (j 5))), .inl (3, 21, .inr (.inl (j 6))), .inl (3, 8, .inr (.inl (j 7))), .inl (3, 6, .inr (.inl (j 8))), .inl (3, 6, .inr (.inl (j 9))), .inl (3, 6, .inr (.inl (j 10)))]
def c_lay (K r : Nat) (p : Nat → Nat) (f : Nat → Int32) (a : Nat → Nat → Int32) (j : Nat → Nat → Int64) (b : List gE) : List gE := match K with
  | 0 => c_lay0 r p f a j
  | 1 => c_lay1 r p f a j
  | 2 => c_lay2 r p f a j
  | 3 => c_lay3 r p f a j
  | 4 => c_lay4 r p f a j
  | 5 => c_lay5 r p f a j
  | 6 => c_lay6 r p f a j
  | 7 => c_lay7 r p f a j
  | 8 => c_lay8 r p f a j
  | 9 => c_lay9 r p f a j
  | 10 => c_lay10 r p f a j
  | 11 => c_lay11 r p f a j
  | _ => b
/-- a heap that holds the class's cells: refs P, ints F, rows A and J of each region; elsewhere B -/
def c_f (B : Nat → List gE) (P : Nat → Nat → Nat) (F : Nat → Nat → Int32) (A : Nat → Nat → Nat → Int32) (J : Nat → Nat → Nat → Int64) (r : Nat) : List gE := c_lay (c_kind r) r (P r) (F r) (A r) (J r) (B r)
abbrev c_h (c : Nat × Nat) (B : Nat → List gE) (P : Nat → Nat → Nat) (F : Nat → Nat → Int32) (A : Nat → Nat → Nat → Int32) (J : Nat → Nat → Nat → Int64) : gH := (c, c_f B P F A J)
theorem c_get {c : Nat × Nat} {B : Nat → List gE} {P : Nat → Nat → Nat} {F : Nat → Nat → Int32} {A : Nat → Nat → Nat → Int32} {J : Nat → Nat → Nat → Int64} {r o K : Nat} (hk : c_kind r = K) (ho : o < 1024) : g_get (c_h c B P F A J) (r * 1024 + o) = (c_lay K r (P r) (F r) (A r) (J r) (B r))[o]? := by
  unfold g_get
  have h1 : (r * 1024 + o) / 1024 = r := by omega
  have h2 : (r * 1024 + o) % 1024 = o := by omega
  rw [h1, h2]
  show (c_lay (c_kind r) r (P r) (F r) (A r) (J r) (B r))[o]? = _
  rw [hk]
theorem c_set {c : Nat × Nat} {B : Nat → List gE} {P P' : Nat → Nat → Nat} {F F' : Nat → Nat → Int32} {A A' : Nat → Nat → Nat → Int32} {J J' : Nat → Nat → Nat → Int64} {r o K : Nat} {e : gE} (hk : c_kind r = K) (ho : o < 1024) (hs : (c_lay K r (P r) (F r) (A r) (J r) (B r)).set o e = c_lay K r (P' r) (F' r) (A' r) (J' r) (B r)) (hn : ∀ q, q ≠ r → P' q = P q ∧ F' q = F q ∧ A' q = A q ∧ J' q = J q) : g_set (c_h c B P F A J) (r * 1024 + o) e = c_h c B P' F' A' J' := by
  unfold g_set
  have h1 : (r * 1024 + o) / 1024 = r := by omega
  have h2 : (r * 1024 + o) % 1024 = o := by omega
  rw [h1, h2]
  refine Prod.ext rfl ?_
  funext q
  show va_up (c_f B P F A J) r ((c_f B P F A J r).set o e) q = c_f B P' F' A' J' q
  unfold va_up
  by_cases hq : q = r
  · rw [if_pos hq, hq]
    show (c_lay (c_kind r) r (P r) (F r) (A r) (J r) (B r)).set o e = c_lay (c_kind r) r (P' r) (F' r) (A' r) (J' r) (B r)
    rw [hk, hs]
  · rw [if_neg hq]
    obtain ⟨e1, e2, e3, e4⟩ := hn q hq
    show c_lay (c_kind q) q (P q) (F q) (A q) (J q) (B q) = c_lay (c_kind q) q (P' q) (F' q) (A' q) (J' q) (B q)
    rw [e1, e2, e3, e4]
/-- the cells in the order in which they are made -/
def c_lgL : List Nat := [0, 1024, 1025, 2048, 2049, 2050, 2051, 2052, 2053, 2054, 2055, 3072, 3073, 3074, 3075, 3076, 3077, 3078, 3079, 4096, 4097, 5120, 5121, 5122, 5123, 5124, 5125, 5126, 5127, 6144, 6145, 6146, 6147, 6148, 6149, 6150, 6151, 7168, 7169, 7170, 7171, 7172, 7173, 7174, 7175, 8192, 8193, 8194, 8195, 8196, 8197, 8198, 8199, 9216, 9217, 9218, 9219, 9220, 9221, 9222, 9223, 10240, 10241, 10242, 10243, 10244, 10245, 10246, 10247, 11264, 11265, 11266, 11267, 11268, 11269, 11270, 11271, 12288, 12289, 12290, 12291, 12292, 12293, 12294, 12295, 13312, 13313, 13314, 13315, 13316, 13317, 13318, 13319, 14336, 14337, 14338, 14339, 14340, 14341, 14342, 14343, 15360, 15361, 15362, 15363, 15364, 15365, 15366, 15367, 16384, 16385, 16386, 16387, 16388, 16389, 16390, 16391, 17408, 17409, 17410, 17411, 17412, 17413, 17414, 17415, 18432, 18433, 18434, 18435, 18436, 18437, 18438, 18439, 19456, 19457, 19458, 19459, 19460, 19461, 19462, 19463, 20480, 20481, 20482, 20483, 20484, 20485, 20486, 20487, 21504, 21505, 21506, 21507, 21508, 21509, 21510, 21511, 22528, 22529, 22530, 22531, 22532, 22533, 22534, 22535, 23552, 23553, 23554, 23555, 23556, 23557, 23558, 23559, 24576, 24577, 24578, 24579, 24580, 24581, 24582, 24583, 25600, 25601, 25602, 26624, 27648, 27649, 27650, 27651, 27652, 27653, 27654, 27655, 27656, 27657, 27658, 27659, 27660, 27661, 27662, 27663, 27664, 27665, 28672, 28673, 28674, 28675, 28676, 28677, 28678, 28679, 28680, 28681, 28682, 28683, 28684, 28685, 28686, 28687, 28688, 28689, 29696, 29697, 29698, 29699, 29700, 29701, 29702, 29703, 30720, 30721, 30722, 30723, 30724, 30725, 30726, 30727, 31744, 31745, 31746, 31747, 31748, 31749, 31750, 31751, 32768, 33792, 33793, 33794, 33795, 33796, 33797, 33798, 33799, 34816, 35840, 36864, 36865, 36866, 36867, 36868, 36869, 36870, 36871, 36872, 36873, 37888, 37889, 37890, 37891, 37892, 37893, 37894, 37895, 37896, 37897, 37898]
def c_lg (i : Nat) : Nat := if i < 277 then c_lgL.getD i 0 else if i < 340 then 40960 + (i - 277) else if i < 1364 then 39936 + (i - 340) else 100000 + i
def c_bs : List Nat := [0, 1, 3, 11, 19, 21, 29, 37, 45, 53, 61, 69, 77, 85, 93, 101, 109, 117, 125, 133, 141, 149, 157, 165, 173, 181, 184, 185, 203, 221, 229, 237, 245, 246, 254, 255, 256, 266]
def c_fl (k : Nat) : Nat := if 100000 ≤ k then k - 100000 else if 40960 ≤ k then 277 + (k - 40960) else if 39936 ≤ k then 340 + (k - 39936) else c_bs.getD (k / 1024) 0 + k % 1024
theorem c_fl_0 : ∀ i, i < 277 → c_fl (c_lgL.getD i 0) = i := by decide +kernel
theorem c_fllg (i : Nat) : c_fl (c_lg i) = i := by
  unfold c_lg
  split
  next h => exact c_fl_0 i h
  next h =>
    split
    next h2 => unfold c_fl; rw [if_neg (by omega), if_pos (by omega)]; omega
    next h2 =>
      split
      next h3 => unfold c_fl; rw [if_neg (by omega), if_neg (by omega), if_pos (by omega)]; omega
      next h3 => unfold c_fl; rw [if_pos (by omega)]; omega
end Qz12
section Qz13
/-! rows of running over the class's heap -/
def c_chk (K q : Nat) : Option Nat := if c_kind q = K then some q else none
theorem c_chk_ok {K q v : Nat} (h : c_chk K q = some v) : c_kind v = K ∧ q = v := by
  unfold c_chk at h
  split at h
  next hc => cases h; exact ⟨hc, rfl⟩
  · cases h
def c_st (A : Nat → Nat → Nat → Int32) (r o n : Nat) (i x : Int32) : Option (Nat → Nat → Nat → Int32) := if i < 0 ∨ n ≤ i.toNatClampNeg then none else some (va_up A r (va_up (A r) o (upd (A r o) i.toNatClampNeg x)))
def c_stJ (J : Nat → Nat → Nat → Int64) (r o n : Nat) (i : Int32) (x : Int64) : Option (Nat → Nat → Nat → Int64) := if i < 0 ∨ n ≤ i.toNatClampNeg then none else some (va_up J r (va_up (J r) o (vp_updL (J r o) i.toNatClampNeg x)))
def c_pf (F : Nat → Nat → Int32) (r k : Nat) (x : Int32) : Option (Nat → Nat → Int32) := some (va_up F r (upd (F r) k x))
def c_pp (P : Nat → Nat → Nat) (r k q : Nat) : Option (Nat → Nat → Nat) := some (va_up P r (va_up (P r) k q))
def c_cp (A : Nat → Nat → Nat → Int32) (r o q k n : Nat) : Option (Nat → Nat → Nat → Int32) := some (va_up A q (va_up (A q) k (va_cpy (A r o) (A q k) 0 0 n)))
theorem c_st_ok {A A' : Nat → Nat → Nat → Int32} {r o n : Nat} {i x : Int32} (h : c_st A r o n i x = some A') : ¬ (i < 0 ∨ n ≤ i.toNatClampNeg) ∧ va_up A r (va_up (A r) o (upd (A r o) i.toNatClampNeg x)) = A' := by
  unfold c_st at h
  split at h
  · cases h
  next hc => exact ⟨hc, Option.some.inj h⟩
theorem c_stJ_ok {J J' : Nat → Nat → Nat → Int64} {r o n : Nat} {i : Int32} {x : Int64} (h : c_stJ J r o n i x = some J') : ¬ (i < 0 ∨ n ≤ i.toNatClampNeg) ∧ va_up J r (va_up (J r) o (vp_updL (J r o) i.toNatClampNeg x)) = J' := by
  unfold c_stJ at h
  split at h
  · cases h
  next hc => exact ⟨hc, Option.some.inj h⟩
theorem c_up_same {α : Type} (f : Nat → α) (k : Nat) (v : α) : va_up f k v k = v := if_pos rfl
theorem c_up_ne {α : Type} {f : Nat → α} {k j : Nat} {v : α} (h : j ≠ k) : va_up f k v j = f j := if_neg h
section KC
variable {t : gT} {lg : Nat → Nat} {d M pc : Nat} {loc : List (Nat × Value)} {st : List Value} {z : Option Value × gH} {R : List Nat}
variable {c : Nat × Nat} {B : Nat → List gE} {P P' : Nat → Nat → Nat} {F F' : Nat → Nat → Int32} {A A' : Nat → Nat → Nat → Int32} {J J' : Nat → Nat → Nat → Int64}
/-- a field -/
theorem k_gf (r o : Nat) {K a ix ci k : Nat} {v : Value} {fs : List Value} (hk : c_kind r = K) (hI : (k_mt M).2 pc = some (.getfield ix, [ci, k])) (ha : r * 1024 + o = a) (hg : (c_lay K r (P r) (F r) (A r) (J r) (B r))[o]? = some (.inr (ci, fs))) (hv : fs[k]? = some v) (hr : k_run t lg d M (pc + 3) loc (v :: st) (c_h c B P F A J) z) (ho : o < 1024 := by decide) : k_run t lg d M pc loc (.ref a :: st) (c_h c B P F A J) z := by
  subst ha
  refine k_memS hI rfl rfl rfl ?_ hr
  unfold g_mem
  simp only [c_get (c := c) (B := B) (P := P) (F := F) (A := A) (J := J) hk ho, hg]
  rw [if_pos trivial, hv]
  rfl
/-- a field that holds an object of a kind -/
theorem k_gq (r o : Nat) {K K2 a ix ci k key q : Nat} {fs : List Value} (hk : c_kind r = K) (hI : (k_mt M).2 pc = some (.getfield ix, [ci, k])) (ha : r * 1024 + o = a) (hg : (c_lay K r (P r) (F r) (A r) (J r) (B r))[o]? = some (.inr (ci, fs))) (hv : fs[k]? = some (.ref (P r key * 1024))) (hq : c_chk K2 (P r key) = some q) (hr : c_kind q = K2 → k_run t lg d M (pc + 3) loc (.ref (q * 1024) :: st) (c_h c B P F A J) z) (ho : o < 1024 := by decide) : k_run t lg d M pc loc (.ref a :: st) (c_h c B P F A J) z := by
  obtain ⟨h1, rfl⟩ := c_chk_ok hq
  exact k_gf r o hk hI ha hg hv (hr h1) ho
theorem k_cstI (r o : Nat) {K a n : Nat} {i x : Int32} (hk : c_kind r = K) (hI : (k_mt M).2 pc = some (.iastore, R)) (ha : r * 1024 + o = a) (hg : (c_lay K r (P r) (F r) (A r) (J r) (B r))[o]? = some (.inl (0, n, .inl (A r o)))) (hs : ∀ g, (c_lay K r (P r) (F r) (A r) (J r) (B r)).set o (.inl (0, n, .inl g)) = c_lay K r (P r) (F r) (va_up (A r) o g) (J r) (B r)) (hv : c_st A r o n i x = some A') (hr : k_run t lg d M (pc + 1) loc st (c_h c B P F A' J) z) (ho : o < 1024 := by decide) : k_run t lg d M pc loc (.int x :: .int i :: .ref a :: st) (c_h c B P F A J) z := by
  subst ha
  obtain ⟨h1, rfl⟩ := c_st_ok hv
  exact k_iast hI ((c_get hk ho).trans hg) h1 (c_set hk ho (by rw [c_up_same]; exact hs _) (fun q hq => ⟨rfl, rfl, c_up_ne hq, rfl⟩)) hr
theorem k_cstB (r o : Nat) {K a n : Nat} {i x : Int32} (hk : c_kind r = K) (hI : (k_mt M).2 pc = some (.bastore, R)) (ha : r * 1024 + o = a) (hg : (c_lay K r (P r) (F r) (A r) (J r) (B r))[o]? = some (.inl (1, n, .inl (A r o)))) (hs : ∀ g, (c_lay K r (P r) (F r) (A r) (J r) (B r)).set o (.inl (1, n, .inl g)) = c_lay K r (P r) (F r) (va_up (A r) o g) (J r) (B r)) (hv : c_st A r o n i (vp_nar .byte x) = some A') (hr : k_run t lg d M (pc + 1) loc st (c_h c B P F A' J) z) (ho : o < 1024 := by decide) : k_run t lg d M pc loc (.int x :: .int i :: .ref a :: st) (c_h c B P F A J) z := by
  subst ha
  obtain ⟨h1, rfl⟩ := c_st_ok hv
  exact k_bast hI ((c_get hk ho).trans hg) h1 (c_set hk ho (by rw [c_up_same]; exact hs _) (fun q hq => ⟨rfl, rfl, c_up_ne hq, rfl⟩)) hr
theorem k_cstL (r o : Nat) {K a n : Nat} {i : Int32} {x : Int64} (hk : c_kind r = K) (hI : (k_mt M).2 pc = some (.lastore, R)) (ha : r * 1024 + o = a) (hg : (c_lay K r (P r) (F r) (A r) (J r) (B r))[o]? = some (.inl (3, n, .inr (.inl (J r o))))) (hs : ∀ g, (c_lay K r (P r) (F r) (A r) (J r) (B r)).set o (.inl (3, n, .inr (.inl g))) = c_lay K r (P r) (F r) (A r) (va_up (J r) o g) (B r)) (hv : c_stJ J r o n i x = some J') (hr : k_run t lg d M (pc + 1) loc st (c_h c B P F A J') z) (ho : o < 1024 := by decide) : k_run t lg d M pc loc (.long x :: .int i :: .ref a :: st) (c_h c B P F A J) z := by
  subst ha
  obtain ⟨h1, rfl⟩ := c_stJ_ok hv
  exact k_last hI ((c_get hk ho).trans hg) h1 (c_set hk ho (by rw [c_up_same]; exact hs _) (fun q hq => ⟨rfl, rfl, rfl, c_up_ne hq⟩)) hr
theorem k_cpt (r o : Nat) {K a ix ci k key : Nat} {x : Int32} {fs : List Value} (hk : c_kind r = K) (hI : (k_mt M).2 pc = some (.putfield ix, [ci, k])) (ht : t.1 ci k = k_ty ci k) (ha : r * 1024 + o = a) (hg : ((c_lay K r (P r) (F r) (A r) (J r) (B r))[o]?, (c_lay K r (P r) (F r) (A r) (J r) (B r)).set o (.inr (ci, fs.set k (.int x)))) = (some (.inr (ci, fs)), c_lay K r (P r) (upd (F r) key x) (A r) (J r) (B r))) (hl : (k_ty ci k, decide (k < fs.length)) = (.int, true)) (hv : c_pf F r key x = some F') (hr : k_run t lg d M (pc + 3) loc st (c_h c B P F' A J) z) (ho : o < 1024 := by decide) : k_run t lg d M pc loc (.int x :: .ref a :: st) (c_h c B P F A J) z := by
  subst ha
  cases hv
  obtain ⟨h1, h2⟩ := Prod.mk.inj hg
  obtain ⟨h3, h4⟩ := Prod.mk.inj hl
  exact k_put hI ((c_get hk ho).trans h1) (of_decide_eq_true h4) (by rw [ht, h3]; rfl) (c_set hk ho (by rw [c_up_same]; exact h2) (fun q hq => ⟨rfl, c_up_ne hq, rfl, rfl⟩)) hr
theorem k_cpp (r o : Nat) {K a ix ci k key q : Nat} {C : String} {fs : List Value} (hk : c_kind r = K) (hI : (k_mt M).2 pc = some (.putfield ix, [ci, k])) (ht : t.1 ci k = k_ty ci k) (ha : r * 1024 + o = a) (hg : ((c_lay K r (P r) (F r) (A r) (J r) (B r))[o]?, (c_lay K r (P r) (F r) (A r) (J r) (B r)).set o (.inr (ci, fs.set k (.ref (q * 1024))))) = (some (.inr (ci, fs)), c_lay K r (va_up (P r) key q) (F r) (A r) (J r) (B r))) (hl : (k_ty ci k, decide (k < fs.length)) = (.object C, true)) (hv : c_pp P r key q = some P') (hr : k_run t lg d M (pc + 3) loc st (c_h c B P' F A J) z) (ho : o < 1024 := by decide) : k_run t lg d M pc loc (.ref (q * 1024) :: .ref a :: st) (c_h c B P F A J) z := by
  subst ha
  cases hv
  obtain ⟨h1, h2⟩ := Prod.mk.inj hg
  obtain ⟨h3, h4⟩ := Prod.mk.inj hl
  exact k_put hI ((c_get hk ho).trans h1) (of_decide_eq_true h4) (by rw [ht, h3]; rfl) (c_set hk ho (by rw [c_up_same]; exact h2) (fun q hq => ⟨c_up_ne hq, rfl, rfl, rfl⟩)) hr
/-- a call on an object -/
theorem k_runV {h h1 : gH} {ix M' na ci b : Nat} {fs as rest : List Value} {v : Option Value} (hI : (k_mt M).2 pc = some (.invokevirtual ix, [2, M', na, ci])) (hd : (st.drop na, (st.take na).reverse) = (.ref b :: rest, as)) (hn : Nat.ble na st.length = true) (hg : g_get h b = some (.inr (ci, fs))) (h8 : Nat.ble (g_sum rest) 8 = true) (hl : Nat.ble (lg_sl (.ref b :: as)).length (k_mt M').1.2.2.1 = true) (hc : k_run t lg d M' 0 (lv_args 0 (.ref b :: as)) [] h (v, h1)) (hr : k_run t lg (d + 1) M (pc + 3) loc (v.toList ++ rest) h1 z) : k_run t lg (d + 1) M pc loc st h z := by
  obtain ⟨e1, e2⟩ := Prod.mk.inj hd
  refine k_runC hI ?_ ?_ ?_ hc hr
  · unfold g_step
    rfl
  · unfold g_ret
    rfl
  · unfold g_inv
    simp only [e1, hg]
    rw [if_pos ⟨trivial, Nat.le_of_ble_eq_true hn, Nat.le_of_ble_eq_true h8, by rw [e2]; exact Nat.le_of_ble_eq_true hl⟩, e2]
/-- System.arraycopy of a whole row -/
theorem k_ccp (r o q k : Nat) {K K2 a b m n0 n1 ix : Nat} {n : Int32} (hk : c_kind r = K) (hk2 : c_kind q = K2) (hI : (k_mt M).2 pc = some (.invokestatic ix, [5])) (ha : r * 1024 + o = a) (hb : q * 1024 + k = b) (hg : (c_lay K r (P r) (F r) (A r) (J r) (B r))[o]? = some (.inl (0, n0, .inl (A r o)))) (hg2 : (c_lay K2 q (P q) (F q) (A q) (J q) (B q))[k]? = some (.inl (0, n1, .inl (A q k)))) (hs : ∀ g, (c_lay K2 q (P q) (F q) (A q) (J q) (B q)).set k (.inl (0, n1, .inl g)) = c_lay K2 q (P q) (F q) (va_up (A q) k g) (J q) (B q)) (hm : (decide (n < 0), n.toNatClampNeg, Nat.ble m n0, Nat.ble m n1, Nat.ble (g_sum st) 8) = (false, m, true, true, true)) (hv : c_cp A r o q k m = some A') (hr : k_run t lg d M (pc + 3) loc st (c_h c B P F A' J) z) (ho : o < 1024 := by decide) (hk3 : k < 1024 := by decide) : k_run t lg d M pc loc (.int n :: .int 0 :: .ref b :: .int 0 :: .ref a :: st) (c_h c B P F A J) z := by
  subst ha
  subst hb
  cases hv
  simp only [Prod.mk.injEq] at hm
  obtain ⟨m1, m2, m3, m4, m5⟩ := hm
  have m1 : ¬ n < 0 := of_decide_eq_false m1
  have m3 := Nat.le_of_ble_eq_true m3
  have m4 := Nat.le_of_ble_eq_true m4
  have m5 := Nat.le_of_ble_eq_true m5
  refine k_runS hI ?_ hr
  have hnat : g_nat (.invokestatic ix) [5] (.int n :: .int 0 :: .ref (q * 1024 + k) :: .int 0 :: .ref (r * 1024 + o) :: st) (c_h c B P F A J) = some (st, c_h c B P F (va_up A q (va_up (A q) k (va_cpy (A r o) (A q k) 0 0 m))) J) := by
    unfold g_nat
    simp only [c_get (c := c) (B := B) (P := P) (F := F) (A := A) (J := J) hk ho, c_get (c := c) (B := B) (P := P) (F := F) (A := A) (J := J) hk2 hk3, hg, hg2]
    have e0 : (0 : Int32).toNatClampNeg = 0 := by decide
    rw [if_neg (by rw [e0, m2]; rintro (h | h | h | h | h | h) <;> first | exact absurd h (by decide) | exact m1 h | omega), e0, m2]
    rw [c_set hk2 hk3 (P' := P) (F' := F) (J' := J) (A' := va_up A q (va_up (A q) k (va_cpy (A r o) (A q k) 0 0 m))) (by rw [c_up_same]; exact hs _) (fun x hx => ⟨rfl, rfl, c_up_ne hx, rfl⟩)]
  unfold g_step
  rw [show g_pure (.invokestatic ix) (.int n :: .int 0 :: .ref (q * 1024 + k) :: .int 0 :: .ref (r * 1024 + o) :: st) = none from rfl, show g_loc (k_mt M).1.2.2.1 (.invokestatic ix) loc (.int n :: .int 0 :: .ref (q * 1024 + k) :: .int 0 :: .ref (r * 1024 + o) :: st) = none from rfl, show g_br (.invokestatic ix) [5] pc (.int n :: .int 0 :: .ref (q * 1024 + k) :: .int 0 :: .ref (r * 1024 + o) :: st) = none from rfl, show g_mem t (.invokestatic ix) [5] (.int n :: .int 0 :: .ref (q * 1024 + k) :: .int 0 :: .ref (r * 1024 + o) :: st) (c_h c B P F A J) = none from rfl, show g_new lg k_df (.invokestatic ix) [5] (.int n :: .int 0 :: .ref (q * 1024 + k) :: .int 0 :: .ref (r * 1024 + o) :: st) (c_h c B P F A J) = none from rfl, show g_txt k_tb (.invokestatic ix) [5] (.int n :: .int 0 :: .ref (q * 1024 + k) :: .int 0 :: .ref (r * 1024 + o) :: st) = none from rfl, hnat]
end KC
end Qz13
section Qz14
/-! the class's heap: lengths, rows of objects, Arrays.fill -/
def c_ar (n b K : Nat) (i : Int32) : Option Nat := if i < 0 ∨ n ≤ i.toNatClampNeg then none else c_chk K (b + i.toNatClampNeg)
def c_fi (A : Nat → Nat → Nat → Int32) (r o n : Nat) (x : Int32) : Option (Nat → Nat → Nat → Int32) := some (va_up A r (va_up (A r) o (fun i => if i < n then x else A r o i)))
section KD
variable {t : gT} {lg : Nat → Nat} {d M pc : Nat} {loc : List (Nat × Value)} {st : List Value} {z : Option Value × gH} {R : List Nat}
variable {c : Nat × Nat} {B : Nat → List gE} {P : Nat → Nat → Nat} {F : Nat → Nat → Int32} {A A' : Nat → Nat → Nat → Int32} {J : Nat → Nat → Nat → Int64}
theorem k_cln (r o : Nat) {K a n j : Nat} {dd : (Nat → Int32) ⊕ (Nat → Int64) ⊕ (Nat → UInt32) ⊕ (Nat → UInt64) ⊕ (Nat → Option Nat)} (hk : c_kind r = K) (hI : (k_mt M).2 pc = some (.arraylength, R)) (ha : r * 1024 + o = a) (hg : (c_lay K r (P r) (F r) (A r) (J r) (B r))[o]? = some (.inl (j, n, dd))) (hr : k_run t lg d M (pc + 1) loc (.int (Int32.ofNat n) :: st) (c_h c B P F A J) z) (hj : j < 5 := by decide) (ho : o < 1024 := by decide) : k_run t lg d M pc loc (.ref a :: st) (c_h c B P F A J) z := by
  subst ha
  refine k_memS hI rfl rfl rfl ?_ hr
  unfold g_mem
  simp only [c_get (c := c) (B := B) (P := P) (F := F) (A := A) (J := J) hk ho, hg]
  rw [if_pos hj]
theorem k_aal (r o : Nat) {K K2 a n b q : Nat} {i : Int32} (hk : c_kind r = K) (hI : (k_mt M).2 pc = some (.aaload, R)) (ha : r * 1024 + o = a) (hg : (c_lay K r (P r) (F r) (A r) (J r) (B r))[o]? = some (.inl (4, n, .inr (.inr (.inr (.inr fun i => if i < n then some ((b + i) * 1024) else none)))))) (hq : c_ar n b K2 i = some q) (hr : c_kind q = K2 → k_run t lg d M (pc + 1) loc (.ref (q * 1024) :: st) (c_h c B P F A J) z) (ho : o < 1024 := by decide) : k_run t lg d M pc loc (.int i :: .ref a :: st) (c_h c B P F A J) z := by
  subst ha
  unfold c_ar at hq
  split at hq
  · cases hq
  next hin =>
    obtain ⟨h1, rfl⟩ := c_chk_ok hq
    refine k_memS hI rfl rfl rfl ?_ (hr h1)
    unfold g_mem
    simp only [c_get (c := c) (B := B) (P := P) (F := F) (A := A) (J := J) hk ho, hg]
    rw [if_neg hin, if_pos (Nat.not_le.mp fun h => hin (Or.inr h))]
theorem t_fillI_5 {r o K n : Nat} {x : Int32} (hk : c_kind r = K) (hg : ∀ a, (c_lay K r (P r) (F r) a (J r) (B r))[o]? = some (.inl (0, n, .inl (a o)))) (hs : ∀ a g, (c_lay K r (P r) (F r) a (J r) (B r)).set o (.inl (0, n, .inl g)) = c_lay K r (P r) (F r) (va_up a o g) (J r) (B r)) (hn : n < 2 ^ 31) (ho : o < 1024) : ∀ (m k : Nat), n - k = m → k ≤ n →
    k_run t lg d 268 5 [(0, .ref (r * 1024 + o)), (1, .int x), (2, .int (nI k)), (3, .int (nI n))] [] (c_h c B P F (va_up A r (va_up (A r) o (fun j => if j < k then x else A r o j))) J) (none, c_h c B P F (va_up A r (va_up (A r) o (fun j => if j < n then x else A r o j))) J) := by
  intro m
  induction m with
  | zero =>
    intro k h1 h2
    have hkn : k = n := by omega
    subst hkn
    refine k_runB (pc' := 7) (loc' := [(0, .ref (r * 1024 + o)), (1, .int x), (2, .int (nI k)), (3, .int (nI k))]) (st' := [.int (nI k), .int (nI k)]) 2 rfl ?_
    refine k_ic rfl (fun _ => ?_) (fun hc => ?_)
    · exact k_vret rfl rfl
    · exact absurd (nI_le (Nat.le_refl k) hn) (of_decide_eq_false hc)
  | succ m ih =>
    intro k h1 h2
    refine k_runB (pc' := 7) (loc' := [(0, .ref (r * 1024 + o)), (1, .int x), (2, .int (nI k)), (3, .int (nI n))]) (st' := [.int (nI n), .int (nI k)]) 2 rfl ?_
    refine k_ic rfl (fun hc => ?_) (fun _ => ?_)
    · exact absurd (of_decide_eq_true hc) (nI_ge (by omega) hn)
    · refine k_runB (pc' := 13) (loc' := [(0, .ref (r * 1024 + o)), (1, .int x), (2, .int (nI k)), (3, .int (nI n))]) (st' := [.int x, .int (nI k), .ref (r * 1024 + o)]) 3 rfl ?_
      refine k_cstI r o (n := n) (A' := va_up A r (va_up (A r) o (fun j => if j < k + 1 then x else A r o j))) hk rfl rfl ?_ ?_ ?_ ?_ ho
      · rw [c_up_same]
        rw [hg, c_up_same]
      · intro g
        rw [c_up_same, hs]
      · unfold c_st
        rw [if_neg (nI_in (by omega) hn), nI_clamp (by omega)]
        congr 1
        funext q
        by_cases hq : q = r
        · subst hq
          rw [c_up_same, c_up_same, c_up_same]
          funext p
          by_cases hp : p = o
          · subst hp
            rw [c_up_same, c_up_same, c_up_same]
            funext j
            by_cases hj : j = k
            · subst hj
              simp [upd]
            · simp only [upd, if_neg hj]
              by_cases hjk : j < k
              · rw [if_pos hjk, if_pos (by omega)]
              · rw [if_neg hjk, if_neg (by omega)]
          · rw [c_up_ne hp, c_up_ne hp, c_up_same, c_up_ne hp]
        · rw [c_up_ne hq, c_up_ne hq, c_up_ne hq]
      · refine k_runB (pc' := 5) (loc' := [(0, .ref (r * 1024 + o)), (1, .int x), (2, .int (nI k + 1)), (3, .int (nI n))]) (st' := []) 2 rfl ?_
        rw [nI_1]
        exact ih (k + 1) (by omega) (by omega)
theorem t_fillI (r o : Nat) {K n : Nat} {x : Int32} (hk : c_kind r = K) (hg : ∀ a, (c_lay K r (P r) (F r) a (J r) (B r))[o]? = some (.inl (0, n, .inl (a o)))) (hs : ∀ a g, (c_lay K r (P r) (F r) a (J r) (B r)).set o (.inl (0, n, .inl g)) = c_lay K r (P r) (F r) (va_up a o g) (J r) (B r)) (hn : n < 2 ^ 31) (hv : c_fi A r o n x = some A') (ho : o < 1024 := by decide) : k_run t lg d 268 0 [(0, .ref (r * 1024 + o)), (1, .int x)] [] (c_h c B P F A J) (none, c_h c B P F A' J) := by
  cases hv
  refine k_runB (pc' := 3) (loc' := [(0, .ref (r * 1024 + o)), (1, .int x), (2, .int 0)]) (st' := [.ref (r * 1024 + o)]) 3 rfl ?_
  refine k_cln r o hk rfl rfl (hg _) ?_ (by decide) ho
  refine k_runB (pc' := 5) (loc' := [(0, .ref (r * 1024 + o)), (1, .int x), (2, .int 0), (3, .int (nI n))]) (st' := []) 1 rfl ?_
  have h := t_fillI_5 (t := t) (lg := lg) (d := d) (c := c) (A := A) (x := x) hk hg hs hn ho n 0 (by omega) (by omega)
  have e : va_up A r (va_up (A r) o (fun j => if j < 0 then x else A r o j)) = A := by
    funext q
    by_cases hq : q = r
    · subst hq
      rw [c_up_same]
      funext p
      by_cases hp : p = o
      · subst hp
        rw [c_up_same]
        funext j
        rw [if_neg (by omega)]
      · rw [c_up_ne hp]
    · rw [c_up_ne hq]
  rw [e] at h
  exact h
end KD
end Qz14
section Qz15
/-! a byte of a text -/
def c_tx (j : Nat) : Nat → Int32 := fun i => (k_tb.getD j []).getD i 0
theorem k_tbl {t : gT} {lg : Nat → Nat} {d M pc : Nat} {loc : List (Nat × Value)} {st : List Value} {z : Option Value × gH} {R : List Nat} {h : gH} (j : Nat) {n : Nat} {f : UInt32} {i v : Int32} (hI : (k_mt M).2 pc = some (.baload, R)) (hf : (f.toNat - 1 - k_tb.length, Nat.ble (k_tb.length + 1) f.toNat, Nat.ble f.toNat (2 * k_tb.length), (k_tb.getD j []).length) = (j, true, true, n)) (hv : m_ld (c_tx j) n i = some v) (hr : k_run t lg d M (pc + 1) loc (.int v :: st) h z) : k_run t lg d M pc loc (.int i :: .float f :: st) h z := by
  simp only [Prod.mk.injEq] at hf
  obtain ⟨e1, e2, e3, e4⟩ := hf
  have e2 := Nat.le_of_ble_eq_true e2
  have e3 := Nat.le_of_ble_eq_true e3
  obtain ⟨h1, rfl⟩ := m_ld_ok hv
  refine k_runS hI ?_ hr
  have hx : g_txt k_tb .baload R (.int i :: .float f :: st) = some (.int (c_tx j i.toNatClampNeg) :: st) := by
    unfold g_txt
    simp only
    rw [if_pos ⟨by omega, e3⟩, e1, e4, if_neg h1]
    rfl
  unfold g_step
  rw [show g_pure .baload (.int i :: .float f :: st) = none from rfl, show g_loc (k_mt M).1.2.2.1 .baload loc (.int i :: .float f :: st) = none from rfl, show g_br .baload R pc (.int i :: .float f :: st) = none from rfl, show g_mem t .baload R (.int i :: .float f :: st) h = none from rfl, show g_new lg k_df .baload R (.int i :: .float f :: st) h = none from rfl, hx]
  rfl
theorem k_nret {t : gT} {lg : Nat → Nat} {d M pc : Nat} {loc : List (Nat × Value)} {R : List Nat} {h : gH} {v : Int32} {ty : FieldType} (hI : (k_mt M).2 pc = some (.ireturn, R)) (ht : (k_mt M).1.2.2.2 = some ty) (hn : narrow ty (.int v) = .int v) : k_run t lg d M pc loc [.int v] h (some (.int v), h) := by
  refine k_runR hI rfl ?_
  rw [ht]
  unfold g_ret
  simp only
  rw [if_pos hn]
end Qz15
section Qz16
/-! the class's methods as functions (printed by wip/dec2.py) -/
section MC
variable {t : gT} {lg : Nat → Nat} {d : Nat} {c : Nat × Nat} {B : Nat → List gE}
/-- SleepWork$Ways.drop()V  -/
def e_Ways_drop (P : Nat → Nat → Nat) (F : Nat → Nat → Int32) (A : Nat → Nat → Nat → Int32) (J : Nat → Nat → Nat → Int64) : Option (Unit × (Nat → Nat → Nat) × (Nat → Nat → Int32) × (Nat → Nat → Nat → Int32) × (Nat → Nat → Nat → Int64)) :=
  (c_pf F 36 101 ((-1))).bind fun F1 =>
  some ((), P, F1, A, J)
set_option maxRecDepth 10000 in
theorem t_e_Ways_drop (ht : ∀ ci k, t.1 ci k = k_ty ci k) {P : Nat → Nat → Nat} {F : Nat → Nat → Int32} {A : Nat → Nat → Nat → Int32} {J : Nat → Nat → Nat → Int64}   {w : Unit × (Nat → Nat → Nat) × (Nat → Nat → Int32) × (Nat → Nat → Nat → Int32) × (Nat → Nat → Nat → Int64)} : e_Ways_drop P F A J = some w → k_run t lg (d) 94 0 [(0, .ref (36 * 1024 + 1))] [] (c_h c B P F A J) (none, c_h c B w.2.1 w.2.2.1 w.2.2.2.1 w.2.2.2.2) := by
  intro hD
  unfold e_Ways_drop at hD
  refine k_runB (pc' := 2) (loc' := [(0, .ref (36 * 1024 + 1))]) (st' := [.int ((-1)), .ref (36 * 1024 + 1)]) 2 rfl ?_
  obtain ⟨F1, hF1, hD⟩ := Option.bind_eq_some_iff.mp hD
  refine k_cpt 36 1 (K := 10) (key := 101) rfl rfl (ht 10 1) rfl rfl rfl hF1 ?_
  cases hD
  exact k_vret rfl rfl
/-- SleepWork$Evening.setStale()V  -/
def e_Evening_setStale (P : Nat → Nat → Nat) (F : Nat → Nat → Int32) (A : Nat → Nat → Nat → Int32) (J : Nat → Nat → Nat → Int64) : Option (Unit × (Nat → Nat → Nat) × (Nat → Nat → Int32) × (Nat → Nat → Nat → Int32) × (Nat → Nat → Nat → Int64)) :=
  (c_pf F 32 6 ((-1))).bind fun F1 =>
  some ((), P, F1, A, J)
set_option maxRecDepth 10000 in
theorem t_e_Evening_setStale (ht : ∀ ci k, t.1 ci k = k_ty ci k) {P : Nat → Nat → Nat} {F : Nat → Nat → Int32} {A : Nat → Nat → Nat → Int32} {J : Nat → Nat → Nat → Int64}   {w : Unit × (Nat → Nat → Nat) × (Nat → Nat → Int32) × (Nat → Nat → Nat → Int32) × (Nat → Nat → Nat → Int64)} : e_Evening_setStale P F A J = some w → k_run t lg (d) 2 0 [(0, .ref (32 * 1024))] [] (c_h c B P F A J) (none, c_h c B w.2.1 w.2.2.1 w.2.2.2.1 w.2.2.2.2) := by
  intro hD
  unfold e_Evening_setStale at hD
  refine k_runB (pc' := 2) (loc' := [(0, .ref (32 * 1024))]) (st' := [.int ((-1)), .ref (32 * 1024)]) 2 rfl ?_
  obtain ⟨F1, hF1, hD⟩ := Option.bind_eq_some_iff.mp hD
  refine k_cpt 32 0 (K := 7) (key := 6) rfl rfl (ht 0 6) rfl rfl rfl hF1 ?_
  cases hD
  exact k_vret rfl rfl
/-- SleepWork$Evening.enter(LSleepWork$House;)V  -/
def e_Evening_enter (P : Nat → Nat → Nat) (F : Nat → Nat → Int32) (A : Nat → Nat → Nat → Int32) (J : Nat → Nat → Nat → Int64) (r1 : Nat) : Option (Unit × (Nat → Nat → Nat) × (Nat → Nat → Int32) × (Nat → Nat → Nat → Int32) × (Nat → Nat → Nat → Int64)) :=
  (c_pp P 32 4 r1).bind fun P1 =>
  (e_Ways_drop P1 F A J).bind fun (_, P3, F4, A5, J6) =>
  (e_Evening_setStale P3 F4 A5 J6).bind fun (_, P8, F9, A10, J11) =>
  some ((), P8, F9, A10, J11)
set_option maxRecDepth 10000 in
theorem t_e_Evening_enter (ht : ∀ ci k, t.1 ci k = k_ty ci k) {P : Nat → Nat → Nat} {F : Nat → Nat → Int32} {A : Nat → Nat → Nat → Int32} {J : Nat → Nat → Nat → Int64} {r1 : Nat} (hr1 : c_kind r1 = 6) {w : Unit × (Nat → Nat → Nat) × (Nat → Nat → Int32) × (Nat → Nat → Nat → Int32) × (Nat → Nat → Nat → Int64)} : e_Evening_enter P F A J r1 = some w → k_run t lg (d + 1) 1 0 [(0, .ref (32 * 1024)), (1, .ref (r1 * 1024))] [] (c_h c B P F A J) (none, c_h c B w.2.1 w.2.2.1 w.2.2.2.1 w.2.2.2.2) := by
  intro hD
  unfold e_Evening_enter at hD
  refine k_runB (pc' := 2) (loc' := [(0, .ref (32 * 1024)), (1, .ref (r1 * 1024))]) (st' := [.ref (r1 * 1024), .ref (32 * 1024)]) 2 rfl ?_
  obtain ⟨P1, hP1, hD⟩ := Option.bind_eq_some_iff.mp hD
  refine k_cpp 32 0 (K := 7) (key := 4) (C := "SleepWork$House") (q := r1) rfl rfl (ht 0 4) rfl rfl rfl hP1 ?_
  refine k_runB (pc' := 6) (loc' := [(0, .ref (32 * 1024)), (1, .ref (r1 * 1024))]) (st' := [.ref (32 * 1024)]) 1 rfl ?_
  refine k_gf 32 0 (K := 7) rfl rfl rfl rfl rfl ?_
  refine k_gf 36 0 (K := 10) rfl rfl rfl rfl rfl ?_
  obtain ⟨⟨v2, P3, F4, A5, J6⟩, hv2, hD⟩ := Option.bind_eq_some_iff.mp hD
  dsimp only at hD
  refine k_runV rfl rfl rfl (c_get (r := 36) (o := 1) (K := 10) rfl (by decide)) rfl rfl (t_e_Ways_drop (d := d) ht hv2) ?_
  refine k_runB (pc' := 16) (loc' := [(0, .ref (32 * 1024)), (1, .ref (r1 * 1024))]) (st' := [.ref (32 * 1024)]) 1 rfl ?_
  obtain ⟨⟨v7, P8, F9, A10, J11⟩, hv7, hD⟩ := Option.bind_eq_some_iff.mp hD
  dsimp only at hD
  refine k_runV rfl rfl rfl (c_get (r := 32) (o := 0) (K := 7) rfl (by decide)) rfl rfl (t_e_Evening_setStale (d := d) ht hv7) ?_
  cases hD
  exact k_vret rfl rfl
def e_Ways_takeDoors_127 (K39 : (Nat → Nat → Nat) → (Nat → Nat → Int32) → (Nat → Nat → Nat → Int32) → (Nat → Nat → Nat → Int64) → Nat → Int32 → Int32 → Option (Unit × (Nat → Nat → Nat) × (Nat → Nat → Int32) × (Nat → Nat → Nat → Int32) × (Nat → Nat → Nat → Int64))) (n : Nat) (P : Nat → Nat → Nat) (F : Nat → Nat → Int32) (A : Nat → Nat → Nat → Int32) (J : Nat → Nat → Nat → Int64) (r1 : Nat) (x2 : Int32) (x3 : Int32) : Option (Unit × (Nat → Nat → Nat) × (Nat → Nat → Int32) × (Nat → Nat → Nat → Int32) × (Nat → Nat → Nat → Int64)) :=
    K39 P F A J r1 x2 (x3 + 1)
set_option maxRecDepth 10000 in
theorem t_e_Ways_takeDoors_127 {n : Nat} {K39 : (Nat → Nat → Nat) → (Nat → Nat → Int32) → (Nat → Nat → Nat → Int32) → (Nat → Nat → Nat → Int64) → Nat → Int32 → Int32 → Option (Unit × (Nat → Nat → Nat) × (Nat → Nat → Int32) × (Nat → Nat → Nat → Int32) × (Nat → Nat → Nat → Int64))} (hK39 : ∀ (P : Nat → Nat → Nat) (F : Nat → Nat → Int32) (A : Nat → Nat → Nat → Int32) (J : Nat → Nat → Nat → Int64) (r1 : Nat) (x2 : Int32) (x3 : Int32) (w : Unit × (Nat → Nat → Nat) × (Nat → Nat → Int32) × (Nat → Nat → Nat → Int32) × (Nat → Nat → Nat → Int64)), c_kind r1 = 6 → K39 P F A J r1 x2 x3 = some w → k_run t lg (d + 1) 96 39 [(0, .ref (36 * 1024 + 1)), (1, .ref (r1 * 1024)), (2, .int x2), (3, .int x3)] [] (c_h c B P F A J) (none, c_h c B w.2.1 w.2.2.1 w.2.2.2.1 w.2.2.2.2)) {P : Nat → Nat → Nat} {F : Nat → Nat → Int32} {A : Nat → Nat → Nat → Int32} {J : Nat → Nat → Nat → Int64} {r1 : Nat} {x2 : Int32} {x3 : Int32} (hr1 : c_kind r1 = 6) {w : Unit × (Nat → Nat → Nat) × (Nat → Nat → Int32) × (Nat → Nat → Nat → Int32) × (Nat → Nat → Nat → Int64)} : e_Ways_takeDoors_127 K39 n P F A J r1 x2 x3 = some w → k_run t lg (d + 1) 96 127 [(0, .ref (36 * 1024 + 1)), (1, .ref (r1 * 1024)), (2, .int x2), (3, .int x3)] [] (c_h c B P F A J) (none, c_h c B w.2.1 w.2.2.1 w.2.2.2.1 w.2.2.2.2) := by
  intro hD
  unfold e_Ways_takeDoors_127 at hD
  refine k_runB (pc' := 39) (loc' := [(0, .ref (36 * 1024 + 1)), (1, .ref (r1 * 1024)), (2, .int x2), (3, .int (x3 + 1))]) (st' := []) 2 rfl ?_
  refine k_wk [0, 1, 2, 3] (loc' := [(0, .ref (36 * 1024 + 1)), (1, .ref (r1 * 1024)), (2, .int x2), (3, .int (x3 + 1))]) rfl rfl ?_
  exact hK39 _ _ _ _ _ _ _ _ hr1 hD
def e_Ways_takeDoors_39 : Nat → (Nat → Nat → Nat) → (Nat → Nat → Int32) → (Nat → Nat → Nat → Int32) → (Nat → Nat → Nat → Int64) → Nat → Int32 → Int32 → Option (Unit × (Nat → Nat → Nat) × (Nat → Nat → Int32) × (Nat → Nat → Nat → Int32) × (Nat → Nat → Nat → Int64))
  | 0, _, _, _, _, _, _, _ => none
  | n + 1, P, F, A, J, r1, x2, x3 => cond (g_cnd .ge x3 (F r1 14))
    (some ((), P, F, A, J))
    (cond (g_cnd .ne (x2 &&& ((1 : Int32) <<< (x3 &&& 31))) 0)
    (e_Ways_takeDoors_127 (e_Ways_takeDoors_39 n) n P F A J r1 x2 x3)
    ((m_ld (A r1 1) 12 x3).bind fun v6 =>
    (m_ld (A r1 2) 12 x3).bind fun v7 =>
    (m_ld (A r1 2) 12 x3).bind fun v8 =>
    (m_ld (A r1 1) 12 x3).bind fun v9 =>
    (m_ld (A 36 2) 64 ((v6 * 8) + v7)).bind fun v10 =>
    (m_ld (A r1 3) 12 x3).bind fun v11 =>
    (c_st A 36 2 64 ((v6 * 8) + v7) (if v11 < v10 then v11 else v10)).bind fun A12 =>
    (c_st A12 36 2 64 ((v8 * 8) + v9) (if v11 < v10 then v11 else v10)).bind fun A13 =>
    (e_Ways_takeDoors_39 n) P F A13 J r1 x2 (x3 + 1)))
set_option maxRecDepth 10000 in
theorem t_e_Ways_takeDoors_39 {n : Nat}  {P : Nat → Nat → Nat} {F : Nat → Nat → Int32} {A : Nat → Nat → Nat → Int32} {J : Nat → Nat → Nat → Int64} {r1 : Nat} {x2 : Int32} {x3 : Int32} (hr1 : c_kind r1 = 6) {w : Unit × (Nat → Nat → Nat) × (Nat → Nat → Int32) × (Nat → Nat → Nat → Int32) × (Nat → Nat → Nat → Int64)} : e_Ways_takeDoors_39 n P F A J r1 x2 x3 = some w → k_run t lg (d + 1) 96 39 [(0, .ref (36 * 1024 + 1)), (1, .ref (r1 * 1024)), (2, .int x2), (3, .int x3)] [] (c_h c B P F A J) (none, c_h c B w.2.1 w.2.2.1 w.2.2.2.1 w.2.2.2.2) := by
  induction n generalizing P F A J r1 x2 x3 w with
  | zero => intro hD; cases hD
  | succ n ih =>
    intro hD
    have hK39 : ∀ (P : Nat → Nat → Nat) (F : Nat → Nat → Int32) (A : Nat → Nat → Nat → Int32) (J : Nat → Nat → Nat → Int64) (r1 : Nat) (x2 : Int32) (x3 : Int32) (w : Unit × (Nat → Nat → Nat) × (Nat → Nat → Int32) × (Nat → Nat → Nat → Int32) × (Nat → Nat → Nat → Int64)), c_kind r1 = 6 → e_Ways_takeDoors_39 n P F A J r1 x2 x3 = some w → k_run t lg (d + 1) 96 39 [(0, .ref (36 * 1024 + 1)), (1, .ref (r1 * 1024)), (2, .int x2), (3, .int x3)] [] (c_h c B P F A J) (none, c_h c B w.2.1 w.2.2.1 w.2.2.2.1 w.2.2.2.2) := fun _ _ _ _ _ _ _ _ kr1 h => ih kr1 h
    unfold e_Ways_takeDoors_39 at hD
    refine k_runB (pc' := 41) (loc' := [(0, .ref (36 * 1024 + 1)), (1, .ref (r1 * 1024)), (2, .int x2), (3, .int x3)]) (st' := [.ref (r1 * 1024), .int x3]) 2 rfl ?_
    refine k_gf r1 0 (K := 6) hr1 rfl rfl rfl rfl ?_
    refine k_ic rfl (fun c44_3 => ?_) (fun c44_3 => ?_)
    · rw [c44_3, cond_true] at hD
      cases hD
      exact k_vret rfl rfl
    · rw [c44_3, cond_false] at hD
      refine k_runB (pc' := 52) (loc' := [(0, .ref (36 * 1024 + 1)), (1, .ref (r1 * 1024)), (2, .int x2), (3, .int x3)]) (st' := [.int (x2 &&& ((1 : Int32) <<< (x3 &&& 31)))]) 5 rfl ?_
      refine k_if rfl (fun c52_4 => ?_) (fun c52_4 => ?_)
      · rw [c52_4, cond_true] at hD
        refine k_wk [0, 1, 2, 3] (loc' := [(0, .ref (36 * 1024 + 1)), (1, .ref (r1 * 1024)), (2, .int x2), (3, .int x3)]) rfl rfl ?_
        exact t_e_Ways_takeDoors_127 hK39 hr1 hD
      · rw [c52_4, cond_false] at hD
        refine k_runB (pc' := 56) (loc' := [(0, .ref (36 * 1024 + 1)), (1, .ref (r1 * 1024)), (2, .int x2), (3, .int x3)]) (st' := [.ref (r1 * 1024)]) 1 rfl ?_
        refine k_gf r1 0 (K := 6) hr1 rfl rfl rfl rfl ?_
        refine k_runB (pc' := 60) (loc' := [(0, .ref (36 * 1024 + 1)), (1, .ref (r1 * 1024)), (2, .int x2), (3, .int x3)]) (st' := [.int x3, .ref (r1 * 1024 + 1)]) 1 rfl ?_
        obtain ⟨v6, hv6, hD⟩ := Option.bind_eq_some_iff.mp hD
        refine k_ldI rfl (c_get (r := r1) (o := 1) (K := 6) hr1 (by decide)) hv6 ?_
        refine k_runB (pc' := 65) (loc' := [(0, .ref (36 * 1024 + 1)), (1, .ref (r1 * 1024)), (2, .int x2), (3, .int x3)]) (st' := [.ref (r1 * 1024), .int (v6 * 8)]) 3 rfl ?_
        refine k_gf r1 0 (K := 6) hr1 rfl rfl rfl rfl ?_
        refine k_runB (pc' := 69) (loc' := [(0, .ref (36 * 1024 + 1)), (1, .ref (r1 * 1024)), (2, .int x2), (3, .int x3)]) (st' := [.int x3, .ref (r1 * 1024 + 2), .int (v6 * 8)]) 1 rfl ?_
        obtain ⟨v7, hv7, hD⟩ := Option.bind_eq_some_iff.mp hD
        refine k_ldI rfl (c_get (r := r1) (o := 2) (K := 6) hr1 (by decide)) hv7 ?_
        refine k_runB (pc' := 74) (loc' := [(0, .ref (36 * 1024 + 1)), (1, .ref (r1 * 1024)), (2, .int x2), (3, .int x3), (4, .int ((v6 * 8) + v7))]) (st' := [.ref (r1 * 1024)]) 3 rfl ?_
        refine k_gf r1 0 (K := 6) hr1 rfl rfl rfl rfl ?_
        refine k_runB (pc' := 78) (loc' := [(0, .ref (36 * 1024 + 1)), (1, .ref (r1 * 1024)), (2, .int x2), (3, .int x3), (4, .int ((v6 * 8) + v7))]) (st' := [.int x3, .ref (r1 * 1024 + 2)]) 1 rfl ?_
        obtain ⟨v8, hv8, hD⟩ := Option.bind_eq_some_iff.mp hD
        refine k_ldI rfl (c_get (r := r1) (o := 2) (K := 6) hr1 (by decide)) hv8 ?_
        refine k_runB (pc' := 83) (loc' := [(0, .ref (36 * 1024 + 1)), (1, .ref (r1 * 1024)), (2, .int x2), (3, .int x3), (4, .int ((v6 * 8) + v7))]) (st' := [.ref (r1 * 1024), .int (v8 * 8)]) 3 rfl ?_
        refine k_gf r1 0 (K := 6) hr1 rfl rfl rfl rfl ?_
        refine k_runB (pc' := 87) (loc' := [(0, .ref (36 * 1024 + 1)), (1, .ref (r1 * 1024)), (2, .int x2), (3, .int x3), (4, .int ((v6 * 8) + v7))]) (st' := [.int x3, .ref (r1 * 1024 + 1), .int (v8 * 8)]) 1 rfl ?_
        obtain ⟨v9, hv9, hD⟩ := Option.bind_eq_some_iff.mp hD
        refine k_ldI rfl (c_get (r := r1) (o := 1) (K := 6) hr1 (by decide)) hv9 ?_
        refine k_runB (pc' := 92) (loc' := [(0, .ref (36 * 1024 + 1)), (1, .ref (r1 * 1024)), (2, .int x2), (3, .int x3), (4, .int ((v6 * 8) + v7)), (5, .int ((v8 * 8) + v9))]) (st' := [.ref (36 * 1024 + 1)]) 3 rfl ?_
        refine k_gf 36 1 (K := 10) rfl rfl rfl rfl rfl ?_
        refine k_runB (pc' := 97) (loc' := [(0, .ref (36 * 1024 + 1)), (1, .ref (r1 * 1024)), (2, .int x2), (3, .int x3), (4, .int ((v6 * 8) + v7)), (5, .int ((v8 * 8) + v9))]) (st' := [.int ((v6 * 8) + v7), .ref (36 * 1024 + 2)]) 1 rfl ?_
        obtain ⟨v10, hv10, hD⟩ := Option.bind_eq_some_iff.mp hD
        refine k_ldI rfl (c_get (r := 36) (o := 2) (K := 10) rfl (by decide)) hv10 ?_
        refine k_runB (pc' := 99) (loc' := [(0, .ref (36 * 1024 + 1)), (1, .ref (r1 * 1024)), (2, .int x2), (3, .int x3), (4, .int ((v6 * 8) + v7)), (5, .int ((v8 * 8) + v9))]) (st' := [.ref (r1 * 1024), .int v10]) 1 rfl ?_
        refine k_gf r1 0 (K := 6) hr1 rfl rfl rfl rfl ?_
        refine k_runB (pc' := 103) (loc' := [(0, .ref (36 * 1024 + 1)), (1, .ref (r1 * 1024)), (2, .int x2), (3, .int x3), (4, .int ((v6 * 8) + v7)), (5, .int ((v8 * 8) + v9))]) (st' := [.int x3, .ref (r1 * 1024 + 3), .int v10]) 1 rfl ?_
        obtain ⟨v11, hv11, hD⟩ := Option.bind_eq_some_iff.mp hD
        refine k_ldI rfl (c_get (r := r1) (o := 3) (K := 6) hr1 (by decide)) hv11 ?_
        refine k_runB (pc' := 110) (loc' := [(0, .ref (36 * 1024 + 1)), (1, .ref (r1 * 1024)), (2, .int x2), (3, .int x3), (4, .int ((v6 * 8) + v7)), (5, .int ((v8 * 8) + v9)), (6, .int (if v11 < v10 then v11 else v10))]) (st' := [.ref (36 * 1024 + 1)]) 3 rfl ?_
        refine k_gf 36 1 (K := 10) rfl rfl rfl rfl rfl ?_
        refine k_runB (pc' := 117) (loc' := [(0, .ref (36 * 1024 + 1)), (1, .ref (r1 * 1024)), (2, .int x2), (3, .int x3), (4, .int ((v6 * 8) + v7)), (5, .int ((v8 * 8) + v9)), (6, .int (if v11 < v10 then v11 else v10))]) (st' := [.int (if v11 < v10 then v11 else v10), .int ((v6 * 8) + v7), .ref (36 * 1024 + 2)]) 2 rfl ?_
        obtain ⟨A12, hA12, hD⟩ := Option.bind_eq_some_iff.mp hD
        refine k_cstI 36 2 (K := 10) rfl rfl rfl rfl (fun _ => rfl) hA12 ?_
        refine k_runB (pc' := 119) (loc' := [(0, .ref (36 * 1024 + 1)), (1, .ref (r1 * 1024)), (2, .int x2), (3, .int x3), (4, .int ((v6 * 8) + v7)), (5, .int ((v8 * 8) + v9)), (6, .int (if v11 < v10 then v11 else v10))]) (st' := [.ref (36 * 1024 + 1)]) 1 rfl ?_
        refine k_gf 36 1 (K := 10) rfl rfl rfl rfl rfl ?_
        refine k_runB (pc' := 126) (loc' := [(0, .ref (36 * 1024 + 1)), (1, .ref (r1 * 1024)), (2, .int x2), (3, .int x3), (4, .int ((v6 * 8) + v7)), (5, .int ((v8 * 8) + v9)), (6, .int (if v11 < v10 then v11 else v10))]) (st' := [.int (if v11 < v10 then v11 else v10), .int ((v8 * 8) + v9), .ref (36 * 1024 + 2)]) 2 rfl ?_
        obtain ⟨A13, hA13, hD⟩ := Option.bind_eq_some_iff.mp hD
        refine k_cstI 36 2 (K := 10) rfl rfl rfl rfl (fun _ => rfl) hA13 ?_
        refine k_runB (pc' := 39) (loc' := [(0, .ref (36 * 1024 + 1)), (1, .ref (r1 * 1024)), (2, .int x2), (3, .int (x3 + 1)), (4, .int ((v6 * 8) + v7)), (5, .int ((v8 * 8) + v9)), (6, .int (if v11 < v10 then v11 else v10))]) (st' := []) 2 rfl ?_
        refine k_wk [0, 1, 2, 3] (loc' := [(0, .ref (36 * 1024 + 1)), (1, .ref (r1 * 1024)), (2, .int x2), (3, .int (x3 + 1))]) rfl rfl ?_
        exact hK39 _ _ _ _ _ _ _ _ hr1 hD
def e_Ways_takeDoors_11 : Nat → (Nat → Nat → Nat) → (Nat → Nat → Int32) → (Nat → Nat → Nat → Int32) → (Nat → Nat → Nat → Int64) → Nat → Int32 → Int32 → Option (Unit × (Nat → Nat → Nat) × (Nat → Nat → Int32) × (Nat → Nat → Nat → Int32) × (Nat → Nat → Nat → Int64))
  | 0, _, _, _, _, _, _, _ => none
  | n + 1, P, F, A, J, r1, x2, x3 => cond (g_cnd .ge x3 (F r1 13))
    (e_Ways_takeDoors_39 n P F A J r1 x2 0)
    ((c_st A 36 2 64 ((x3 * 8) + x3) 0).bind fun A3 =>
    (e_Ways_takeDoors_11 n) P F A3 J r1 x2 (x3 + 1))
set_option maxRecDepth 10000 in
theorem t_e_Ways_takeDoors_11 {n : Nat}  {P : Nat → Nat → Nat} {F : Nat → Nat → Int32} {A : Nat → Nat → Nat → Int32} {J : Nat → Nat → Nat → Int64} {r1 : Nat} {x2 : Int32} {x3 : Int32} (hr1 : c_kind r1 = 6) {w : Unit × (Nat → Nat → Nat) × (Nat → Nat → Int32) × (Nat → Nat → Nat → Int32) × (Nat → Nat → Nat → Int64)} : e_Ways_takeDoors_11 n P F A J r1 x2 x3 = some w → k_run t lg (d + 1) 96 11 [(0, .ref (36 * 1024 + 1)), (1, .ref (r1 * 1024)), (2, .int x2), (3, .int x3)] [] (c_h c B P F A J) (none, c_h c B w.2.1 w.2.2.1 w.2.2.2.1 w.2.2.2.2) := by
  induction n generalizing P F A J r1 x2 x3 w with
  | zero => intro hD; cases hD
  | succ n ih =>
    intro hD
    have hK11 : ∀ (P : Nat → Nat → Nat) (F : Nat → Nat → Int32) (A : Nat → Nat → Nat → Int32) (J : Nat → Nat → Nat → Int64) (r1 : Nat) (x2 : Int32) (x3 : Int32) (w : Unit × (Nat → Nat → Nat) × (Nat → Nat → Int32) × (Nat → Nat → Nat → Int32) × (Nat → Nat → Nat → Int64)), c_kind r1 = 6 → e_Ways_takeDoors_11 n P F A J r1 x2 x3 = some w → k_run t lg (d + 1) 96 11 [(0, .ref (36 * 1024 + 1)), (1, .ref (r1 * 1024)), (2, .int x2), (3, .int x3)] [] (c_h c B P F A J) (none, c_h c B w.2.1 w.2.2.1 w.2.2.2.1 w.2.2.2.2) := fun _ _ _ _ _ _ _ _ kr1 h => ih kr1 h
    unfold e_Ways_takeDoors_11 at hD
    refine k_runB (pc' := 13) (loc' := [(0, .ref (36 * 1024 + 1)), (1, .ref (r1 * 1024)), (2, .int x2), (3, .int x3)]) (st' := [.ref (r1 * 1024), .int x3]) 2 rfl ?_
    refine k_gf r1 0 (K := 6) hr1 rfl rfl rfl rfl ?_
    refine k_ic rfl (fun c16_1 => ?_) (fun c16_1 => ?_)
    · rw [c16_1, cond_true] at hD
      refine k_runB (pc' := 39) (loc' := [(0, .ref (36 * 1024 + 1)), (1, .ref (r1 * 1024)), (2, .int x2), (3, .int 0)]) (st' := []) 2 rfl ?_
      refine k_wk [0, 1, 2, 3] (loc' := [(0, .ref (36 * 1024 + 1)), (1, .ref (r1 * 1024)), (2, .int x2), (3, .int 0)]) rfl rfl ?_
      exact t_e_Ways_takeDoors_39  hr1 hD
    · rw [c16_1, cond_false] at hD
      refine k_runB (pc' := 20) (loc' := [(0, .ref (36 * 1024 + 1)), (1, .ref (r1 * 1024)), (2, .int x2), (3, .int x3)]) (st' := [.ref (36 * 1024 + 1)]) 1 rfl ?_
      refine k_gf 36 1 (K := 10) rfl rfl rfl rfl rfl ?_
      refine k_runB (pc' := 30) (loc' := [(0, .ref (36 * 1024 + 1)), (1, .ref (r1 * 1024)), (2, .int x2), (3, .int x3)]) (st' := [.int 0, .int ((x3 * 8) + x3), .ref (36 * 1024 + 2)]) 6 rfl ?_
      obtain ⟨A3, hA3, hD⟩ := Option.bind_eq_some_iff.mp hD
      refine k_cstI 36 2 (K := 10) rfl rfl rfl rfl (fun _ => rfl) hA3 ?_
      refine k_runB (pc' := 11) (loc' := [(0, .ref (36 * 1024 + 1)), (1, .ref (r1 * 1024)), (2, .int x2), (3, .int (x3 + 1))]) (st' := []) 2 rfl ?_
      refine k_wk [0, 1, 2, 3] (loc' := [(0, .ref (36 * 1024 + 1)), (1, .ref (r1 * 1024)), (2, .int x2), (3, .int (x3 + 1))]) rfl rfl ?_
      exact hK11 _ _ _ _ _ _ _ _ hr1 hD
/-- SleepWork$Ways.takeDoors(LSleepWork$House;I)V  -/
def e_Ways_takeDoors (n : Nat) (P : Nat → Nat → Nat) (F : Nat → Nat → Int32) (A : Nat → Nat → Nat → Int32) (J : Nat → Nat → Nat → Int64) (r1 : Nat) (x2 : Int32) : Option (Unit × (Nat → Nat → Nat) × (Nat → Nat → Int32) × (Nat → Nat → Nat → Int32) × (Nat → Nat → Nat → Int64)) :=
  (c_fi A 36 2 64 1000000).bind fun A1 =>
  e_Ways_takeDoors_11 n P F A1 J r1 x2 0
set_option maxRecDepth 10000 in
theorem t_e_Ways_takeDoors {n : Nat} {P : Nat → Nat → Nat} {F : Nat → Nat → Int32} {A : Nat → Nat → Nat → Int32} {J : Nat → Nat → Nat → Int64} {r1 : Nat} {x2 : Int32} (hr1 : c_kind r1 = 6) {w : Unit × (Nat → Nat → Nat) × (Nat → Nat → Int32) × (Nat → Nat → Nat → Int32) × (Nat → Nat → Nat → Int64)} : e_Ways_takeDoors n P F A J r1 x2 = some w → k_run t lg (d + 1) 96 0 [(0, .ref (36 * 1024 + 1)), (1, .ref (r1 * 1024)), (2, .int x2)] [] (c_h c B P F A J) (none, c_h c B w.2.1 w.2.2.1 w.2.2.2.1 w.2.2.2.2) := by
  intro hD
  unfold e_Ways_takeDoors at hD
  refine k_runB (pc' := 1) (loc' := [(0, .ref (36 * 1024 + 1)), (1, .ref (r1 * 1024)), (2, .int x2)]) (st' := [.ref (36 * 1024 + 1)]) 1 rfl ?_
  refine k_gf 36 1 (K := 10) rfl rfl rfl rfl rfl ?_
  refine k_runB (pc' := 6) (loc' := [(0, .ref (36 * 1024 + 1)), (1, .ref (r1 * 1024)), (2, .int x2)]) (st' := [.int 1000000, .ref (36 * 1024 + 2)]) 1 rfl ?_
  obtain ⟨A1, hA1, hD⟩ := Option.bind_eq_some_iff.mp hD
  refine k_runC rfl rfl rfl rfl (t_fillI 36 2 (K := 10) (n := 64) rfl (fun _ => rfl) (fun _ _ => rfl) (by decide) hA1) ?_
  refine k_runB (pc' := 11) (loc' := [(0, .ref (36 * 1024 + 1)), (1, .ref (r1 * 1024)), (2, .int x2), (3, .int 0)]) (st' := []) 2 rfl ?_
  refine k_wk [0, 1, 2, 3] (loc' := [(0, .ref (36 * 1024 + 1)), (1, .ref (r1 * 1024)), (2, .int x2), (3, .int 0)]) rfl rfl ?_
  exact t_e_Ways_takeDoors_11  hr1 hD
def e_Ways_joinWays_97 (K2 : (Nat → Nat → Nat) → (Nat → Nat → Int32) → (Nat → Nat → Nat → Int32) → (Nat → Nat → Nat → Int64) → Int32 → Int32 → Option (Unit × (Nat → Nat → Nat) × (Nat → Nat → Int32) × (Nat → Nat → Nat → Int32) × (Nat → Nat → Nat → Int64))) (K9 : (Nat → Nat → Nat) → (Nat → Nat → Int32) → (Nat → Nat → Nat → Int32) → (Nat → Nat → Nat → Int64) → Int32 → Int32 → Int32 → Option (Unit × (Nat → Nat → Nat) × (Nat → Nat → Int32) × (Nat → Nat → Nat → Int32) × (Nat → Nat → Nat → Int64))) (n : Nat) (P : Nat → Nat → Nat) (F : Nat → Nat → Int32) (A : Nat → Nat → Nat → Int32) (J : Nat → Nat → Nat → Int64) (x1 : Int32) (x2 : Int32) (x3 : Int32) : Option (Unit × (Nat → Nat → Nat) × (Nat → Nat → Int32) × (Nat → Nat → Nat → Int32) × (Nat → Nat → Nat → Int64)) :=
    K9 P F A J x1 x2 (x3 + 1)
set_option maxRecDepth 10000 in
theorem t_e_Ways_joinWays_97 {n : Nat} {K2 : (Nat → Nat → Nat) → (Nat → Nat → Int32) → (Nat → Nat → Nat → Int32) → (Nat → Nat → Nat → Int64) → Int32 → Int32 → Option (Unit × (Nat → Nat → Nat) × (Nat → Nat → Int32) × (Nat → Nat → Nat → Int32) × (Nat → Nat → Nat → Int64))} {K9 : (Nat → Nat → Nat) → (Nat → Nat → Int32) → (Nat → Nat → Nat → Int32) → (Nat → Nat → Nat → Int64) → Int32 → Int32 → Int32 → Option (Unit × (Nat → Nat → Nat) × (Nat → Nat → Int32) × (Nat → Nat → Nat → Int32) × (Nat → Nat → Nat → Int64))} (hK2 : ∀ (P : Nat → Nat → Nat) (F : Nat → Nat → Int32) (A : Nat → Nat → Nat → Int32) (J : Nat → Nat → Nat → Int64) (x1 : Int32) (x2 : Int32) (w : Unit × (Nat → Nat → Nat) × (Nat → Nat → Int32) × (Nat → Nat → Nat → Int32) × (Nat → Nat → Nat → Int64)), K2 P F A J x1 x2 = some w → k_run t lg (d) 97 2 [(0, .ref (36 * 1024 + 1)), (1, .int x1), (2, .int x2)] [] (c_h c B P F A J) (none, c_h c B w.2.1 w.2.2.1 w.2.2.2.1 w.2.2.2.2)) (hK9 : ∀ (P : Nat → Nat → Nat) (F : Nat → Nat → Int32) (A : Nat → Nat → Nat → Int32) (J : Nat → Nat → Nat → Int64) (x1 : Int32) (x2 : Int32) (x3 : Int32) (w : Unit × (Nat → Nat → Nat) × (Nat → Nat → Int32) × (Nat → Nat → Nat → Int32) × (Nat → Nat → Nat → Int64)), K9 P F A J x1 x2 x3 = some w → k_run t lg (d) 97 9 [(0, .ref (36 * 1024 + 1)), (1, .int x1), (2, .int x2), (3, .int x3)] [] (c_h c B P F A J) (none, c_h c B w.2.1 w.2.2.1 w.2.2.2.1 w.2.2.2.2)) {P : Nat → Nat → Nat} {F : Nat → Nat → Int32} {A : Nat → Nat → Nat → Int32} {J : Nat → Nat → Nat → Int64} {x1 : Int32} {x2 : Int32} {x3 : Int32}  {w : Unit × (Nat → Nat → Nat) × (Nat → Nat → Int32) × (Nat → Nat → Nat → Int32) × (Nat → Nat → Nat → Int64)} : e_Ways_joinWays_97 K2 K9 n P F A J x1 x2 x3 = some w → k_run t lg (d) 97 97 [(0, .ref (36 * 1024 + 1)), (1, .int x1), (2, .int x2), (3, .int x3)] [] (c_h c B P F A J) (none, c_h c B w.2.1 w.2.2.1 w.2.2.2.1 w.2.2.2.2) := by
  intro hD
  unfold e_Ways_joinWays_97 at hD
  refine k_runB (pc' := 9) (loc' := [(0, .ref (36 * 1024 + 1)), (1, .int x1), (2, .int x2), (3, .int (x3 + 1))]) (st' := []) 2 rfl ?_
  refine k_wk [0, 1, 2, 3] (loc' := [(0, .ref (36 * 1024 + 1)), (1, .int x1), (2, .int x2), (3, .int (x3 + 1))]) rfl rfl ?_
  exact hK9 _ _ _ _ _ _ _ _  hD
def e_Ways_joinWays_91 (K2 : (Nat → Nat → Nat) → (Nat → Nat → Int32) → (Nat → Nat → Nat → Int32) → (Nat → Nat → Nat → Int64) → Int32 → Int32 → Option (Unit × (Nat → Nat → Nat) × (Nat → Nat → Int32) × (Nat → Nat → Nat → Int32) × (Nat → Nat → Nat → Int64))) (K9 : (Nat → Nat → Nat) → (Nat → Nat → Int32) → (Nat → Nat → Nat → Int32) → (Nat → Nat → Nat → Int64) → Int32 → Int32 → Int32 → Option (Unit × (Nat → Nat → Nat) × (Nat → Nat → Int32) × (Nat → Nat → Nat → Int32) × (Nat → Nat → Nat → Int64))) (K30 : (Nat → Nat → Nat) → (Nat → Nat → Int32) → (Nat → Nat → Nat → Int32) → (Nat → Nat → Nat → Int64) → Int32 → Int32 → Int32 → Int32 → Int32 → Option (Unit × (Nat → Nat → Nat) × (Nat → Nat → Int32) × (Nat → Nat → Nat → Int32) × (Nat → Nat → Nat → Int64))) (n : Nat) (P : Nat → Nat → Nat) (F : Nat → Nat → Int32) (A : Nat → Nat → Nat → Int32) (J : Nat → Nat → Nat → Int64) (x1 : Int32) (x2 : Int32) (x3 : Int32) (x4 : Int32) (x5 : Int32) : Option (Unit × (Nat → Nat → Nat) × (Nat → Nat → Int32) × (Nat → Nat → Nat → Int32) × (Nat → Nat → Nat → Int64)) :=
    K30 P F A J x1 x2 x3 x4 (x5 + 1)
set_option maxRecDepth 10000 in
theorem t_e_Ways_joinWays_91 {n : Nat} {K2 : (Nat → Nat → Nat) → (Nat → Nat → Int32) → (Nat → Nat → Nat → Int32) → (Nat → Nat → Nat → Int64) → Int32 → Int32 → Option (Unit × (Nat → Nat → Nat) × (Nat → Nat → Int32) × (Nat → Nat → Nat → Int32) × (Nat → Nat → Nat → Int64))} {K9 : (Nat → Nat → Nat) → (Nat → Nat → Int32) → (Nat → Nat → Nat → Int32) → (Nat → Nat → Nat → Int64) → Int32 → Int32 → Int32 → Option (Unit × (Nat → Nat → Nat) × (Nat → Nat → Int32) × (Nat → Nat → Nat → Int32) × (Nat → Nat → Nat → Int64))} {K30 : (Nat → Nat → Nat) → (Nat → Nat → Int32) → (Nat → Nat → Nat → Int32) → (Nat → Nat → Nat → Int64) → Int32 → Int32 → Int32 → Int32 → Int32 → Option (Unit × (Nat → Nat → Nat) × (Nat → Nat → Int32) × (Nat → Nat → Nat → Int32) × (Nat → Nat → Nat → Int64))} (hK2 : ∀ (P : Nat → Nat → Nat) (F : Nat → Nat → Int32) (A : Nat → Nat → Nat → Int32) (J : Nat → Nat → Nat → Int64) (x1 : Int32) (x2 : Int32) (w : Unit × (Nat → Nat → Nat) × (Nat → Nat → Int32) × (Nat → Nat → Nat → Int32) × (Nat → Nat → Nat → Int64)), K2 P F A J x1 x2 = some w → k_run t lg (d) 97 2 [(0, .ref (36 * 1024 + 1)), (1, .int x1), (2, .int x2)] [] (c_h c B P F A J) (none, c_h c B w.2.1 w.2.2.1 w.2.2.2.1 w.2.2.2.2)) (hK9 : ∀ (P : Nat → Nat → Nat) (F : Nat → Nat → Int32) (A : Nat → Nat → Nat → Int32) (J : Nat → Nat → Nat → Int64) (x1 : Int32) (x2 : Int32) (x3 : Int32) (w : Unit × (Nat → Nat → Nat) × (Nat → Nat → Int32) × (Nat → Nat → Nat → Int32) × (Nat → Nat → Nat → Int64)), K9 P F A J x1 x2 x3 = some w → k_run t lg (d) 97 9 [(0, .ref (36 * 1024 + 1)), (1, .int x1), (2, .int x2), (3, .int x3)] [] (c_h c B P F A J) (none, c_h c B w.2.1 w.2.2.1 w.2.2.2.1 w.2.2.2.2)) (hK30 : ∀ (P : Nat → Nat → Nat) (F : Nat → Nat → Int32) (A : Nat → Nat → Nat → Int32) (J : Nat → Nat → Nat → Int64) (x1 : Int32) (x2 : Int32) (x3 : Int32) (x4 : Int32) (x5 : Int32) (w : Unit × (Nat → Nat → Nat) × (Nat → Nat → Int32) × (Nat → Nat → Nat → Int32) × (Nat → Nat → Nat → Int64)), K30 P F A J x1 x2 x3 x4 x5 = some w → k_run t lg (d) 97 30 [(0, .ref (36 * 1024 + 1)), (1, .int x1), (2, .int x2), (3, .int x3), (4, .int x4), (5, .int x5)] [] (c_h c B P F A J) (none, c_h c B w.2.1 w.2.2.1 w.2.2.2.1 w.2.2.2.2)) {P : Nat → Nat → Nat} {F : Nat → Nat → Int32} {A : Nat → Nat → Nat → Int32} {J : Nat → Nat → Nat → Int64} {x1 : Int32} {x2 : Int32} {x3 : Int32} {x4 : Int32} {x5 : Int32}  {w : Unit × (Nat → Nat → Nat) × (Nat → Nat → Int32) × (Nat → Nat → Nat → Int32) × (Nat → Nat → Nat → Int64)} : e_Ways_joinWays_91 K2 K9 K30 n P F A J x1 x2 x3 x4 x5 = some w → k_run t lg (d) 97 91 [(0, .ref (36 * 1024 + 1)), (1, .int x1), (2, .int x2), (3, .int x3), (4, .int x4), (5, .int x5)] [] (c_h c B P F A J) (none, c_h c B w.2.1 w.2.2.1 w.2.2.2.1 w.2.2.2.2) := by
  intro hD
  unfold e_Ways_joinWays_91 at hD
  refine k_runB (pc' := 30) (loc' := [(0, .ref (36 * 1024 + 1)), (1, .int x1), (2, .int x2), (3, .int x3), (4, .int x4), (5, .int (x5 + 1))]) (st' := []) 2 rfl ?_
  refine k_wk [0, 1, 2, 3, 4, 5] (loc' := [(0, .ref (36 * 1024 + 1)), (1, .int x1), (2, .int x2), (3, .int x3), (4, .int x4), (5, .int (x5 + 1))]) rfl rfl ?_
  exact hK30 _ _ _ _ _ _ _ _ _ _  hD
def e_Ways_joinWays_30 (K2 : (Nat → Nat → Nat) → (Nat → Nat → Int32) → (Nat → Nat → Nat → Int32) → (Nat → Nat → Nat → Int64) → Int32 → Int32 → Option (Unit × (Nat → Nat → Nat) × (Nat → Nat → Int32) × (Nat → Nat → Nat → Int32) × (Nat → Nat → Nat → Int64))) (K9 : (Nat → Nat → Nat) → (Nat → Nat → Int32) → (Nat → Nat → Nat → Int32) → (Nat → Nat → Nat → Int64) → Int32 → Int32 → Int32 → Option (Unit × (Nat → Nat → Nat) × (Nat → Nat → Int32) × (Nat → Nat → Nat → Int32) × (Nat → Nat → Nat → Int64))) : Nat → (Nat → Nat → Nat) → (Nat → Nat → Int32) → (Nat → Nat → Nat → Int32) → (Nat → Nat → Nat → Int64) → Int32 → Int32 → Int32 → Int32 → Int32 → Option (Unit × (Nat → Nat → Nat) × (Nat → Nat → Int32) × (Nat → Nat → Nat → Int32) × (Nat → Nat → Nat → Int64))
  | 0, _, _, _, _, _, _, _, _, _ => none
  | n + 1, P, F, A, J, x1, x2, x3, x4, x5 => cond (g_cnd .ge x5 x1)
    (e_Ways_joinWays_97 K2 K9 n P F A J x1 x2 x3)
    (cond (g_cnd .ge x4 1000000)
    (e_Ways_joinWays_97 K2 K9 n P F A J x1 x2 x3)
    ((m_ld (A 36 2) 64 ((x2 * 8) + x5)).bind fun v6 =>
    (m_ld (A 36 2) 64 ((x3 * 8) + x5)).bind fun v7 =>
    cond (g_cnd .ge (x4 + v6) v7)
    (e_Ways_joinWays_91 K2 K9 (e_Ways_joinWays_30 K2 K9 n) n P F A J x1 x2 x3 x4 x5)
    ((c_st A 36 2 64 ((x3 * 8) + x5) (x4 + v6)).bind fun A9 =>
    (e_Ways_joinWays_30 K2 K9 n) P F A9 J x1 x2 x3 x4 (x5 + 1))))
set_option maxRecDepth 10000 in
theorem t_e_Ways_joinWays_30 {n : Nat} {K2 : (Nat → Nat → Nat) → (Nat → Nat → Int32) → (Nat → Nat → Nat → Int32) → (Nat → Nat → Nat → Int64) → Int32 → Int32 → Option (Unit × (Nat → Nat → Nat) × (Nat → Nat → Int32) × (Nat → Nat → Nat → Int32) × (Nat → Nat → Nat → Int64))} {K9 : (Nat → Nat → Nat) → (Nat → Nat → Int32) → (Nat → Nat → Nat → Int32) → (Nat → Nat → Nat → Int64) → Int32 → Int32 → Int32 → Option (Unit × (Nat → Nat → Nat) × (Nat → Nat → Int32) × (Nat → Nat → Nat → Int32) × (Nat → Nat → Nat → Int64))} (hK2 : ∀ (P : Nat → Nat → Nat) (F : Nat → Nat → Int32) (A : Nat → Nat → Nat → Int32) (J : Nat → Nat → Nat → Int64) (x1 : Int32) (x2 : Int32) (w : Unit × (Nat → Nat → Nat) × (Nat → Nat → Int32) × (Nat → Nat → Nat → Int32) × (Nat → Nat → Nat → Int64)), K2 P F A J x1 x2 = some w → k_run t lg (d) 97 2 [(0, .ref (36 * 1024 + 1)), (1, .int x1), (2, .int x2)] [] (c_h c B P F A J) (none, c_h c B w.2.1 w.2.2.1 w.2.2.2.1 w.2.2.2.2)) (hK9 : ∀ (P : Nat → Nat → Nat) (F : Nat → Nat → Int32) (A : Nat → Nat → Nat → Int32) (J : Nat → Nat → Nat → Int64) (x1 : Int32) (x2 : Int32) (x3 : Int32) (w : Unit × (Nat → Nat → Nat) × (Nat → Nat → Int32) × (Nat → Nat → Nat → Int32) × (Nat → Nat → Nat → Int64)), K9 P F A J x1 x2 x3 = some w → k_run t lg (d) 97 9 [(0, .ref (36 * 1024 + 1)), (1, .int x1), (2, .int x2), (3, .int x3)] [] (c_h c B P F A J) (none, c_h c B w.2.1 w.2.2.1 w.2.2.2.1 w.2.2.2.2)) {P : Nat → Nat → Nat} {F : Nat → Nat → Int32} {A : Nat → Nat → Nat → Int32} {J : Nat → Nat → Nat → Int64} {x1 : Int32} {x2 : Int32} {x3 : Int32} {x4 : Int32} {x5 : Int32}  {w : Unit × (Nat → Nat → Nat) × (Nat → Nat → Int32) × (Nat → Nat → Nat → Int32) × (Nat → Nat → Nat → Int64)} : e_Ways_joinWays_30 K2 K9 n P F A J x1 x2 x3 x4 x5 = some w → k_run t lg (d) 97 30 [(0, .ref (36 * 1024 + 1)), (1, .int x1), (2, .int x2), (3, .int x3), (4, .int x4), (5, .int x5)] [] (c_h c B P F A J) (none, c_h c B w.2.1 w.2.2.1 w.2.2.2.1 w.2.2.2.2) := by
  induction n generalizing P F A J x1 x2 x3 x4 x5 w with
  | zero => intro hD; cases hD
  | succ n ih =>
    intro hD
    have hK30 : ∀ (P : Nat → Nat → Nat) (F : Nat → Nat → Int32) (A : Nat → Nat → Nat → Int32) (J : Nat → Nat → Nat → Int64) (x1 : Int32) (x2 : Int32) (x3 : Int32) (x4 : Int32) (x5 : Int32) (w : Unit × (Nat → Nat → Nat) × (Nat → Nat → Int32) × (Nat → Nat → Nat → Int32) × (Nat → Nat → Nat → Int64)), e_Ways_joinWays_30 K2 K9 n P F A J x1 x2 x3 x4 x5 = some w → k_run t lg (d) 97 30 [(0, .ref (36 * 1024 + 1)), (1, .int x1), (2, .int x2), (3, .int x3), (4, .int x4), (5, .int x5)] [] (c_h c B P F A J) (none, c_h c B w.2.1 w.2.2.1 w.2.2.2.1 w.2.2.2.2) := fun _ _ _ _ _ _ _ _ _ _  h => ih  h
    unfold e_Ways_joinWays_30 at hD
    refine k_runB (pc' := 33) (loc' := [(0, .ref (36 * 1024 + 1)), (1, .int x1), (2, .int x2), (3, .int x3), (4, .int x4), (5, .int x5)]) (st' := [.int x1, .int x5]) 2 rfl ?_
    refine k_ic rfl (fun c33_3 => ?_) (fun c33_3 => ?_)
    · rw [c33_3, cond_true] at hD
      refine k_wk [0, 1, 2, 3] (loc' := [(0, .ref (36 * 1024 + 1)), (1, .int x1), (2, .int x2), (3, .int x3)]) rfl rfl ?_
      exact t_e_Ways_joinWays_97 hK2 hK9  hD
    · rw [c33_3, cond_false] at hD
      refine k_runB (pc' := 40) (loc' := [(0, .ref (36 * 1024 + 1)), (1, .int x1), (2, .int x2), (3, .int x3), (4, .int x4), (5, .int x5)]) (st' := [.int 1000000, .int x4]) 2 rfl ?_
      refine k_ic rfl (fun c40_4 => ?_) (fun c40_4 => ?_)
      · rw [c40_4, cond_true] at hD
        refine k_wk [0, 1, 2, 3] (loc' := [(0, .ref (36 * 1024 + 1)), (1, .int x1), (2, .int x2), (3, .int x3)]) rfl rfl ?_
        exact t_e_Ways_joinWays_97 hK2 hK9  hD
      · rw [c40_4, cond_false] at hD
        refine k_runB (pc' := 46) (loc' := [(0, .ref (36 * 1024 + 1)), (1, .int x1), (2, .int x2), (3, .int x3), (4, .int x4), (5, .int x5)]) (st' := [.ref (36 * 1024 + 1), .int x4]) 2 rfl ?_
        refine k_gf 36 1 (K := 10) rfl rfl rfl rfl rfl ?_
        refine k_runB (pc' := 56) (loc' := [(0, .ref (36 * 1024 + 1)), (1, .int x1), (2, .int x2), (3, .int x3), (4, .int x4), (5, .int x5)]) (st' := [.int ((x2 * 8) + x5), .ref (36 * 1024 + 2), .int x4]) 5 rfl ?_
        obtain ⟨v6, hv6, hD⟩ := Option.bind_eq_some_iff.mp hD
        refine k_ldI rfl (c_get (r := 36) (o := 2) (K := 10) rfl (by decide)) hv6 ?_
        refine k_runB (pc' := 63) (loc' := [(0, .ref (36 * 1024 + 1)), (1, .int x1), (2, .int x2), (3, .int x3), (4, .int x4), (5, .int x5), (6, .int (x4 + v6))]) (st' := [.ref (36 * 1024 + 1), .int (x4 + v6)]) 4 rfl ?_
        refine k_gf 36 1 (K := 10) rfl rfl rfl rfl rfl ?_
        refine k_runB (pc' := 73) (loc' := [(0, .ref (36 * 1024 + 1)), (1, .int x1), (2, .int x2), (3, .int x3), (4, .int x4), (5, .int x5), (6, .int (x4 + v6))]) (st' := [.int ((x3 * 8) + x5), .ref (36 * 1024 + 2), .int (x4 + v6)]) 5 rfl ?_
        obtain ⟨v7, hv7, hD⟩ := Option.bind_eq_some_iff.mp hD
        refine k_ldI rfl (c_get (r := 36) (o := 2) (K := 10) rfl (by decide)) hv7 ?_
        refine k_ic rfl (fun c74_7 => ?_) (fun c74_7 => ?_)
        · rw [c74_7, cond_true] at hD
          refine k_wk [0, 1, 2, 3, 4, 5] (loc' := [(0, .ref (36 * 1024 + 1)), (1, .int x1), (2, .int x2), (3, .int x3), (4, .int x4), (5, .int x5)]) rfl rfl ?_
          exact t_e_Ways_joinWays_91 hK2 hK9 hK30  hD
        · rw [c74_7, cond_false] at hD
          refine k_runB (pc' := 78) (loc' := [(0, .ref (36 * 1024 + 1)), (1, .int x1), (2, .int x2), (3, .int x3), (4, .int x4), (5, .int x5), (6, .int (x4 + v6))]) (st' := [.ref (36 * 1024 + 1)]) 1 rfl ?_
          refine k_gf 36 1 (K := 10) rfl rfl rfl rfl rfl ?_
          refine k_runB (pc' := 90) (loc' := [(0, .ref (36 * 1024 + 1)), (1, .int x1), (2, .int x2), (3, .int x3), (4, .int x4), (5, .int x5), (6, .int (x4 + v6))]) (st' := [.int (x4 + v6), .int ((x3 * 8) + x5), .ref (36 * 1024 + 2)]) 6 rfl ?_
          obtain ⟨A9, hA9, hD⟩ := Option.bind_eq_some_iff.mp hD
          refine k_cstI 36 2 (K := 10) rfl rfl rfl rfl (fun _ => rfl) hA9 ?_
          refine k_runB (pc' := 30) (loc' := [(0, .ref (36 * 1024 + 1)), (1, .int x1), (2, .int x2), (3, .int x3), (4, .int x4), (5, .int (x5 + 1)), (6, .int (x4 + v6))]) (st' := []) 2 rfl ?_
          refine k_wk [0, 1, 2, 3, 4, 5] (loc' := [(0, .ref (36 * 1024 + 1)), (1, .int x1), (2, .int x2), (3, .int x3), (4, .int x4), (5, .int (x5 + 1))]) rfl rfl ?_
          exact hK30 _ _ _ _ _ _ _ _ _ _  hD
def e_Ways_joinWays_9 (K2 : (Nat → Nat → Nat) → (Nat → Nat → Int32) → (Nat → Nat → Nat → Int32) → (Nat → Nat → Nat → Int64) → Int32 → Int32 → Option (Unit × (Nat → Nat → Nat) × (Nat → Nat → Int32) × (Nat → Nat → Nat → Int32) × (Nat → Nat → Nat → Int64))) : Nat → (Nat → Nat → Nat) → (Nat → Nat → Int32) → (Nat → Nat → Nat → Int32) → (Nat → Nat → Nat → Int64) → Int32 → Int32 → Int32 → Option (Unit × (Nat → Nat → Nat) × (Nat → Nat → Int32) × (Nat → Nat → Nat → Int32) × (Nat → Nat → Nat → Int64))
  | 0, _, _, _, _, _, _, _ => none
  | n + 1, P, F, A, J, x1, x2, x3 => cond (g_cnd .ge x3 x1)
    (K2 P F A J x1 (x2 + 1))
    ((m_ld (A 36 2) 64 ((x3 * 8) + x2)).bind fun v3 =>
    e_Ways_joinWays_30 K2 (e_Ways_joinWays_9 K2 n) n P F A J x1 x2 x3 v3 0)
set_option maxRecDepth 10000 in
theorem t_e_Ways_joinWays_9 {n : Nat} {K2 : (Nat → Nat → Nat) → (Nat → Nat → Int32) → (Nat → Nat → Nat → Int32) → (Nat → Nat → Nat → Int64) → Int32 → Int32 → Option (Unit × (Nat → Nat → Nat) × (Nat → Nat → Int32) × (Nat → Nat → Nat → Int32) × (Nat → Nat → Nat → Int64))} (hK2 : ∀ (P : Nat → Nat → Nat) (F : Nat → Nat → Int32) (A : Nat → Nat → Nat → Int32) (J : Nat → Nat → Nat → Int64) (x1 : Int32) (x2 : Int32) (w : Unit × (Nat → Nat → Nat) × (Nat → Nat → Int32) × (Nat → Nat → Nat → Int32) × (Nat → Nat → Nat → Int64)), K2 P F A J x1 x2 = some w → k_run t lg (d) 97 2 [(0, .ref (36 * 1024 + 1)), (1, .int x1), (2, .int x2)] [] (c_h c B P F A J) (none, c_h c B w.2.1 w.2.2.1 w.2.2.2.1 w.2.2.2.2)) {P : Nat → Nat → Nat} {F : Nat → Nat → Int32} {A : Nat → Nat → Nat → Int32} {J : Nat → Nat → Nat → Int64} {x1 : Int32} {x2 : Int32} {x3 : Int32}  {w : Unit × (Nat → Nat → Nat) × (Nat → Nat → Int32) × (Nat → Nat → Nat → Int32) × (Nat → Nat → Nat → Int64)} : e_Ways_joinWays_9 K2 n P F A J x1 x2 x3 = some w → k_run t lg (d) 97 9 [(0, .ref (36 * 1024 + 1)), (1, .int x1), (2, .int x2), (3, .int x3)] [] (c_h c B P F A J) (none, c_h c B w.2.1 w.2.2.1 w.2.2.2.1 w.2.2.2.2) := by
  induction n generalizing P F A J x1 x2 x3 w with
  | zero => intro hD; cases hD
  | succ n ih =>
    intro hD
    have hK9 : ∀ (P : Nat → Nat → Nat) (F : Nat → Nat → Int32) (A : Nat → Nat → Nat → Int32) (J : Nat → Nat → Nat → Int64) (x1 : Int32) (x2 : Int32) (x3 : Int32) (w : Unit × (Nat → Nat → Nat) × (Nat → Nat → Int32) × (Nat → Nat → Nat → Int32) × (Nat → Nat → Nat → Int64)), e_Ways_joinWays_9 K2 n P F A J x1 x2 x3 = some w → k_run t lg (d) 97 9 [(0, .ref (36 * 1024 + 1)), (1, .int x1), (2, .int x2), (3, .int x3)] [] (c_h c B P F A J) (none, c_h c B w.2.1 w.2.2.1 w.2.2.2.1 w.2.2.2.2) := fun _ _ _ _ _ _ _ _  h => ih  h
    unfold e_Ways_joinWays_9 at hD
    refine k_runB (pc' := 11) (loc' := [(0, .ref (36 * 1024 + 1)), (1, .int x1), (2, .int x2), (3, .int x3)]) (st' := [.int x1, .int x3]) 2 rfl ?_
    refine k_ic rfl (fun c11_1 => ?_) (fun c11_1 => ?_)
    · rw [c11_1, cond_true] at hD
      refine k_runB (pc' := 2) (loc' := [(0, .ref (36 * 1024 + 1)), (1, .int x1), (2, .int (x2 + 1)), (3, .int x3)]) (st' := []) 2 rfl ?_
      refine k_wk [0, 1, 2] (loc' := [(0, .ref (36 * 1024 + 1)), (1, .int x1), (2, .int (x2 + 1))]) rfl rfl ?_
      exact hK2 _ _ _ _ _ _ _  hD
    · rw [c11_1, cond_false] at hD
      refine k_runB (pc' := 15) (loc' := [(0, .ref (36 * 1024 + 1)), (1, .int x1), (2, .int x2), (3, .int x3)]) (st' := [.ref (36 * 1024 + 1)]) 1 rfl ?_
      refine k_gf 36 1 (K := 10) rfl rfl rfl rfl rfl ?_
      refine k_runB (pc' := 24) (loc' := [(0, .ref (36 * 1024 + 1)), (1, .int x1), (2, .int x2), (3, .int x3)]) (st' := [.int ((x3 * 8) + x2), .ref (36 * 1024 + 2)]) 5 rfl ?_
      obtain ⟨v3, hv3, hD⟩ := Option.bind_eq_some_iff.mp hD
      refine k_ldI rfl (c_get (r := 36) (o := 2) (K := 10) rfl (by decide)) hv3 ?_
      refine k_runB (pc' := 30) (loc' := [(0, .ref (36 * 1024 + 1)), (1, .int x1), (2, .int x2), (3, .int x3), (4, .int v3), (5, .int 0)]) (st' := []) 3 rfl ?_
      refine k_wk [0, 1, 2, 3, 4, 5] (loc' := [(0, .ref (36 * 1024 + 1)), (1, .int x1), (2, .int x2), (3, .int x3), (4, .int v3), (5, .int 0)]) rfl rfl ?_
      exact t_e_Ways_joinWays_30 hK2 hK9  hD
def e_Ways_joinWays_2 : Nat → (Nat → Nat → Nat) → (Nat → Nat → Int32) → (Nat → Nat → Nat → Int32) → (Nat → Nat → Nat → Int64) → Int32 → Int32 → Option (Unit × (Nat → Nat → Nat) × (Nat → Nat → Int32) × (Nat → Nat → Nat → Int32) × (Nat → Nat → Nat → Int64))
  | 0, _, _, _, _, _, _ => none
  | n + 1, P, F, A, J, x1, x2 => cond (g_cnd .ge x2 x1)
    (some ((), P, F, A, J))
    (e_Ways_joinWays_9 (e_Ways_joinWays_2 n) n P F A J x1 x2 0)
set_option maxRecDepth 10000 in
theorem t_e_Ways_joinWays_2 {n : Nat}  {P : Nat → Nat → Nat} {F : Nat → Nat → Int32} {A : Nat → Nat → Nat → Int32} {J : Nat → Nat → Nat → Int64} {x1 : Int32} {x2 : Int32}  {w : Unit × (Nat → Nat → Nat) × (Nat → Nat → Int32) × (Nat → Nat → Nat → Int32) × (Nat → Nat → Nat → Int64)} : e_Ways_joinWays_2 n P F A J x1 x2 = some w → k_run t lg (d) 97 2 [(0, .ref (36 * 1024 + 1)), (1, .int x1), (2, .int x2)] [] (c_h c B P F A J) (none, c_h c B w.2.1 w.2.2.1 w.2.2.2.1 w.2.2.2.2) := by
  induction n generalizing P F A J x1 x2 w with
  | zero => intro hD; cases hD
  | succ n ih =>
    intro hD
    have hK2 : ∀ (P : Nat → Nat → Nat) (F : Nat → Nat → Int32) (A : Nat → Nat → Nat → Int32) (J : Nat → Nat → Nat → Int64) (x1 : Int32) (x2 : Int32) (w : Unit × (Nat → Nat → Nat) × (Nat → Nat → Int32) × (Nat → Nat → Nat → Int32) × (Nat → Nat → Nat → Int64)), e_Ways_joinWays_2 n P F A J x1 x2 = some w → k_run t lg (d) 97 2 [(0, .ref (36 * 1024 + 1)), (1, .int x1), (2, .int x2)] [] (c_h c B P F A J) (none, c_h c B w.2.1 w.2.2.1 w.2.2.2.1 w.2.2.2.2) := fun _ _ _ _ _ _ _  h => ih  h
    unfold e_Ways_joinWays_2 at hD
    refine k_runB (pc' := 4) (loc' := [(0, .ref (36 * 1024 + 1)), (1, .int x1), (2, .int x2)]) (st' := [.int x1, .int x2]) 2 rfl ?_
    refine k_ic rfl (fun c4_0 => ?_) (fun c4_0 => ?_)
    · rw [c4_0, cond_true] at hD
      cases hD
      exact k_vret rfl rfl
    · rw [c4_0, cond_false] at hD
      refine k_runB (pc' := 9) (loc' := [(0, .ref (36 * 1024 + 1)), (1, .int x1), (2, .int x2), (3, .int 0)]) (st' := []) 2 rfl ?_
      refine k_wk [0, 1, 2, 3] (loc' := [(0, .ref (36 * 1024 + 1)), (1, .int x1), (2, .int x2), (3, .int 0)]) rfl rfl ?_
      exact t_e_Ways_joinWays_9 hK2  hD
/-- SleepWork$Ways.joinWays(I)V  -/
def e_Ways_joinWays (n : Nat) (P : Nat → Nat → Nat) (F : Nat → Nat → Int32) (A : Nat → Nat → Nat → Int32) (J : Nat → Nat → Nat → Int64) (x1 : Int32) : Option (Unit × (Nat → Nat → Nat) × (Nat → Nat → Int32) × (Nat → Nat → Nat → Int32) × (Nat → Nat → Nat → Int64)) :=
  e_Ways_joinWays_2 n P F A J x1 0
set_option maxRecDepth 10000 in
theorem t_e_Ways_joinWays {n : Nat} {P : Nat → Nat → Nat} {F : Nat → Nat → Int32} {A : Nat → Nat → Nat → Int32} {J : Nat → Nat → Nat → Int64} {x1 : Int32}  {w : Unit × (Nat → Nat → Nat) × (Nat → Nat → Int32) × (Nat → Nat → Nat → Int32) × (Nat → Nat → Nat → Int64)} : e_Ways_joinWays n P F A J x1 = some w → k_run t lg (d) 97 0 [(0, .ref (36 * 1024 + 1)), (1, .int x1)] [] (c_h c B P F A J) (none, c_h c B w.2.1 w.2.2.1 w.2.2.2.1 w.2.2.2.2) := by
  intro hD
  unfold e_Ways_joinWays at hD
  refine k_runB (pc' := 2) (loc' := [(0, .ref (36 * 1024 + 1)), (1, .int x1), (2, .int 0)]) (st' := []) 2 rfl ?_
  refine k_wk [0, 1, 2] (loc' := [(0, .ref (36 * 1024 + 1)), (1, .int x1), (2, .int 0)]) rfl rfl ?_
  exact t_e_Ways_joinWays_2   hD
def e_Ways_between_27 (n : Nat) (P : Nat → Nat → Nat) (F : Nat → Nat → Int32) (A : Nat → Nat → Nat → Int32) (J : Nat → Nat → Nat → Int64) (x3 : Int32) (x4 : Int32) : Option (Int32 × (Nat → Nat → Nat) × (Nat → Nat → Int32) × (Nat → Nat → Nat → Int32) × (Nat → Nat → Nat → Int64)) :=
    (m_ld (A 36 2) 64 ((x3 * 8) + x4)).bind fun v14 =>
    some (v14, P, F, A, J)
set_option maxRecDepth 10000 in
theorem t_e_Ways_between_27 (ht : ∀ ci k, t.1 ci k = k_ty ci k) {n : Nat}  {P : Nat → Nat → Nat} {F : Nat → Nat → Int32} {A : Nat → Nat → Nat → Int32} {J : Nat → Nat → Nat → Int64} {x3 : Int32} {x4 : Int32}  {w : Int32 × (Nat → Nat → Nat) × (Nat → Nat → Int32) × (Nat → Nat → Nat → Int32) × (Nat → Nat → Nat → Int64)} : e_Ways_between_27 n P F A J x3 x4 = some w → k_run t lg (d + 2) 95 27 [(0, .ref (36 * 1024 + 1)), (3, .int x3), (4, .int x4)] [] (c_h c B P F A J) (some (.int w.1), c_h c B w.2.1 w.2.2.1 w.2.2.2.1 w.2.2.2.2) := by
  intro hD
  unfold e_Ways_between_27 at hD
  refine k_runB (pc' := 28) (loc' := [(0, .ref (36 * 1024 + 1)), (3, .int x3), (4, .int x4)]) (st' := [.ref (36 * 1024 + 1)]) 1 rfl ?_
  refine k_gf 36 1 (K := 10) rfl rfl rfl rfl rfl ?_
  refine k_runB (pc' := 38) (loc' := [(0, .ref (36 * 1024 + 1)), (3, .int x3), (4, .int x4)]) (st' := [.int ((x3 * 8) + x4), .ref (36 * 1024 + 2)]) 5 rfl ?_
  obtain ⟨v14, hv14, hD⟩ := Option.bind_eq_some_iff.mp hD
  refine k_ldI rfl (c_get (r := 36) (o := 2) (K := 10) rfl (by decide)) hv14 ?_
  cases hD
  exact k_iret rfl rfl
/-- SleepWork$Ways.between(LSleepWork$House;III)I  -/
def e_Ways_between (n : Nat) (P : Nat → Nat → Nat) (F : Nat → Nat → Int32) (A : Nat → Nat → Nat → Int32) (J : Nat → Nat → Nat → Int64) (r1 : Nat) (x2 : Int32) (x3 : Int32) (x4 : Int32) : Option (Int32 × (Nat → Nat → Nat) × (Nat → Nat → Int32) × (Nat → Nat → Nat → Int32) × (Nat → Nat → Nat → Int64)) :=
  cond (g_cnd .eq x2 (F 36 101))
  (e_Ways_between_27 n P F A J x3 x4)
  ((e_Ways_takeDoors n P F A J r1 x2).bind fun (_, P3, F4, A5, J6) =>
  (e_Ways_joinWays n P3 F4 A5 J6 (F4 r1 13)).bind fun (_, P8, F9, A10, J11) =>
  (c_pf F9 36 101 x2).bind fun F12 =>
  (m_ld (A10 36 2) 64 ((x3 * 8) + x4)).bind fun v13 =>
  some (v13, P8, F12, A10, J11))
set_option maxRecDepth 10000 in
theorem t_e_Ways_between (ht : ∀ ci k, t.1 ci k = k_ty ci k) {n : Nat} {P : Nat → Nat → Nat} {F : Nat → Nat → Int32} {A : Nat → Nat → Nat → Int32} {J : Nat → Nat → Nat → Int64} {r1 : Nat} {x2 : Int32} {x3 : Int32} {x4 : Int32} (hr1 : c_kind r1 = 6) {w : Int32 × (Nat → Nat → Nat) × (Nat → Nat → Int32) × (Nat → Nat → Nat → Int32) × (Nat → Nat → Nat → Int64)} : e_Ways_between n P F A J r1 x2 x3 x4 = some w → k_run t lg (d + 2) 95 0 [(0, .ref (36 * 1024 + 1)), (1, .ref (r1 * 1024)), (2, .int x2), (3, .int x3), (4, .int x4)] [] (c_h c B P F A J) (some (.int w.1), c_h c B w.2.1 w.2.2.1 w.2.2.2.1 w.2.2.2.2) := by
  intro hD
  unfold e_Ways_between at hD
  refine k_runB (pc' := 2) (loc' := [(0, .ref (36 * 1024 + 1)), (1, .ref (r1 * 1024)), (2, .int x2), (3, .int x3), (4, .int x4)]) (st' := [.ref (36 * 1024 + 1), .int x2]) 2 rfl ?_
  refine k_gf 36 1 (K := 10) rfl rfl rfl rfl rfl ?_
  refine k_ic rfl (fun c5_0 => ?_) (fun c5_0 => ?_)
  · rw [c5_0, cond_true] at hD
    refine k_wk [0, 3, 4] (loc' := [(0, .ref (36 * 1024 + 1)), (3, .int x3), (4, .int x4)]) rfl rfl ?_
    exact t_e_Ways_between_27 ht   hD
  · rw [c5_0, cond_false] at hD
    refine k_runB (pc' := 11) (loc' := [(0, .ref (36 * 1024 + 1)), (1, .ref (r1 * 1024)), (2, .int x2), (3, .int x3), (4, .int x4)]) (st' := [.int x2, .ref (r1 * 1024), .ref (36 * 1024 + 1)]) 3 rfl ?_
    obtain ⟨⟨v2, P3, F4, A5, J6⟩, hv2, hD⟩ := Option.bind_eq_some_iff.mp hD
    dsimp only at hD
    refine k_runV rfl rfl rfl (c_get (r := 36) (o := 1) (K := 10) rfl (by decide)) rfl rfl (t_e_Ways_takeDoors (d := d) hr1 hv2) ?_
    refine k_runB (pc' := 16) (loc' := [(0, .ref (36 * 1024 + 1)), (1, .ref (r1 * 1024)), (2, .int x2), (3, .int x3), (4, .int x4)]) (st' := [.ref (r1 * 1024), .ref (36 * 1024 + 1)]) 2 rfl ?_
    refine k_gf r1 0 (K := 6) hr1 rfl rfl rfl rfl ?_
    obtain ⟨⟨v7, P8, F9, A10, J11⟩, hv7, hD⟩ := Option.bind_eq_some_iff.mp hD
    dsimp only at hD
    refine k_runV rfl rfl rfl (c_get (r := 36) (o := 1) (K := 10) rfl (by decide)) rfl rfl (t_e_Ways_joinWays (d := d + 1) hv7) ?_
    refine k_runB (pc' := 24) (loc' := [(0, .ref (36 * 1024 + 1)), (1, .ref (r1 * 1024)), (2, .int x2), (3, .int x3), (4, .int x4)]) (st' := [.int x2, .ref (36 * 1024 + 1)]) 2 rfl ?_
    obtain ⟨F12, hF12, hD⟩ := Option.bind_eq_some_iff.mp hD
    refine k_cpt 36 1 (K := 10) (key := 101) rfl rfl (ht 10 1) rfl rfl rfl hF12 ?_
    refine k_runB (pc' := 28) (loc' := [(0, .ref (36 * 1024 + 1)), (1, .ref (r1 * 1024)), (2, .int x2), (3, .int x3), (4, .int x4)]) (st' := [.ref (36 * 1024 + 1)]) 1 rfl ?_
    refine k_gf 36 1 (K := 10) rfl rfl rfl rfl rfl ?_
    refine k_runB (pc' := 38) (loc' := [(0, .ref (36 * 1024 + 1)), (1, .ref (r1 * 1024)), (2, .int x2), (3, .int x3), (4, .int x4)]) (st' := [.int ((x3 * 8) + x4), .ref (36 * 1024 + 2)]) 5 rfl ?_
    obtain ⟨v13, hv13, hD⟩ := Option.bind_eq_some_iff.mp hD
    refine k_ldI rfl (c_get (r := 36) (o := 2) (K := 10) rfl (by decide)) hv13 ?_
    cases hD
    exact k_iret rfl rfl
/-- SleepWork$Evening.minutesBetween(II)I  -/
def e_Evening_minutesBetween (n : Nat) (P : Nat → Nat → Nat) (F : Nat → Nat → Int32) (A : Nat → Nat → Nat → Int32) (J : Nat → Nat → Nat → Int64) (x1 : Int32) (x2 : Int32) : Option (Int32 × (Nat → Nat → Nat) × (Nat → Nat → Int32) × (Nat → Nat → Nat → Int32) × (Nat → Nat → Nat → Int64)) :=
  (c_chk 6 (P 32 4)).bind fun q1 =>
  (e_Ways_between n P F A J q1 (F 2 7) x1 x2).bind fun (v2, P3, F4, A5, J6) =>
  some (v2, P3, F4, A5, J6)
set_option maxRecDepth 10000 in
theorem t_e_Evening_minutesBetween (ht : ∀ ci k, t.1 ci k = k_ty ci k) {n : Nat} {P : Nat → Nat → Nat} {F : Nat → Nat → Int32} {A : Nat → Nat → Nat → Int32} {J : Nat → Nat → Nat → Int64} {x1 : Int32} {x2 : Int32}  {w : Int32 × (Nat → Nat → Nat) × (Nat → Nat → Int32) × (Nat → Nat → Nat → Int32) × (Nat → Nat → Nat → Int64)} : e_Evening_minutesBetween n P F A J x1 x2 = some w → k_run t lg (d + 3) 3 0 [(0, .ref (32 * 1024)), (1, .int x1), (2, .int x2)] [] (c_h c B P F A J) (some (.int w.1), c_h c B w.2.1 w.2.2.1 w.2.2.2.1 w.2.2.2.2) := by
  intro hD
  unfold e_Evening_minutesBetween at hD
  refine k_runB (pc' := 1) (loc' := [(0, .ref (32 * 1024)), (1, .int x1), (2, .int x2)]) (st' := [.ref (32 * 1024)]) 1 rfl ?_
  refine k_gf 32 0 (K := 7) rfl rfl rfl rfl rfl ?_
  refine k_gf 36 0 (K := 10) rfl rfl rfl rfl rfl ?_
  refine k_runB (pc' := 8) (loc' := [(0, .ref (32 * 1024)), (1, .int x1), (2, .int x2)]) (st' := [.ref (32 * 1024), .ref (36 * 1024 + 1)]) 1 rfl ?_
  obtain ⟨q1, hq1, hD⟩ := Option.bind_eq_some_iff.mp hD
  refine k_gq 32 0 (K := 7) (K2 := 6) (key := 4) rfl rfl rfl rfl rfl hq1 (fun kq1 => ?_)
  refine k_runB (pc' := 12) (loc' := [(0, .ref (32 * 1024)), (1, .int x1), (2, .int x2)]) (st' := [.ref (32 * 1024), .ref (q1 * 1024), .ref (36 * 1024 + 1)]) 1 rfl ?_
  refine k_gf 32 0 (K := 7) rfl rfl rfl rfl rfl ?_
  refine k_gf 2 0 (K := 2) rfl rfl rfl rfl rfl ?_
  refine k_runB (pc' := 20) (loc' := [(0, .ref (32 * 1024)), (1, .int x1), (2, .int x2)]) (st' := [.int x2, .int x1, .int (F 2 7), .ref (q1 * 1024), .ref (36 * 1024 + 1)]) 2 rfl ?_
  obtain ⟨⟨v2, P3, F4, A5, J6⟩, hv2, hD⟩ := Option.bind_eq_some_iff.mp hD
  dsimp only at hD
  refine k_runV rfl rfl rfl (c_get (r := 36) (o := 1) (K := 10) rfl (by decide)) rfl rfl (t_e_Ways_between (d := d) ht kq1 hv2) ?_
  cases hD
  exact k_iret rfl rfl
end MC
end Qz16
section Qz17
/-! the class's methods as functions (printed by wip/dec2.py) -/
section MC
variable {t : gT} {lg : Nat → Nat} {d : Nat} {c : Nat × Nat} {B : Nat → List gE}
def e_Sleep_getUp_145 (K2 : (Nat → Nat → Nat) → (Nat → Nat → Int32) → (Nat → Nat → Nat → Int32) → (Nat → Nat → Nat → Int64) → Int32 → Option (Unit × (Nat → Nat → Nat) × (Nat → Nat → Int32) × (Nat → Nat → Nat → Int32) × (Nat → Nat → Nat → Int64))) (n : Nat) (P : Nat → Nat → Nat) (F : Nat → Nat → Int32) (A : Nat → Nat → Nat → Int32) (J : Nat → Nat → Nat → Int64) (x1 : Int32) : Option (Unit × (Nat → Nat → Nat) × (Nat → Nat → Int32) × (Nat → Nat → Nat → Int32) × (Nat → Nat → Nat → Int64)) :=
    K2 P F A J (x1 + 1)
set_option maxRecDepth 10000 in
theorem t_e_Sleep_getUp_145 (ht : ∀ ci k, t.1 ci k = k_ty ci k) {n : Nat} {K2 : (Nat → Nat → Nat) → (Nat → Nat → Int32) → (Nat → Nat → Nat → Int32) → (Nat → Nat → Nat → Int64) → Int32 → Option (Unit × (Nat → Nat → Nat) × (Nat → Nat → Int32) × (Nat → Nat → Nat → Int32) × (Nat → Nat → Nat → Int64))} (hK2 : ∀ (P : Nat → Nat → Nat) (F : Nat → Nat → Int32) (A : Nat → Nat → Nat → Int32) (J : Nat → Nat → Nat → Int64) (x1 : Int32) (w : Unit × (Nat → Nat → Nat) × (Nat → Nat → Int32) × (Nat → Nat → Nat → Int32) × (Nat → Nat → Nat → Int64)), K2 P F A J x1 = some w → k_run t lg (d + 3) 76 2 [(0, .ref (36 * 1024)), (1, .int x1)] [] (c_h c B P F A J) (none, c_h c B w.2.1 w.2.2.1 w.2.2.2.1 w.2.2.2.2)) {P : Nat → Nat → Nat} {F : Nat → Nat → Int32} {A : Nat → Nat → Nat → Int32} {J : Nat → Nat → Nat → Int64} {x1 : Int32}  {w : Unit × (Nat → Nat → Nat) × (Nat → Nat → Int32) × (Nat → Nat → Nat → Int32) × (Nat → Nat → Nat → Int64)} : e_Sleep_getUp_145 K2 n P F A J x1 = some w → k_run t lg (d + 3) 76 145 [(0, .ref (36 * 1024)), (1, .int x1)] [] (c_h c B P F A J) (none, c_h c B w.2.1 w.2.2.1 w.2.2.2.1 w.2.2.2.2) := by
  intro hD
  unfold e_Sleep_getUp_145 at hD
  refine k_runB (pc' := 2) (loc' := [(0, .ref (36 * 1024)), (1, .int (x1 + 1))]) (st' := []) 2 rfl ?_
  refine k_wk [0, 1] (loc' := [(0, .ref (36 * 1024)), (1, .int (x1 + 1))]) rfl rfl ?_
  exact hK2 _ _ _ _ _ _  hD
def e_Sleep_getUp_2 : Nat → (Nat → Nat → Nat) → (Nat → Nat → Int32) → (Nat → Nat → Nat → Int32) → (Nat → Nat → Nat → Int64) → Int32 → Option (Unit × (Nat → Nat → Nat) × (Nat → Nat → Int32) × (Nat → Nat → Nat → Int32) × (Nat → Nat → Nat → Int64))
  | 0, _, _, _, _, _ => none
  | n + 1, P, F, A, J, x1 => (c_chk 6 (P 36 8)).bind fun q1 =>
    cond (g_cnd .ge x1 (F q1 17))
    (some ((), P, F, A, J))
    ((c_chk 2 (P 36 9)).bind fun q3 =>
    (m_ld (A q3 3) 6 x1).bind fun v4 =>
    (c_st A 36 4 6 x1 ((-1))).bind fun A5 =>
    (c_st A5 36 6 6 x1 0).bind fun A6 =>
    (c_st A6 36 7 6 x1 0).bind fun A7 =>
    (c_st A7 36 3 6 x1 1000000).bind fun A8 =>
    (c_chk 2 (P 36 9)).bind fun q9 =>
    (c_st A8 q9 7 6 x1 ((-2))).bind fun A10 =>
    cond (g_cnd .lt v4 0)
    (e_Sleep_getUp_145 (e_Sleep_getUp_2 n) n P F A10 J x1)
    ((m_rem v4 6).bind fun v12 =>
    (c_st A10 36 5 6 x1 v12).bind fun A13 =>
    (c_chk 6 (P 36 8)).bind fun q14 =>
    (m_div v4 6).bind fun v15 =>
    (m_ld (A13 q14 4) 6 v15).bind fun v16 =>
    (c_chk 6 (P 36 8)).bind fun q17 =>
    (c_chk 2 (P 36 9)).bind fun q18 =>
    (c_chk 6 (P 36 8)).bind fun q19 =>
    (m_ld (A13 q19 12) 6 x1).bind fun v20 =>
    (e_Ways_between n P F A13 J q17 (F q18 7) v20 v16).bind fun (v21, P22, F23, A24, J25) =>
    (c_st A24 36 3 6 x1 v21).bind fun A26 =>
    (m_ld (A26 36 3) 6 x1).bind fun v27 =>
    cond (g_cnd .lt v27 1000000)
    (e_Sleep_getUp_145 (e_Sleep_getUp_2 n) n P22 F23 A26 J25 x1)
    ((c_chk 2 (P22 36 9)).bind fun q29 =>
    (c_st A26 q29 7 6 x1 0).bind fun A30 =>
    (e_Sleep_getUp_2 n) P22 F23 A30 J25 (x1 + 1))))
set_option maxRecDepth 10000 in
theorem t_e_Sleep_getUp_2 (ht : ∀ ci k, t.1 ci k = k_ty ci k) {n : Nat}  {P : Nat → Nat → Nat} {F : Nat → Nat → Int32} {A : Nat → Nat → Nat → Int32} {J : Nat → Nat → Nat → Int64} {x1 : Int32}  {w : Unit × (Nat → Nat → Nat) × (Nat → Nat → Int32) × (Nat → Nat → Nat → Int32) × (Nat → Nat → Nat → Int64)} : e_Sleep_getUp_2 n P F A J x1 = some w → k_run t lg (d + 3) 76 2 [(0, .ref (36 * 1024)), (1, .int x1)] [] (c_h c B P F A J) (none, c_h c B w.2.1 w.2.2.1 w.2.2.2.1 w.2.2.2.2) := by
  induction n generalizing P F A J x1 w with
  | zero => intro hD; cases hD
  | succ n ih =>
    intro hD
    have hK2 : ∀ (P : Nat → Nat → Nat) (F : Nat → Nat → Int32) (A : Nat → Nat → Nat → Int32) (J : Nat → Nat → Nat → Int64) (x1 : Int32) (w : Unit × (Nat → Nat → Nat) × (Nat → Nat → Int32) × (Nat → Nat → Nat → Int32) × (Nat → Nat → Nat → Int64)), e_Sleep_getUp_2 n P F A J x1 = some w → k_run t lg (d + 3) 76 2 [(0, .ref (36 * 1024)), (1, .int x1)] [] (c_h c B P F A J) (none, c_h c B w.2.1 w.2.2.1 w.2.2.2.1 w.2.2.2.2) := fun _ _ _ _ _ _  h => ih  h
    unfold e_Sleep_getUp_2 at hD
    refine k_runB (pc' := 4) (loc' := [(0, .ref (36 * 1024)), (1, .int x1)]) (st' := [.ref (36 * 1024), .int x1]) 2 rfl ?_
    obtain ⟨q1, hq1, hD⟩ := Option.bind_eq_some_iff.mp hD
    refine k_gq 36 0 (K := 10) (K2 := 6) (key := 8) rfl rfl rfl rfl rfl hq1 (fun kq1 => ?_)
    refine k_gf q1 0 (K := 6) kq1 rfl rfl rfl rfl ?_
    refine k_ic rfl (fun c10_1 => ?_) (fun c10_1 => ?_)
    · rw [c10_1, cond_true] at hD
      cases hD
      exact k_vret rfl rfl
    · rw [c10_1, cond_false] at hD
      refine k_runB (pc' := 14) (loc' := [(0, .ref (36 * 1024)), (1, .int x1)]) (st' := [.ref (36 * 1024)]) 1 rfl ?_
      obtain ⟨q3, hq3, hD⟩ := Option.bind_eq_some_iff.mp hD
      refine k_gq 36 0 (K := 10) (K2 := 2) (key := 9) rfl rfl rfl rfl rfl hq3 (fun kq3 => ?_)
      refine k_gf q3 0 (K := 2) kq3 rfl rfl rfl rfl ?_
      refine k_runB (pc' := 21) (loc' := [(0, .ref (36 * 1024)), (1, .int x1)]) (st' := [.int x1, .ref (q3 * 1024 + 3)]) 1 rfl ?_
      obtain ⟨v4, hv4, hD⟩ := Option.bind_eq_some_iff.mp hD
      refine k_ldI rfl (c_get (r := q3) (o := 3) (K := 2) kq3 (by decide)) hv4 ?_
      refine k_runB (pc' := 24) (loc' := [(0, .ref (36 * 1024)), (1, .int x1), (2, .int v4)]) (st' := [.ref (36 * 1024)]) 2 rfl ?_
      refine k_gf 36 0 (K := 10) rfl rfl rfl rfl rfl ?_
      refine k_runB (pc' := 29) (loc' := [(0, .ref (36 * 1024)), (1, .int x1), (2, .int v4)]) (st' := [.int ((-1)), .int x1, .ref (36 * 1024 + 4)]) 2 rfl ?_
      obtain ⟨A5, hA5, hD⟩ := Option.bind_eq_some_iff.mp hD
      refine k_cstI 36 4 (K := 10) rfl rfl rfl rfl (fun _ => rfl) hA5 ?_
      refine k_runB (pc' := 31) (loc' := [(0, .ref (36 * 1024)), (1, .int x1), (2, .int v4)]) (st' := [.ref (36 * 1024)]) 1 rfl ?_
      refine k_gf 36 0 (K := 10) rfl rfl rfl rfl rfl ?_
      refine k_runB (pc' := 36) (loc' := [(0, .ref (36 * 1024)), (1, .int x1), (2, .int v4)]) (st' := [.int 0, .int x1, .ref (36 * 1024 + 6)]) 2 rfl ?_
      obtain ⟨A6, hA6, hD⟩ := Option.bind_eq_some_iff.mp hD
      refine k_cstI 36 6 (K := 10) rfl rfl rfl rfl (fun _ => rfl) hA6 ?_
      refine k_runB (pc' := 38) (loc' := [(0, .ref (36 * 1024)), (1, .int x1), (2, .int v4)]) (st' := [.ref (36 * 1024)]) 1 rfl ?_
      refine k_gf 36 0 (K := 10) rfl rfl rfl rfl rfl ?_
      refine k_runB (pc' := 43) (loc' := [(0, .ref (36 * 1024)), (1, .int x1), (2, .int v4)]) (st' := [.int 0, .int x1, .ref (36 * 1024 + 7)]) 2 rfl ?_
      obtain ⟨A7, hA7, hD⟩ := Option.bind_eq_some_iff.mp hD
      refine k_cstI 36 7 (K := 10) rfl rfl rfl rfl (fun _ => rfl) hA7 ?_
      refine k_runB (pc' := 45) (loc' := [(0, .ref (36 * 1024)), (1, .int x1), (2, .int v4)]) (st' := [.ref (36 * 1024)]) 1 rfl ?_
      refine k_gf 36 0 (K := 10) rfl rfl rfl rfl rfl ?_
      refine k_runB (pc' := 51) (loc' := [(0, .ref (36 * 1024)), (1, .int x1), (2, .int v4)]) (st' := [.int 1000000, .int x1, .ref (36 * 1024 + 3)]) 2 rfl ?_
      obtain ⟨A8, hA8, hD⟩ := Option.bind_eq_some_iff.mp hD
      refine k_cstI 36 3 (K := 10) rfl rfl rfl rfl (fun _ => rfl) hA8 ?_
      refine k_runB (pc' := 53) (loc' := [(0, .ref (36 * 1024)), (1, .int x1), (2, .int v4)]) (st' := [.ref (36 * 1024)]) 1 rfl ?_
      obtain ⟨q9, hq9, hD⟩ := Option.bind_eq_some_iff.mp hD
      refine k_gq 36 0 (K := 10) (K2 := 2) (key := 9) rfl rfl rfl rfl rfl hq9 (fun kq9 => ?_)
      refine k_gf q9 0 (K := 2) kq9 rfl rfl rfl rfl ?_
      refine k_runB (pc' := 62) (loc' := [(0, .ref (36 * 1024)), (1, .int x1), (2, .int v4)]) (st' := [.int ((-2)), .int x1, .ref (q9 * 1024 + 7)]) 2 rfl ?_
      obtain ⟨A10, hA10, hD⟩ := Option.bind_eq_some_iff.mp hD
      refine k_cstI q9 7 (K := 2) kq9 rfl rfl rfl (fun _ => rfl) hA10 ?_
      refine k_runB (pc' := 64) (loc' := [(0, .ref (36 * 1024)), (1, .int x1), (2, .int v4)]) (st' := [.int v4]) 1 rfl ?_
      refine k_if rfl (fun c64_10 => ?_) (fun c64_10 => ?_)
      · rw [c64_10, cond_true] at hD
        refine k_wk [0, 1] (loc' := [(0, .ref (36 * 1024)), (1, .int x1)]) rfl rfl ?_
        exact t_e_Sleep_getUp_145 ht hK2  hD
      · rw [c64_10, cond_false] at hD
        refine k_runB (pc' := 68) (loc' := [(0, .ref (36 * 1024)), (1, .int x1), (2, .int v4)]) (st' := [.ref (36 * 1024)]) 1 rfl ?_
        refine k_gf 36 0 (K := 10) rfl rfl rfl rfl rfl ?_
        refine k_runB (pc' := 75) (loc' := [(0, .ref (36 * 1024)), (1, .int x1), (2, .int v4)]) (st' := [.int 6, .int v4, .int x1, .ref (36 * 1024 + 5)]) 3 rfl ?_
        obtain ⟨v12, hv12, hD⟩ := Option.bind_eq_some_iff.mp hD
        refine k_rmI rfl hv12 ?_
        obtain ⟨A13, hA13, hD⟩ := Option.bind_eq_some_iff.mp hD
        refine k_cstI 36 5 (K := 10) rfl rfl rfl rfl (fun _ => rfl) hA13 ?_
        refine k_runB (pc' := 78) (loc' := [(0, .ref (36 * 1024)), (1, .int x1), (2, .int v4)]) (st' := [.ref (36 * 1024)]) 1 rfl ?_
        obtain ⟨q14, hq14, hD⟩ := Option.bind_eq_some_iff.mp hD
        refine k_gq 36 0 (K := 10) (K2 := 6) (key := 8) rfl rfl rfl rfl rfl hq14 (fun kq14 => ?_)
        refine k_gf q14 0 (K := 6) kq14 rfl rfl rfl rfl ?_
        refine k_runB (pc' := 87) (loc' := [(0, .ref (36 * 1024)), (1, .int x1), (2, .int v4)]) (st' := [.int 6, .int v4, .ref (q14 * 1024 + 4)]) 2 rfl ?_
        obtain ⟨v15, hv15, hD⟩ := Option.bind_eq_some_iff.mp hD
        refine k_dvI rfl hv15 ?_
        obtain ⟨v16, hv16, hD⟩ := Option.bind_eq_some_iff.mp hD
        refine k_ldI rfl (c_get (r := q14) (o := 4) (K := 6) kq14 (by decide)) hv16 ?_
        refine k_runB (pc' := 91) (loc' := [(0, .ref (36 * 1024)), (1, .int x1), (2, .int v4), (3, .int v16)]) (st' := [.ref (36 * 1024)]) 2 rfl ?_
        refine k_gf 36 0 (K := 10) rfl rfl rfl rfl rfl ?_
        refine k_runB (pc' := 96) (loc' := [(0, .ref (36 * 1024)), (1, .int x1), (2, .int v4), (3, .int v16)]) (st' := [.ref (36 * 1024), .int x1, .ref (36 * 1024 + 3)]) 2 rfl ?_
        refine k_gf 36 0 (K := 10) rfl rfl rfl rfl rfl ?_
        refine k_runB (pc' := 100) (loc' := [(0, .ref (36 * 1024)), (1, .int x1), (2, .int v4), (3, .int v16)]) (st' := [.ref (36 * 1024), .ref (36 * 1024 + 1), .int x1, .ref (36 * 1024 + 3)]) 1 rfl ?_
        obtain ⟨q17, hq17, hD⟩ := Option.bind_eq_some_iff.mp hD
        refine k_gq 36 0 (K := 10) (K2 := 6) (key := 8) rfl rfl rfl rfl rfl hq17 (fun kq17 => ?_)
        refine k_runB (pc' := 104) (loc' := [(0, .ref (36 * 1024)), (1, .int x1), (2, .int v4), (3, .int v16)]) (st' := [.ref (36 * 1024), .ref (q17 * 1024), .ref (36 * 1024 + 1), .int x1, .ref (36 * 1024 + 3)]) 1 rfl ?_
        obtain ⟨q18, hq18, hD⟩ := Option.bind_eq_some_iff.mp hD
        refine k_gq 36 0 (K := 10) (K2 := 2) (key := 9) rfl rfl rfl rfl rfl hq18 (fun kq18 => ?_)
        refine k_gf q18 0 (K := 2) kq18 rfl rfl rfl rfl ?_
        refine k_runB (pc' := 111) (loc' := [(0, .ref (36 * 1024)), (1, .int x1), (2, .int v4), (3, .int v16)]) (st' := [.ref (36 * 1024), .int (F q18 7), .ref (q17 * 1024), .ref (36 * 1024 + 1), .int x1, .ref (36 * 1024 + 3)]) 1 rfl ?_
        obtain ⟨q19, hq19, hD⟩ := Option.bind_eq_some_iff.mp hD
        refine k_gq 36 0 (K := 10) (K2 := 6) (key := 8) rfl rfl rfl rfl rfl hq19 (fun kq19 => ?_)
        refine k_gf q19 0 (K := 6) kq19 rfl rfl rfl rfl ?_
        refine k_runB (pc' := 118) (loc' := [(0, .ref (36 * 1024)), (1, .int x1), (2, .int v4), (3, .int v16)]) (st' := [.int x1, .ref (q19 * 1024 + 12), .int (F q18 7), .ref (q17 * 1024), .ref (36 * 1024 + 1), .int x1, .ref (36 * 1024 + 3)]) 1 rfl ?_
        obtain ⟨v20, hv20, hD⟩ := Option.bind_eq_some_iff.mp hD
        refine k_ldI rfl (c_get (r := q19) (o := 12) (K := 6) kq19 (by decide)) hv20 ?_
        refine k_runB (pc' := 120) (loc' := [(0, .ref (36 * 1024)), (1, .int x1), (2, .int v4), (3, .int v16)]) (st' := [.int v16, .int v20, .int (F q18 7), .ref (q17 * 1024), .ref (36 * 1024 + 1), .int x1, .ref (36 * 1024 + 3)]) 1 rfl ?_
        obtain ⟨⟨v21, P22, F23, A24, J25⟩, hv21, hD⟩ := Option.bind_eq_some_iff.mp hD
        dsimp only at hD
        refine k_runV rfl rfl rfl (c_get (r := 36) (o := 1) (K := 10) rfl (by decide)) rfl rfl (t_e_Ways_between (d := d) ht kq17 hv21) ?_
        obtain ⟨A26, hA26, hD⟩ := Option.bind_eq_some_iff.mp hD
        refine k_cstI 36 3 (K := 10) rfl rfl rfl rfl (fun _ => rfl) hA26 ?_
        refine k_runB (pc' := 125) (loc' := [(0, .ref (36 * 1024)), (1, .int x1), (2, .int v4), (3, .int v16)]) (st' := [.ref (36 * 1024)]) 1 rfl ?_
        refine k_gf 36 0 (K := 10) rfl rfl rfl rfl rfl ?_
        refine k_runB (pc' := 129) (loc' := [(0, .ref (36 * 1024)), (1, .int x1), (2, .int v4), (3, .int v16)]) (st' := [.int x1, .ref (36 * 1024 + 3)]) 1 rfl ?_
        obtain ⟨v27, hv27, hD⟩ := Option.bind_eq_some_iff.mp hD
        refine k_ldI rfl (c_get (r := 36) (o := 3) (K := 10) rfl (by decide)) hv27 ?_
        refine k_runB (pc' := 132) (loc' := [(0, .ref (36 * 1024)), (1, .int x1), (2, .int v4), (3, .int v16)]) (st' := [.int 1000000, .int v27]) 1 rfl ?_
        refine k_ic rfl (fun c132_27 => ?_) (fun c132_27 => ?_)
        · rw [c132_27, cond_true] at hD
          refine k_wk [0, 1] (loc' := [(0, .ref (36 * 1024)), (1, .int x1)]) rfl rfl ?_
          exact t_e_Sleep_getUp_145 ht hK2  hD
        · rw [c132_27, cond_false] at hD
          refine k_runB (pc' := 136) (loc' := [(0, .ref (36 * 1024)), (1, .int x1), (2, .int v4), (3, .int v16)]) (st' := [.ref (36 * 1024)]) 1 rfl ?_
          obtain ⟨q29, hq29, hD⟩ := Option.bind_eq_some_iff.mp hD
          refine k_gq 36 0 (K := 10) (K2 := 2) (key := 9) rfl rfl rfl rfl rfl hq29 (fun kq29 => ?_)
          refine k_gf q29 0 (K := 2) kq29 rfl rfl rfl rfl ?_
          refine k_runB (pc' := 144) (loc' := [(0, .ref (36 * 1024)), (1, .int x1), (2, .int v4), (3, .int v16)]) (st' := [.int 0, .int x1, .ref (q29 * 1024 + 7)]) 2 rfl ?_
          obtain ⟨A30, hA30, hD⟩ := Option.bind_eq_some_iff.mp hD
          refine k_cstI q29 7 (K := 2) kq29 rfl rfl rfl (fun _ => rfl) hA30 ?_
          refine k_runB (pc' := 2) (loc' := [(0, .ref (36 * 1024)), (1, .int (x1 + 1)), (2, .int v4), (3, .int v16)]) (st' := []) 2 rfl ?_
          refine k_wk [0, 1] (loc' := [(0, .ref (36 * 1024)), (1, .int (x1 + 1))]) rfl rfl ?_
          exact hK2 _ _ _ _ _ _  hD
/-- SleepWork$Sleep.getUp()V  -/
def e_Sleep_getUp (n : Nat) (P : Nat → Nat → Nat) (F : Nat → Nat → Int32) (A : Nat → Nat → Nat → Int32) (J : Nat → Nat → Nat → Int64) : Option (Unit × (Nat → Nat → Nat) × (Nat → Nat → Int32) × (Nat → Nat → Nat → Int32) × (Nat → Nat → Nat → Int64)) :=
  e_Sleep_getUp_2 n P F A J 0
set_option maxRecDepth 10000 in
theorem t_e_Sleep_getUp (ht : ∀ ci k, t.1 ci k = k_ty ci k) {n : Nat} {P : Nat → Nat → Nat} {F : Nat → Nat → Int32} {A : Nat → Nat → Nat → Int32} {J : Nat → Nat → Nat → Int64}   {w : Unit × (Nat → Nat → Nat) × (Nat → Nat → Int32) × (Nat → Nat → Nat → Int32) × (Nat → Nat → Nat → Int64)} : e_Sleep_getUp n P F A J = some w → k_run t lg (d + 3) 76 0 [(0, .ref (36 * 1024))] [] (c_h c B P F A J) (none, c_h c B w.2.1 w.2.2.1 w.2.2.2.1 w.2.2.2.2) := by
  intro hD
  unfold e_Sleep_getUp at hD
  refine k_runB (pc' := 2) (loc' := [(0, .ref (36 * 1024)), (1, .int 0)]) (st' := []) 2 rfl ?_
  refine k_wk [0, 1] (loc' := [(0, .ref (36 * 1024)), (1, .int 0)]) rfl rfl ?_
  exact t_e_Sleep_getUp_2 ht   hD
def e_Sleep_nextMinute_5 : Nat → (Nat → Nat → Nat) → (Nat → Nat → Int32) → (Nat → Nat → Nat → Int32) → (Nat → Nat → Nat → Int64) → Int32 → Int32 → Option (Int32 × (Nat → Nat → Nat) × (Nat → Nat → Int32) × (Nat → Nat → Nat → Int32) × (Nat → Nat → Nat → Int64))
  | 0, _, _, _, _, _, _ => none
  | n + 1, P, F, A, J, x1, x2 => (c_chk 6 (P 36 8)).bind fun q1 =>
    cond (g_cnd .ge x2 (F q1 17))
    (some (x1, P, F, A, J))
    ((m_ld (A 36 3) 6 x2).bind fun v3 =>
    (e_Sleep_nextMinute_5 n) P F A J (if v3 < x1 then v3 else x1) (x2 + 1))
set_option maxRecDepth 10000 in
theorem t_e_Sleep_nextMinute_5 {n : Nat}  {P : Nat → Nat → Nat} {F : Nat → Nat → Int32} {A : Nat → Nat → Nat → Int32} {J : Nat → Nat → Nat → Int64} {x1 : Int32} {x2 : Int32}  {w : Int32 × (Nat → Nat → Nat) × (Nat → Nat → Int32) × (Nat → Nat → Nat → Int32) × (Nat → Nat → Nat → Int64)} : e_Sleep_nextMinute_5 n P F A J x1 x2 = some w → k_run t lg (d) 77 5 [(0, .ref (36 * 1024)), (1, .int x1), (2, .int x2)] [] (c_h c B P F A J) (some (.int w.1), c_h c B w.2.1 w.2.2.1 w.2.2.2.1 w.2.2.2.2) := by
  induction n generalizing P F A J x1 x2 w with
  | zero => intro hD; cases hD
  | succ n ih =>
    intro hD
    have hK5 : ∀ (P : Nat → Nat → Nat) (F : Nat → Nat → Int32) (A : Nat → Nat → Nat → Int32) (J : Nat → Nat → Nat → Int64) (x1 : Int32) (x2 : Int32) (w : Int32 × (Nat → Nat → Nat) × (Nat → Nat → Int32) × (Nat → Nat → Nat → Int32) × (Nat → Nat → Nat → Int64)), e_Sleep_nextMinute_5 n P F A J x1 x2 = some w → k_run t lg (d) 77 5 [(0, .ref (36 * 1024)), (1, .int x1), (2, .int x2)] [] (c_h c B P F A J) (some (.int w.1), c_h c B w.2.1 w.2.2.1 w.2.2.2.1 w.2.2.2.2) := fun _ _ _ _ _ _ _  h => ih  h
    unfold e_Sleep_nextMinute_5 at hD
    refine k_runB (pc' := 7) (loc' := [(0, .ref (36 * 1024)), (1, .int x1), (2, .int x2)]) (st' := [.ref (36 * 1024), .int x2]) 2 rfl ?_
    obtain ⟨q1, hq1, hD⟩ := Option.bind_eq_some_iff.mp hD
    refine k_gq 36 0 (K := 10) (K2 := 6) (key := 8) rfl rfl rfl rfl rfl hq1 (fun kq1 => ?_)
    refine k_gf q1 0 (K := 6) kq1 rfl rfl rfl rfl ?_
    refine k_ic rfl (fun c13_1 => ?_) (fun c13_1 => ?_)
    · rw [c13_1, cond_true] at hD
      refine k_runB (pc' := 34) (loc' := [(0, .ref (36 * 1024)), (1, .int x1), (2, .int x2)]) (st' := [.int x1]) 1 rfl ?_
      cases hD
      exact k_iret rfl rfl
    · rw [c13_1, cond_false] at hD
      refine k_runB (pc' := 18) (loc' := [(0, .ref (36 * 1024)), (1, .int x1), (2, .int x2)]) (st' := [.ref (36 * 1024), .int x1]) 2 rfl ?_
      refine k_gf 36 0 (K := 10) rfl rfl rfl rfl rfl ?_
      refine k_runB (pc' := 22) (loc' := [(0, .ref (36 * 1024)), (1, .int x1), (2, .int x2)]) (st' := [.int x2, .ref (36 * 1024 + 3), .int x1]) 1 rfl ?_
      obtain ⟨v3, hv3, hD⟩ := Option.bind_eq_some_iff.mp hD
      refine k_ldI rfl (c_get (r := 36) (o := 3) (K := 10) rfl (by decide)) hv3 ?_
      refine k_runB (pc' := 5) (loc' := [(0, .ref (36 * 1024)), (1, .int (if v3 < x1 then v3 else x1)), (2, .int (x2 + 1))]) (st' := []) 4 rfl ?_
      refine k_wk [0, 1, 2] (loc' := [(0, .ref (36 * 1024)), (1, .int (if v3 < x1 then v3 else x1)), (2, .int (x2 + 1))]) rfl rfl ?_
      exact hK5 _ _ _ _ _ _ _  hD
/-- SleepWork$Sleep.nextMinute()I  -/
def e_Sleep_nextMinute (n : Nat) (P : Nat → Nat → Nat) (F : Nat → Nat → Int32) (A : Nat → Nat → Nat → Int32) (J : Nat → Nat → Nat → Int64) : Option (Int32 × (Nat → Nat → Nat) × (Nat → Nat → Int32) × (Nat → Nat → Nat → Int32) × (Nat → Nat → Nat → Int64)) :=
  e_Sleep_nextMinute_5 n P F A J 1000000 0
set_option maxRecDepth 10000 in
theorem t_e_Sleep_nextMinute {n : Nat} {P : Nat → Nat → Nat} {F : Nat → Nat → Int32} {A : Nat → Nat → Nat → Int32} {J : Nat → Nat → Nat → Int64}   {w : Int32 × (Nat → Nat → Nat) × (Nat → Nat → Int32) × (Nat → Nat → Nat → Int32) × (Nat → Nat → Nat → Int64)} : e_Sleep_nextMinute n P F A J = some w → k_run t lg (d) 77 0 [(0, .ref (36 * 1024))] [] (c_h c B P F A J) (some (.int w.1), c_h c B w.2.1 w.2.2.1 w.2.2.2.1 w.2.2.2.2) := by
  intro hD
  unfold e_Sleep_nextMinute at hD
  refine k_runB (pc' := 5) (loc' := [(0, .ref (36 * 1024)), (1, .int 1000000), (2, .int 0)]) (st' := []) 4 rfl ?_
  refine k_wk [0, 1, 2] (loc' := [(0, .ref (36 * 1024)), (1, .int 1000000), (2, .int 0)]) rfl rfl ?_
  exact t_e_Sleep_nextMinute_5   hD
/-- SleepWork$House.finish(LSleepWork$State;II)V  -/
def e_House_finish (P : Nat → Nat → Nat) (F : Nat → Nat → Int32) (A : Nat → Nat → Nat → Int32) (J : Nat → Nat → Nat → Int64) (r0 : Nat) (r1 : Nat) (x2 : Int32) (x3 : Int32) : Option (Unit × (Nat → Nat → Nat) × (Nat → Nat → Int32) × (Nat → Nat → Nat → Int32) × (Nat → Nat → Nat → Int64)) :=
  (m_ld (A r1 1) 36 ((x2 * 6) + x3)).bind fun v1 =>
  (c_st A r1 1 36 ((x2 * 6) + x3) (v1 + 1)).bind fun A2 =>
  (m_ld (A2 r0 11) 36 ((x2 * 6) + x3)).bind fun v3 =>
  cond (g_cnd .lt v3 0)
  (some ((), P, F, A2, J))
  ((m_ld (A2 r1 1) 36 ((x2 * 6) + v3)).bind fun v5 =>
  cond (g_cnd .le v5 0)
  (some ((), P, F, A2, J))
  ((m_ld (A2 r1 1) 36 ((x2 * 6) + v3)).bind fun v7 =>
  (c_st A2 r1 1 36 ((x2 * 6) + v3) (v7 - 1)).bind fun A8 =>
  some ((), P, F, A8, J)))
set_option maxRecDepth 10000 in
theorem t_e_House_finish {P : Nat → Nat → Nat} {F : Nat → Nat → Int32} {A : Nat → Nat → Nat → Int32} {J : Nat → Nat → Nat → Int64} {r0 : Nat} {r1 : Nat} {x2 : Int32} {x3 : Int32} (hr0 : c_kind r0 = 6) (hr1 : c_kind r1 = 2) {w : Unit × (Nat → Nat → Nat) × (Nat → Nat → Int32) × (Nat → Nat → Nat → Int32) × (Nat → Nat → Nat → Int64)} : e_House_finish P F A J r0 r1 x2 x3 = some w → k_run t lg (d) 28 0 [(0, .ref (r0 * 1024)), (1, .ref (r1 * 1024)), (2, .int x2), (3, .int x3)] [] (c_h c B P F A J) (none, c_h c B w.2.1 w.2.2.1 w.2.2.2.1 w.2.2.2.2) := by
  intro hD
  unfold e_House_finish at hD
  refine k_runB (pc' := 9) (loc' := [(0, .ref (r0 * 1024)), (1, .ref (r1 * 1024)), (2, .int x2), (3, .int x3), (4, .int ((x2 * 6) + x3))]) (st' := [.ref (r1 * 1024)]) 7 rfl ?_
  refine k_gf r1 0 (K := 2) hr1 rfl rfl rfl rfl ?_
  refine k_runB (pc' := 15) (loc' := [(0, .ref (r0 * 1024)), (1, .ref (r1 * 1024)), (2, .int x2), (3, .int x3), (4, .int ((x2 * 6) + x3))]) (st' := [.int ((x2 * 6) + x3), .ref (r1 * 1024 + 1), .int ((x2 * 6) + x3), .ref (r1 * 1024 + 1)]) 2 rfl ?_
  obtain ⟨v1, hv1, hD⟩ := Option.bind_eq_some_iff.mp hD
  refine k_ldI rfl (c_get (r := r1) (o := 1) (K := 2) hr1 (by decide)) hv1 ?_
  refine k_runB (pc' := 18) (loc' := [(0, .ref (r0 * 1024)), (1, .ref (r1 * 1024)), (2, .int x2), (3, .int x3), (4, .int ((x2 * 6) + x3))]) (st' := [.int (v1 + 1), .int ((x2 * 6) + x3), .ref (r1 * 1024 + 1)]) 2 rfl ?_
  obtain ⟨A2, hA2, hD⟩ := Option.bind_eq_some_iff.mp hD
  refine k_cstI r1 1 (K := 2) hr1 rfl rfl rfl (fun _ => rfl) hA2 ?_
  refine k_runB (pc' := 20) (loc' := [(0, .ref (r0 * 1024)), (1, .ref (r1 * 1024)), (2, .int x2), (3, .int x3), (4, .int ((x2 * 6) + x3))]) (st' := [.ref (r0 * 1024)]) 1 rfl ?_
  refine k_gf r0 0 (K := 6) hr0 rfl rfl rfl rfl ?_
  refine k_runB (pc' := 25) (loc' := [(0, .ref (r0 * 1024)), (1, .ref (r1 * 1024)), (2, .int x2), (3, .int x3), (4, .int ((x2 * 6) + x3))]) (st' := [.int ((x2 * 6) + x3), .ref (r0 * 1024 + 11)]) 1 rfl ?_
  obtain ⟨v3, hv3, hD⟩ := Option.bind_eq_some_iff.mp hD
  refine k_ldI rfl (c_get (r := r0) (o := 11) (K := 6) hr0 (by decide)) hv3 ?_
  refine k_runB (pc' := 30) (loc' := [(0, .ref (r0 * 1024)), (1, .ref (r1 * 1024)), (2, .int x2), (3, .int x3), (4, .int ((x2 * 6) + x3)), (5, .int v3)]) (st' := [.int v3]) 2 rfl ?_
  refine k_if rfl (fun c30_3 => ?_) (fun c30_3 => ?_)
  · rw [c30_3, cond_true] at hD
    cases hD
    exact k_vret rfl rfl
  · rw [c30_3, cond_false] at hD
    refine k_runB (pc' := 34) (loc' := [(0, .ref (r0 * 1024)), (1, .ref (r1 * 1024)), (2, .int x2), (3, .int x3), (4, .int ((x2 * 6) + x3)), (5, .int v3)]) (st' := [.ref (r1 * 1024)]) 1 rfl ?_
    refine k_gf r1 0 (K := 2) hr1 rfl rfl rfl rfl ?_
    refine k_runB (pc' := 44) (loc' := [(0, .ref (r0 * 1024)), (1, .ref (r1 * 1024)), (2, .int x2), (3, .int x3), (4, .int ((x2 * 6) + x3)), (5, .int v3)]) (st' := [.int ((x2 * 6) + v3), .ref (r1 * 1024 + 1)]) 5 rfl ?_
    obtain ⟨v5, hv5, hD⟩ := Option.bind_eq_some_iff.mp hD
    refine k_ldI rfl (c_get (r := r1) (o := 1) (K := 2) hr1 (by decide)) hv5 ?_
    refine k_if rfl (fun c45_5 => ?_) (fun c45_5 => ?_)
    · rw [c45_5, cond_true] at hD
      cases hD
      exact k_vret rfl rfl
    · rw [c45_5, cond_false] at hD
      refine k_runB (pc' := 49) (loc' := [(0, .ref (r0 * 1024)), (1, .ref (r1 * 1024)), (2, .int x2), (3, .int x3), (4, .int ((x2 * 6) + x3)), (5, .int v3)]) (st' := [.ref (r1 * 1024)]) 1 rfl ?_
      refine k_gf r1 0 (K := 2) hr1 rfl rfl rfl rfl ?_
      refine k_runB (pc' := 60) (loc' := [(0, .ref (r0 * 1024)), (1, .ref (r1 * 1024)), (2, .int x2), (3, .int x3), (4, .int ((x2 * 6) + x3)), (5, .int v3)]) (st' := [.int ((x2 * 6) + v3), .ref (r1 * 1024 + 1), .int ((x2 * 6) + v3), .ref (r1 * 1024 + 1)]) 6 rfl ?_
      obtain ⟨v7, hv7, hD⟩ := Option.bind_eq_some_iff.mp hD
      refine k_ldI rfl (c_get (r := r1) (o := 1) (K := 2) hr1 (by decide)) hv7 ?_
      refine k_runB (pc' := 63) (loc' := [(0, .ref (r0 * 1024)), (1, .ref (r1 * 1024)), (2, .int x2), (3, .int x3), (4, .int ((x2 * 6) + x3)), (5, .int v3)]) (st' := [.int (v7 - 1), .int ((x2 * 6) + v3), .ref (r1 * 1024 + 1)]) 2 rfl ?_
      obtain ⟨A8, hA8, hD⟩ := Option.bind_eq_some_iff.mp hD
      refine k_cstI r1 1 (K := 2) hr1 rfl rfl rfl (fun _ => rfl) hA8 ?_
      cases hD
      exact k_vret rfl rfl
def e_Sleep_finishAll_122 (K2 : (Nat → Nat → Nat) → (Nat → Nat → Int32) → (Nat → Nat → Nat → Int32) → (Nat → Nat → Nat → Int64) → Int32 → Int32 → Option (Unit × (Nat → Nat → Nat) × (Nat → Nat → Int32) × (Nat → Nat → Nat → Int32) × (Nat → Nat → Nat → Int64))) (n : Nat) (P : Nat → Nat → Nat) (F : Nat → Nat → Int32) (A : Nat → Nat → Nat → Int32) (J : Nat → Nat → Nat → Int64) (x1 : Int32) (x2 : Int32) : Option (Unit × (Nat → Nat → Nat) × (Nat → Nat → Int32) × (Nat → Nat → Nat → Int32) × (Nat → Nat → Nat → Int64)) :=
    K2 P F A J x1 (x2 + 1)
set_option maxRecDepth 10000 in
theorem t_e_Sleep_finishAll_122 {n : Nat} {K2 : (Nat → Nat → Nat) → (Nat → Nat → Int32) → (Nat → Nat → Nat → Int32) → (Nat → Nat → Nat → Int64) → Int32 → Int32 → Option (Unit × (Nat → Nat → Nat) × (Nat → Nat → Int32) × (Nat → Nat → Nat → Int32) × (Nat → Nat → Nat → Int64))} (hK2 : ∀ (P : Nat → Nat → Nat) (F : Nat → Nat → Int32) (A : Nat → Nat → Nat → Int32) (J : Nat → Nat → Nat → Int64) (x1 : Int32) (x2 : Int32) (w : Unit × (Nat → Nat → Nat) × (Nat → Nat → Int32) × (Nat → Nat → Nat → Int32) × (Nat → Nat → Nat → Int64)), K2 P F A J x1 x2 = some w → k_run t lg (d + 1) 78 2 [(0, .ref (36 * 1024)), (1, .int x1), (2, .int x2)] [] (c_h c B P F A J) (none, c_h c B w.2.1 w.2.2.1 w.2.2.2.1 w.2.2.2.2)) {P : Nat → Nat → Nat} {F : Nat → Nat → Int32} {A : Nat → Nat → Nat → Int32} {J : Nat → Nat → Nat → Int64} {x1 : Int32} {x2 : Int32}  {w : Unit × (Nat → Nat → Nat) × (Nat → Nat → Int32) × (Nat → Nat → Nat → Int32) × (Nat → Nat → Nat → Int64)} : e_Sleep_finishAll_122 K2 n P F A J x1 x2 = some w → k_run t lg (d + 1) 78 122 [(0, .ref (36 * 1024)), (1, .int x1), (2, .int x2)] [] (c_h c B P F A J) (none, c_h c B w.2.1 w.2.2.1 w.2.2.2.1 w.2.2.2.2) := by
  intro hD
  unfold e_Sleep_finishAll_122 at hD
  refine k_runB (pc' := 2) (loc' := [(0, .ref (36 * 1024)), (1, .int x1), (2, .int (x2 + 1))]) (st' := []) 2 rfl ?_
  refine k_wk [0, 1, 2] (loc' := [(0, .ref (36 * 1024)), (1, .int x1), (2, .int (x2 + 1))]) rfl rfl ?_
  exact hK2 _ _ _ _ _ _ _  hD
def e_Sleep_finishAll_97 (K2 : (Nat → Nat → Nat) → (Nat → Nat → Int32) → (Nat → Nat → Nat → Int32) → (Nat → Nat → Nat → Int64) → Int32 → Int32 → Option (Unit × (Nat → Nat → Nat) × (Nat → Nat → Int32) × (Nat → Nat → Nat → Int32) × (Nat → Nat → Nat → Int64))) (n : Nat) (P : Nat → Nat → Nat) (F : Nat → Nat → Int32) (A : Nat → Nat → Nat → Int32) (J : Nat → Nat → Nat → Int64) (x1 : Int32) (x2 : Int32) (x4 : Int32) : Option (Unit × (Nat → Nat → Nat) × (Nat → Nat → Int32) × (Nat → Nat → Nat → Int32) × (Nat → Nat → Nat → Int64)) :=
    (c_st A 36 5 6 x2 x4).bind fun A26 =>
    (m_ld (A26 36 6) 6 x2).bind fun v27 =>
    (c_st A26 36 6 6 x2 (v27 + 1)).bind fun A28 =>
    (c_st A28 36 4 6 x2 ((-1))).bind fun A29 =>
    K2 P F A29 J x1 (x2 + 1)
set_option maxRecDepth 10000 in
theorem t_e_Sleep_finishAll_97 {n : Nat} {K2 : (Nat → Nat → Nat) → (Nat → Nat → Int32) → (Nat → Nat → Nat → Int32) → (Nat → Nat → Nat → Int64) → Int32 → Int32 → Option (Unit × (Nat → Nat → Nat) × (Nat → Nat → Int32) × (Nat → Nat → Nat → Int32) × (Nat → Nat → Nat → Int64))} (hK2 : ∀ (P : Nat → Nat → Nat) (F : Nat → Nat → Int32) (A : Nat → Nat → Nat → Int32) (J : Nat → Nat → Nat → Int64) (x1 : Int32) (x2 : Int32) (w : Unit × (Nat → Nat → Nat) × (Nat → Nat → Int32) × (Nat → Nat → Nat → Int32) × (Nat → Nat → Nat → Int64)), K2 P F A J x1 x2 = some w → k_run t lg (d + 1) 78 2 [(0, .ref (36 * 1024)), (1, .int x1), (2, .int x2)] [] (c_h c B P F A J) (none, c_h c B w.2.1 w.2.2.1 w.2.2.2.1 w.2.2.2.2)) {P : Nat → Nat → Nat} {F : Nat → Nat → Int32} {A : Nat → Nat → Nat → Int32} {J : Nat → Nat → Nat → Int64} {x1 : Int32} {x2 : Int32} {x4 : Int32}  {w : Unit × (Nat → Nat → Nat) × (Nat → Nat → Int32) × (Nat → Nat → Nat → Int32) × (Nat → Nat → Nat → Int64)} : e_Sleep_finishAll_97 K2 n P F A J x1 x2 x4 = some w → k_run t lg (d + 1) 78 97 [(0, .ref (36 * 1024)), (1, .int x1), (2, .int x2), (4, .int x4)] [] (c_h c B P F A J) (none, c_h c B w.2.1 w.2.2.1 w.2.2.2.1 w.2.2.2.2) := by
  intro hD
  unfold e_Sleep_finishAll_97 at hD
  refine k_runB (pc' := 98) (loc' := [(0, .ref (36 * 1024)), (1, .int x1), (2, .int x2), (4, .int x4)]) (st' := [.ref (36 * 1024)]) 1 rfl ?_
  refine k_gf 36 0 (K := 10) rfl rfl rfl rfl rfl ?_
  refine k_runB (pc' := 104) (loc' := [(0, .ref (36 * 1024)), (1, .int x1), (2, .int x2), (4, .int x4)]) (st' := [.int x4, .int x2, .ref (36 * 1024 + 5)]) 2 rfl ?_
  obtain ⟨A26, hA26, hD⟩ := Option.bind_eq_some_iff.mp hD
  refine k_cstI 36 5 (K := 10) rfl rfl rfl rfl (fun _ => rfl) hA26 ?_
  refine k_runB (pc' := 106) (loc' := [(0, .ref (36 * 1024)), (1, .int x1), (2, .int x2), (4, .int x4)]) (st' := [.ref (36 * 1024)]) 1 rfl ?_
  refine k_gf 36 0 (K := 10) rfl rfl rfl rfl rfl ?_
  refine k_runB (pc' := 111) (loc' := [(0, .ref (36 * 1024)), (1, .int x1), (2, .int x2), (4, .int x4)]) (st' := [.int x2, .ref (36 * 1024 + 6), .int x2, .ref (36 * 1024 + 6)]) 2 rfl ?_
  obtain ⟨v27, hv27, hD⟩ := Option.bind_eq_some_iff.mp hD
  refine k_ldI rfl (c_get (r := 36) (o := 6) (K := 10) rfl (by decide)) hv27 ?_
  refine k_runB (pc' := 114) (loc' := [(0, .ref (36 * 1024)), (1, .int x1), (2, .int x2), (4, .int x4)]) (st' := [.int (v27 + 1), .int x2, .ref (36 * 1024 + 6)]) 2 rfl ?_
  obtain ⟨A28, hA28, hD⟩ := Option.bind_eq_some_iff.mp hD
  refine k_cstI 36 6 (K := 10) rfl rfl rfl rfl (fun _ => rfl) hA28 ?_
  refine k_runB (pc' := 116) (loc' := [(0, .ref (36 * 1024)), (1, .int x1), (2, .int x2), (4, .int x4)]) (st' := [.ref (36 * 1024)]) 1 rfl ?_
  refine k_gf 36 0 (K := 10) rfl rfl rfl rfl rfl ?_
  refine k_runB (pc' := 121) (loc' := [(0, .ref (36 * 1024)), (1, .int x1), (2, .int x2), (4, .int x4)]) (st' := [.int ((-1)), .int x2, .ref (36 * 1024 + 4)]) 2 rfl ?_
  obtain ⟨A29, hA29, hD⟩ := Option.bind_eq_some_iff.mp hD
  refine k_cstI 36 4 (K := 10) rfl rfl rfl rfl (fun _ => rfl) hA29 ?_
  refine k_runB (pc' := 2) (loc' := [(0, .ref (36 * 1024)), (1, .int x1), (2, .int (x2 + 1)), (4, .int x4)]) (st' := []) 2 rfl ?_
  refine k_wk [0, 1, 2] (loc' := [(0, .ref (36 * 1024)), (1, .int x1), (2, .int (x2 + 1))]) rfl rfl ?_
  exact hK2 _ _ _ _ _ _ _  hD
def e_Sleep_finishAll_2 : Nat → (Nat → Nat → Nat) → (Nat → Nat → Int32) → (Nat → Nat → Nat → Int32) → (Nat → Nat → Nat → Int64) → Int32 → Int32 → Option (Unit × (Nat → Nat → Nat) × (Nat → Nat → Int32) × (Nat → Nat → Nat → Int32) × (Nat → Nat → Nat → Int64))
  | 0, _, _, _, _, _, _ => none
  | n + 1, P, F, A, J, x1, x2 => (c_chk 6 (P 36 8)).bind fun q1 =>
    cond (g_cnd .ge x2 (F q1 17))
    (some ((), P, F, A, J))
    ((m_ld (A 36 3) 6 x2).bind fun v3 =>
    cond (g_cnd .ne v3 x1)
    (e_Sleep_finishAll_122 (e_Sleep_finishAll_2 n) n P F A J x1 x2)
    ((m_ld (A 36 4) 6 x2).bind fun v5 =>
    cond (g_cnd .lt v5 0)
    (e_Sleep_finishAll_122 (e_Sleep_finishAll_2 n) n P F A J x1 x2)
    ((c_chk 2 (P 36 9)).bind fun q7 =>
    (m_ld (A q7 3) 6 x2).bind fun v8 =>
    (m_div v8 6).bind fun v9 =>
    (m_ld (A 36 4) 6 x2).bind fun v10 =>
    (c_chk 6 (P 36 8)).bind fun q11 =>
    (c_chk 2 (P 36 9)).bind fun q12 =>
    (e_House_finish P F A J q11 q12 v9 v10).bind fun (_, P14, F15, A16, J17) =>
    (c_chk 6 (P14 36 8)).bind fun q18 =>
    (m_ld (A16 q18 10) 36 ((v9 * 6) + v10)).bind fun v19 =>
    cond (g_cnd .lt v19 0)
    (e_Sleep_finishAll_97 (e_Sleep_finishAll_2 n) n P14 F15 A16 J17 x1 x2 v10)
    ((c_st A16 36 8 6 v19 0).bind fun A21 =>
    (c_st A21 36 5 6 x2 v10).bind fun A22 =>
    (m_ld (A22 36 6) 6 x2).bind fun v23 =>
    (c_st A22 36 6 6 x2 (v23 + 1)).bind fun A24 =>
    (c_st A24 36 4 6 x2 ((-1))).bind fun A25 =>
    (e_Sleep_finishAll_2 n) P14 F15 A25 J17 x1 (x2 + 1)))))
set_option maxRecDepth 10000 in
theorem t_e_Sleep_finishAll_2 {n : Nat}  {P : Nat → Nat → Nat} {F : Nat → Nat → Int32} {A : Nat → Nat → Nat → Int32} {J : Nat → Nat → Nat → Int64} {x1 : Int32} {x2 : Int32}  {w : Unit × (Nat → Nat → Nat) × (Nat → Nat → Int32) × (Nat → Nat → Nat → Int32) × (Nat → Nat → Nat → Int64)} : e_Sleep_finishAll_2 n P F A J x1 x2 = some w → k_run t lg (d + 1) 78 2 [(0, .ref (36 * 1024)), (1, .int x1), (2, .int x2)] [] (c_h c B P F A J) (none, c_h c B w.2.1 w.2.2.1 w.2.2.2.1 w.2.2.2.2) := by
  induction n generalizing P F A J x1 x2 w with
  | zero => intro hD; cases hD
  | succ n ih =>
    intro hD
    have hK2 : ∀ (P : Nat → Nat → Nat) (F : Nat → Nat → Int32) (A : Nat → Nat → Nat → Int32) (J : Nat → Nat → Nat → Int64) (x1 : Int32) (x2 : Int32) (w : Unit × (Nat → Nat → Nat) × (Nat → Nat → Int32) × (Nat → Nat → Nat → Int32) × (Nat → Nat → Nat → Int64)), e_Sleep_finishAll_2 n P F A J x1 x2 = some w → k_run t lg (d + 1) 78 2 [(0, .ref (36 * 1024)), (1, .int x1), (2, .int x2)] [] (c_h c B P F A J) (none, c_h c B w.2.1 w.2.2.1 w.2.2.2.1 w.2.2.2.2) := fun _ _ _ _ _ _ _  h => ih  h
    unfold e_Sleep_finishAll_2 at hD
    refine k_runB (pc' := 4) (loc' := [(0, .ref (36 * 1024)), (1, .int x1), (2, .int x2)]) (st' := [.ref (36 * 1024), .int x2]) 2 rfl ?_
    obtain ⟨q1, hq1, hD⟩ := Option.bind_eq_some_iff.mp hD
    refine k_gq 36 0 (K := 10) (K2 := 6) (key := 8) rfl rfl rfl rfl rfl hq1 (fun kq1 => ?_)
    refine k_gf q1 0 (K := 6) kq1 rfl rfl rfl rfl ?_
    refine k_ic rfl (fun c10_1 => ?_) (fun c10_1 => ?_)
    · rw [c10_1, cond_true] at hD
      cases hD
      exact k_vret rfl rfl
    · rw [c10_1, cond_false] at hD
      refine k_runB (pc' := 14) (loc' := [(0, .ref (36 * 1024)), (1, .int x1), (2, .int x2)]) (st' := [.ref (36 * 1024)]) 1 rfl ?_
      refine k_gf 36 0 (K := 10) rfl rfl rfl rfl rfl ?_
      refine k_runB (pc' := 18) (loc' := [(0, .ref (36 * 1024)), (1, .int x1), (2, .int x2)]) (st' := [.int x2, .ref (36 * 1024 + 3)]) 1 rfl ?_
      obtain ⟨v3, hv3, hD⟩ := Option.bind_eq_some_iff.mp hD
      refine k_ldI rfl (c_get (r := 36) (o := 3) (K := 10) rfl (by decide)) hv3 ?_
      refine k_runB (pc' := 20) (loc' := [(0, .ref (36 * 1024)), (1, .int x1), (2, .int x2)]) (st' := [.int x1, .int v3]) 1 rfl ?_
      refine k_ic rfl (fun c20_3 => ?_) (fun c20_3 => ?_)
      · rw [c20_3, cond_true] at hD
        refine k_wk [0, 1, 2] (loc' := [(0, .ref (36 * 1024)), (1, .int x1), (2, .int x2)]) rfl rfl ?_
        exact t_e_Sleep_finishAll_122 hK2  hD
      · rw [c20_3, cond_false] at hD
        refine k_runB (pc' := 24) (loc' := [(0, .ref (36 * 1024)), (1, .int x1), (2, .int x2)]) (st' := [.ref (36 * 1024)]) 1 rfl ?_
        refine k_gf 36 0 (K := 10) rfl rfl rfl rfl rfl ?_
        refine k_runB (pc' := 28) (loc' := [(0, .ref (36 * 1024)), (1, .int x1), (2, .int x2)]) (st' := [.int x2, .ref (36 * 1024 + 4)]) 1 rfl ?_
        obtain ⟨v5, hv5, hD⟩ := Option.bind_eq_some_iff.mp hD
        refine k_ldI rfl (c_get (r := 36) (o := 4) (K := 10) rfl (by decide)) hv5 ?_
        refine k_if rfl (fun c29_5 => ?_) (fun c29_5 => ?_)
        · rw [c29_5, cond_true] at hD
          refine k_wk [0, 1, 2] (loc' := [(0, .ref (36 * 1024)), (1, .int x1), (2, .int x2)]) rfl rfl ?_
          exact t_e_Sleep_finishAll_122 hK2  hD
        · rw [c29_5, cond_false] at hD
          refine k_runB (pc' := 33) (loc' := [(0, .ref (36 * 1024)), (1, .int x1), (2, .int x2)]) (st' := [.ref (36 * 1024)]) 1 rfl ?_
          obtain ⟨q7, hq7, hD⟩ := Option.bind_eq_some_iff.mp hD
          refine k_gq 36 0 (K := 10) (K2 := 2) (key := 9) rfl rfl rfl rfl rfl hq7 (fun kq7 => ?_)
          refine k_gf q7 0 (K := 2) kq7 rfl rfl rfl rfl ?_
          refine k_runB (pc' := 40) (loc' := [(0, .ref (36 * 1024)), (1, .int x1), (2, .int x2)]) (st' := [.int x2, .ref (q7 * 1024 + 3)]) 1 rfl ?_
          obtain ⟨v8, hv8, hD⟩ := Option.bind_eq_some_iff.mp hD
          refine k_ldI rfl (c_get (r := q7) (o := 3) (K := 2) kq7 (by decide)) hv8 ?_
          refine k_runB (pc' := 43) (loc' := [(0, .ref (36 * 1024)), (1, .int x1), (2, .int x2)]) (st' := [.int 6, .int v8]) 1 rfl ?_
          obtain ⟨v9, hv9, hD⟩ := Option.bind_eq_some_iff.mp hD
          refine k_dvI rfl hv9 ?_
          refine k_runB (pc' := 46) (loc' := [(0, .ref (36 * 1024)), (1, .int x1), (2, .int x2), (3, .int v9)]) (st' := [.ref (36 * 1024)]) 2 rfl ?_
          refine k_gf 36 0 (K := 10) rfl rfl rfl rfl rfl ?_
          refine k_runB (pc' := 50) (loc' := [(0, .ref (36 * 1024)), (1, .int x1), (2, .int x2), (3, .int v9)]) (st' := [.int x2, .ref (36 * 1024 + 4)]) 1 rfl ?_
          obtain ⟨v10, hv10, hD⟩ := Option.bind_eq_some_iff.mp hD
          refine k_ldI rfl (c_get (r := 36) (o := 4) (K := 10) rfl (by decide)) hv10 ?_
          refine k_runB (pc' := 54) (loc' := [(0, .ref (36 * 1024)), (1, .int x1), (2, .int x2), (3, .int v9), (4, .int v10)]) (st' := [.ref (36 * 1024)]) 2 rfl ?_
          obtain ⟨q11, hq11, hD⟩ := Option.bind_eq_some_iff.mp hD
          refine k_gq 36 0 (K := 10) (K2 := 6) (key := 8) rfl rfl rfl rfl rfl hq11 (fun kq11 => ?_)
          refine k_runB (pc' := 58) (loc' := [(0, .ref (36 * 1024)), (1, .int x1), (2, .int x2), (3, .int v9), (4, .int v10)]) (st' := [.ref (36 * 1024), .ref (q11 * 1024)]) 1 rfl ?_
          obtain ⟨q12, hq12, hD⟩ := Option.bind_eq_some_iff.mp hD
          refine k_gq 36 0 (K := 10) (K2 := 2) (key := 9) rfl rfl rfl rfl rfl hq12 (fun kq12 => ?_)
          refine k_runB (pc' := 64) (loc' := [(0, .ref (36 * 1024)), (1, .int x1), (2, .int x2), (3, .int v9), (4, .int v10)]) (st' := [.int v10, .int v9, .ref (q12 * 1024), .ref (q11 * 1024)]) 2 rfl ?_
          obtain ⟨⟨v13, P14, F15, A16, J17⟩, hv13, hD⟩ := Option.bind_eq_some_iff.mp hD
          dsimp only at hD
          refine k_runV rfl rfl rfl (c_get (r := q11) (o := 0) (K := 6) kq11 (by decide)) rfl rfl (t_e_House_finish (d := d) kq11 kq12 hv13) ?_
          refine k_runB (pc' := 68) (loc' := [(0, .ref (36 * 1024)), (1, .int x1), (2, .int x2), (3, .int v9), (4, .int v10)]) (st' := [.ref (36 * 1024)]) 1 rfl ?_
          obtain ⟨q18, hq18, hD⟩ := Option.bind_eq_some_iff.mp hD
          refine k_gq 36 0 (K := 10) (K2 := 6) (key := 8) rfl rfl rfl rfl rfl hq18 (fun kq18 => ?_)
          refine k_gf q18 0 (K := 6) kq18 rfl rfl rfl rfl ?_
          refine k_runB (pc' := 81) (loc' := [(0, .ref (36 * 1024)), (1, .int x1), (2, .int x2), (3, .int v9), (4, .int v10)]) (st' := [.int ((v9 * 6) + v10), .ref (q18 * 1024 + 10)]) 5 rfl ?_
          obtain ⟨v19, hv19, hD⟩ := Option.bind_eq_some_iff.mp hD
          refine k_ldI rfl (c_get (r := q18) (o := 10) (K := 6) kq18 (by decide)) hv19 ?_
          refine k_runB (pc' := 86) (loc' := [(0, .ref (36 * 1024)), (1, .int x1), (2, .int x2), (3, .int v9), (4, .int v10), (5, .int v19)]) (st' := [.int v19]) 2 rfl ?_
          refine k_if rfl (fun c86_19 => ?_) (fun c86_19 => ?_)
          · rw [c86_19, cond_true] at hD
            refine k_wk [0, 1, 2, 4] (loc' := [(0, .ref (36 * 1024)), (1, .int x1), (2, .int x2), (4, .int v10)]) rfl rfl ?_
            exact t_e_Sleep_finishAll_97 hK2  hD
          · rw [c86_19, cond_false] at hD
            refine k_runB (pc' := 90) (loc' := [(0, .ref (36 * 1024)), (1, .int x1), (2, .int x2), (3, .int v9), (4, .int v10), (5, .int v19)]) (st' := [.ref (36 * 1024)]) 1 rfl ?_
            refine k_gf 36 0 (K := 10) rfl rfl rfl rfl rfl ?_
            refine k_runB (pc' := 96) (loc' := [(0, .ref (36 * 1024)), (1, .int x1), (2, .int x2), (3, .int v9), (4, .int v10), (5, .int v19)]) (st' := [.int 0, .int v19, .ref (36 * 1024 + 8)]) 2 rfl ?_
            obtain ⟨A21, hA21, hD⟩ := Option.bind_eq_some_iff.mp hD
            refine k_cstI 36 8 (K := 10) rfl rfl rfl rfl (fun _ => rfl) hA21 ?_
            refine k_runB (pc' := 98) (loc' := [(0, .ref (36 * 1024)), (1, .int x1), (2, .int x2), (3, .int v9), (4, .int v10), (5, .int v19)]) (st' := [.ref (36 * 1024)]) 1 rfl ?_
            refine k_gf 36 0 (K := 10) rfl rfl rfl rfl rfl ?_
            refine k_runB (pc' := 104) (loc' := [(0, .ref (36 * 1024)), (1, .int x1), (2, .int x2), (3, .int v9), (4, .int v10), (5, .int v19)]) (st' := [.int v10, .int x2, .ref (36 * 1024 + 5)]) 2 rfl ?_
            obtain ⟨A22, hA22, hD⟩ := Option.bind_eq_some_iff.mp hD
            refine k_cstI 36 5 (K := 10) rfl rfl rfl rfl (fun _ => rfl) hA22 ?_
            refine k_runB (pc' := 106) (loc' := [(0, .ref (36 * 1024)), (1, .int x1), (2, .int x2), (3, .int v9), (4, .int v10), (5, .int v19)]) (st' := [.ref (36 * 1024)]) 1 rfl ?_
            refine k_gf 36 0 (K := 10) rfl rfl rfl rfl rfl ?_
            refine k_runB (pc' := 111) (loc' := [(0, .ref (36 * 1024)), (1, .int x1), (2, .int x2), (3, .int v9), (4, .int v10), (5, .int v19)]) (st' := [.int x2, .ref (36 * 1024 + 6), .int x2, .ref (36 * 1024 + 6)]) 2 rfl ?_
            obtain ⟨v23, hv23, hD⟩ := Option.bind_eq_some_iff.mp hD
            refine k_ldI rfl (c_get (r := 36) (o := 6) (K := 10) rfl (by decide)) hv23 ?_
            refine k_runB (pc' := 114) (loc' := [(0, .ref (36 * 1024)), (1, .int x1), (2, .int x2), (3, .int v9), (4, .int v10), (5, .int v19)]) (st' := [.int (v23 + 1), .int x2, .ref (36 * 1024 + 6)]) 2 rfl ?_
            obtain ⟨A24, hA24, hD⟩ := Option.bind_eq_some_iff.mp hD
            refine k_cstI 36 6 (K := 10) rfl rfl rfl rfl (fun _ => rfl) hA24 ?_
            refine k_runB (pc' := 116) (loc' := [(0, .ref (36 * 1024)), (1, .int x1), (2, .int x2), (3, .int v9), (4, .int v10), (5, .int v19)]) (st' := [.ref (36 * 1024)]) 1 rfl ?_
            refine k_gf 36 0 (K := 10) rfl rfl rfl rfl rfl ?_
            refine k_runB (pc' := 121) (loc' := [(0, .ref (36 * 1024)), (1, .int x1), (2, .int x2), (3, .int v9), (4, .int v10), (5, .int v19)]) (st' := [.int ((-1)), .int x2, .ref (36 * 1024 + 4)]) 2 rfl ?_
            obtain ⟨A25, hA25, hD⟩ := Option.bind_eq_some_iff.mp hD
            refine k_cstI 36 4 (K := 10) rfl rfl rfl rfl (fun _ => rfl) hA25 ?_
            refine k_runB (pc' := 2) (loc' := [(0, .ref (36 * 1024)), (1, .int x1), (2, .int (x2 + 1)), (3, .int v9), (4, .int v10), (5, .int v19)]) (st' := []) 2 rfl ?_
            refine k_wk [0, 1, 2] (loc' := [(0, .ref (36 * 1024)), (1, .int x1), (2, .int (x2 + 1))]) rfl rfl ?_
            exact hK2 _ _ _ _ _ _ _  hD
/-- SleepWork$Sleep.finishAll(I)V  -/
def e_Sleep_finishAll (n : Nat) (P : Nat → Nat → Nat) (F : Nat → Nat → Int32) (A : Nat → Nat → Nat → Int32) (J : Nat → Nat → Nat → Int64) (x1 : Int32) : Option (Unit × (Nat → Nat → Nat) × (Nat → Nat → Int32) × (Nat → Nat → Nat → Int32) × (Nat → Nat → Nat → Int64)) :=
  e_Sleep_finishAll_2 n P F A J x1 0
set_option maxRecDepth 10000 in
theorem t_e_Sleep_finishAll {n : Nat} {P : Nat → Nat → Nat} {F : Nat → Nat → Int32} {A : Nat → Nat → Nat → Int32} {J : Nat → Nat → Nat → Int64} {x1 : Int32}  {w : Unit × (Nat → Nat → Nat) × (Nat → Nat → Int32) × (Nat → Nat → Nat → Int32) × (Nat → Nat → Nat → Int64)} : e_Sleep_finishAll n P F A J x1 = some w → k_run t lg (d + 1) 78 0 [(0, .ref (36 * 1024)), (1, .int x1)] [] (c_h c B P F A J) (none, c_h c B w.2.1 w.2.2.1 w.2.2.2.1 w.2.2.2.2) := by
  intro hD
  unfold e_Sleep_finishAll at hD
  refine k_runB (pc' := 2) (loc' := [(0, .ref (36 * 1024)), (1, .int x1), (2, .int 0)]) (st' := []) 2 rfl ?_
  refine k_wk [0, 1, 2] (loc' := [(0, .ref (36 * 1024)), (1, .int x1), (2, .int 0)]) rfl rfl ?_
  exact t_e_Sleep_finishAll_2   hD
def e_Sleep_wakeUp_99 (K2 : (Nat → Nat → Nat) → (Nat → Nat → Int32) → (Nat → Nat → Nat → Int32) → (Nat → Nat → Nat → Int64) → Int32 → Option (Unit × (Nat → Nat → Nat) × (Nat → Nat → Int32) × (Nat → Nat → Nat → Int32) × (Nat → Nat → Nat → Int64))) (n : Nat) (P : Nat → Nat → Nat) (F : Nat → Nat → Int32) (A : Nat → Nat → Nat → Int32) (J : Nat → Nat → Nat → Int64) (x1 : Int32) : Option (Unit × (Nat → Nat → Nat) × (Nat → Nat → Int32) × (Nat → Nat → Nat → Int32) × (Nat → Nat → Nat → Int64)) :=
    K2 P F A J (x1 + 1)
set_option maxRecDepth 10000 in
theorem t_e_Sleep_wakeUp_99 {n : Nat} {K2 : (Nat → Nat → Nat) → (Nat → Nat → Int32) → (Nat → Nat → Nat → Int32) → (Nat → Nat → Nat → Int64) → Int32 → Option (Unit × (Nat → Nat → Nat) × (Nat → Nat → Int32) × (Nat → Nat → Nat → Int32) × (Nat → Nat → Nat → Int64))} (hK2 : ∀ (P : Nat → Nat → Nat) (F : Nat → Nat → Int32) (A : Nat → Nat → Nat → Int32) (J : Nat → Nat → Nat → Int64) (x1 : Int32) (w : Unit × (Nat → Nat → Nat) × (Nat → Nat → Int32) × (Nat → Nat → Nat → Int32) × (Nat → Nat → Nat → Int64)), K2 P F A J x1 = some w → k_run t lg (d) 82 2 [(0, .ref (36 * 1024)), (1, .int x1)] [] (c_h c B P F A J) (none, c_h c B w.2.1 w.2.2.1 w.2.2.2.1 w.2.2.2.2)) {P : Nat → Nat → Nat} {F : Nat → Nat → Int32} {A : Nat → Nat → Nat → Int32} {J : Nat → Nat → Nat → Int64} {x1 : Int32}  {w : Unit × (Nat → Nat → Nat) × (Nat → Nat → Int32) × (Nat → Nat → Nat → Int32) × (Nat → Nat → Nat → Int64)} : e_Sleep_wakeUp_99 K2 n P F A J x1 = some w → k_run t lg (d) 82 99 [(0, .ref (36 * 1024)), (1, .int x1)] [] (c_h c B P F A J) (none, c_h c B w.2.1 w.2.2.1 w.2.2.2.1 w.2.2.2.2) := by
  intro hD
  unfold e_Sleep_wakeUp_99 at hD
  refine k_runB (pc' := 2) (loc' := [(0, .ref (36 * 1024)), (1, .int (x1 + 1))]) (st' := []) 2 rfl ?_
  refine k_wk [0, 1] (loc' := [(0, .ref (36 * 1024)), (1, .int (x1 + 1))]) rfl rfl ?_
  exact hK2 _ _ _ _ _ _  hD
def e_Sleep_wakeUp_98 (K2 : (Nat → Nat → Nat) → (Nat → Nat → Int32) → (Nat → Nat → Nat → Int32) → (Nat → Nat → Nat → Int64) → Int32 → Option (Unit × (Nat → Nat → Nat) × (Nat → Nat → Int32) × (Nat → Nat → Nat → Int32) × (Nat → Nat → Nat → Int64))) (n : Nat) (P : Nat → Nat → Nat) (F : Nat → Nat → Int32) (A : Nat → Nat → Nat → Int32) (J : Nat → Nat → Nat → Int64) (x1 : Int32) (rs0 : Nat) (s1 : Int32) (s2 : Int32) : Option (Unit × (Nat → Nat → Nat) × (Nat → Nat → Int32) × (Nat → Nat → Nat → Int32) × (Nat → Nat → Nat → Int64)) :=
    (c_st A rs0 3 6 s1 s2).bind fun A18 =>
    K2 P F A18 J (x1 + 1)
set_option maxRecDepth 10000 in
theorem t_e_Sleep_wakeUp_98 {n : Nat} {K2 : (Nat → Nat → Nat) → (Nat → Nat → Int32) → (Nat → Nat → Nat → Int32) → (Nat → Nat → Nat → Int64) → Int32 → Option (Unit × (Nat → Nat → Nat) × (Nat → Nat → Int32) × (Nat → Nat → Nat → Int32) × (Nat → Nat → Nat → Int64))} (hK2 : ∀ (P : Nat → Nat → Nat) (F : Nat → Nat → Int32) (A : Nat → Nat → Nat → Int32) (J : Nat → Nat → Nat → Int64) (x1 : Int32) (w : Unit × (Nat → Nat → Nat) × (Nat → Nat → Int32) × (Nat → Nat → Nat → Int32) × (Nat → Nat → Nat → Int64)), K2 P F A J x1 = some w → k_run t lg (d) 82 2 [(0, .ref (36 * 1024)), (1, .int x1)] [] (c_h c B P F A J) (none, c_h c B w.2.1 w.2.2.1 w.2.2.2.1 w.2.2.2.2)) {P : Nat → Nat → Nat} {F : Nat → Nat → Int32} {A : Nat → Nat → Nat → Int32} {J : Nat → Nat → Nat → Int64} {x1 : Int32} {rs0 : Nat} {s1 : Int32} {s2 : Int32} (hrs0 : c_kind rs0 = 2) {w : Unit × (Nat → Nat → Nat) × (Nat → Nat → Int32) × (Nat → Nat → Nat → Int32) × (Nat → Nat → Nat → Int64)} : e_Sleep_wakeUp_98 K2 n P F A J x1 rs0 s1 s2 = some w → k_run t lg (d) 82 98 [(0, .ref (36 * 1024)), (1, .int x1)] [.int s2, .int s1, .ref (rs0 * 1024 + 3)] (c_h c B P F A J) (none, c_h c B w.2.1 w.2.2.1 w.2.2.2.1 w.2.2.2.2) := by
  intro hD
  unfold e_Sleep_wakeUp_98 at hD
  obtain ⟨A18, hA18, hD⟩ := Option.bind_eq_some_iff.mp hD
  refine k_cstI rs0 3 (K := 2) hrs0 rfl rfl rfl (fun _ => rfl) hA18 ?_
  refine k_runB (pc' := 2) (loc' := [(0, .ref (36 * 1024)), (1, .int (x1 + 1))]) (st' := []) 2 rfl ?_
  refine k_wk [0, 1] (loc' := [(0, .ref (36 * 1024)), (1, .int (x1 + 1))]) rfl rfl ?_
  exact hK2 _ _ _ _ _ _  hD
def e_Sleep_wakeUp_2 : Nat → (Nat → Nat → Nat) → (Nat → Nat → Int32) → (Nat → Nat → Nat → Int32) → (Nat → Nat → Nat → Int64) → Int32 → Option (Unit × (Nat → Nat → Nat) × (Nat → Nat → Int32) × (Nat → Nat → Nat → Int32) × (Nat → Nat → Nat → Int64))
  | 0, _, _, _, _, _ => none
  | n + 1, P, F, A, J, x1 => (c_chk 6 (P 36 8)).bind fun q1 =>
    cond (g_cnd .ge x1 (F q1 17))
    (some ((), P, F, A, J))
    ((c_chk 2 (P 36 9)).bind fun q3 =>
    (m_ld (A q3 3) 6 x1).bind fun v4 =>
    (c_chk 2 (P 36 9)).bind fun q5 =>
    (m_ld (A 36 6) 6 x1).bind fun v6 =>
    (c_st A q5 5 6 x1 v6).bind fun A7 =>
    (c_chk 2 (P 36 9)).bind fun q8 =>
    (m_ld (A7 q8 6) 6 x1).bind fun v9 =>
    (m_ld (A7 36 6) 6 x1).bind fun v10 =>
    (c_st A7 q8 6 6 x1 (v9 + v10)).bind fun A11 =>
    cond (g_cnd .lt v4 0)
    (e_Sleep_wakeUp_99 (e_Sleep_wakeUp_2 n) n P F A11 J x1)
    ((m_div v4 6).bind fun v13 =>
    (c_chk 2 (P 36 9)).bind fun q14 =>
    (m_ld (A11 36 7) 6 x1).bind fun v15 =>
    cond (g_cnd .ne v15 1)
    ((m_ld (A11 36 5) 6 x1).bind fun v17 =>
    e_Sleep_wakeUp_98 (e_Sleep_wakeUp_2 n) n P F A11 J x1 q14 x1 ((v13 * 6) + v17))
    (e_Sleep_wakeUp_98 (e_Sleep_wakeUp_2 n) n P F A11 J x1 q14 x1 ((-1)))))
set_option maxRecDepth 10000 in
theorem t_e_Sleep_wakeUp_2 {n : Nat}  {P : Nat → Nat → Nat} {F : Nat → Nat → Int32} {A : Nat → Nat → Nat → Int32} {J : Nat → Nat → Nat → Int64} {x1 : Int32}  {w : Unit × (Nat → Nat → Nat) × (Nat → Nat → Int32) × (Nat → Nat → Nat → Int32) × (Nat → Nat → Nat → Int64)} : e_Sleep_wakeUp_2 n P F A J x1 = some w → k_run t lg (d) 82 2 [(0, .ref (36 * 1024)), (1, .int x1)] [] (c_h c B P F A J) (none, c_h c B w.2.1 w.2.2.1 w.2.2.2.1 w.2.2.2.2) := by
  induction n generalizing P F A J x1 w with
  | zero => intro hD; cases hD
  | succ n ih =>
    intro hD
    have hK2 : ∀ (P : Nat → Nat → Nat) (F : Nat → Nat → Int32) (A : Nat → Nat → Nat → Int32) (J : Nat → Nat → Nat → Int64) (x1 : Int32) (w : Unit × (Nat → Nat → Nat) × (Nat → Nat → Int32) × (Nat → Nat → Nat → Int32) × (Nat → Nat → Nat → Int64)), e_Sleep_wakeUp_2 n P F A J x1 = some w → k_run t lg (d) 82 2 [(0, .ref (36 * 1024)), (1, .int x1)] [] (c_h c B P F A J) (none, c_h c B w.2.1 w.2.2.1 w.2.2.2.1 w.2.2.2.2) := fun _ _ _ _ _ _  h => ih  h
    unfold e_Sleep_wakeUp_2 at hD
    refine k_runB (pc' := 4) (loc' := [(0, .ref (36 * 1024)), (1, .int x1)]) (st' := [.ref (36 * 1024), .int x1]) 2 rfl ?_
    obtain ⟨q1, hq1, hD⟩ := Option.bind_eq_some_iff.mp hD
    refine k_gq 36 0 (K := 10) (K2 := 6) (key := 8) rfl rfl rfl rfl rfl hq1 (fun kq1 => ?_)
    refine k_gf q1 0 (K := 6) kq1 rfl rfl rfl rfl ?_
    refine k_ic rfl (fun c10_1 => ?_) (fun c10_1 => ?_)
    · rw [c10_1, cond_true] at hD
      cases hD
      exact k_vret rfl rfl
    · rw [c10_1, cond_false] at hD
      refine k_runB (pc' := 14) (loc' := [(0, .ref (36 * 1024)), (1, .int x1)]) (st' := [.ref (36 * 1024)]) 1 rfl ?_
      obtain ⟨q3, hq3, hD⟩ := Option.bind_eq_some_iff.mp hD
      refine k_gq 36 0 (K := 10) (K2 := 2) (key := 9) rfl rfl rfl rfl rfl hq3 (fun kq3 => ?_)
      refine k_gf q3 0 (K := 2) kq3 rfl rfl rfl rfl ?_
      refine k_runB (pc' := 21) (loc' := [(0, .ref (36 * 1024)), (1, .int x1)]) (st' := [.int x1, .ref (q3 * 1024 + 3)]) 1 rfl ?_
      obtain ⟨v4, hv4, hD⟩ := Option.bind_eq_some_iff.mp hD
      refine k_ldI rfl (c_get (r := q3) (o := 3) (K := 2) kq3 (by decide)) hv4 ?_
      refine k_runB (pc' := 24) (loc' := [(0, .ref (36 * 1024)), (1, .int x1), (2, .int v4)]) (st' := [.ref (36 * 1024)]) 2 rfl ?_
      obtain ⟨q5, hq5, hD⟩ := Option.bind_eq_some_iff.mp hD
      refine k_gq 36 0 (K := 10) (K2 := 2) (key := 9) rfl rfl rfl rfl rfl hq5 (fun kq5 => ?_)
      refine k_gf q5 0 (K := 2) kq5 rfl rfl rfl rfl ?_
      refine k_runB (pc' := 32) (loc' := [(0, .ref (36 * 1024)), (1, .int x1), (2, .int v4)]) (st' := [.ref (36 * 1024), .int x1, .ref (q5 * 1024 + 5)]) 2 rfl ?_
      refine k_gf 36 0 (K := 10) rfl rfl rfl rfl rfl ?_
      refine k_runB (pc' := 36) (loc' := [(0, .ref (36 * 1024)), (1, .int x1), (2, .int v4)]) (st' := [.int x1, .ref (36 * 1024 + 6), .int x1, .ref (q5 * 1024 + 5)]) 1 rfl ?_
      obtain ⟨v6, hv6, hD⟩ := Option.bind_eq_some_iff.mp hD
      refine k_ldI rfl (c_get (r := 36) (o := 6) (K := 10) rfl (by decide)) hv6 ?_
      obtain ⟨A7, hA7, hD⟩ := Option.bind_eq_some_iff.mp hD
      refine k_cstI q5 5 (K := 2) kq5 rfl rfl rfl (fun _ => rfl) hA7 ?_
      refine k_runB (pc' := 39) (loc' := [(0, .ref (36 * 1024)), (1, .int x1), (2, .int v4)]) (st' := [.ref (36 * 1024)]) 1 rfl ?_
      obtain ⟨q8, hq8, hD⟩ := Option.bind_eq_some_iff.mp hD
      refine k_gq 36 0 (K := 10) (K2 := 2) (key := 9) rfl rfl rfl rfl rfl hq8 (fun kq8 => ?_)
      refine k_gf q8 0 (K := 2) kq8 rfl rfl rfl rfl ?_
      refine k_runB (pc' := 47) (loc' := [(0, .ref (36 * 1024)), (1, .int x1), (2, .int v4)]) (st' := [.int x1, .ref (q8 * 1024 + 6), .int x1, .ref (q8 * 1024 + 6)]) 2 rfl ?_
      obtain ⟨v9, hv9, hD⟩ := Option.bind_eq_some_iff.mp hD
      refine k_ldI rfl (c_get (r := q8) (o := 6) (K := 2) kq8 (by decide)) hv9 ?_
      refine k_runB (pc' := 49) (loc' := [(0, .ref (36 * 1024)), (1, .int x1), (2, .int v4)]) (st' := [.ref (36 * 1024), .int v9, .int x1, .ref (q8 * 1024 + 6)]) 1 rfl ?_
      refine k_gf 36 0 (K := 10) rfl rfl rfl rfl rfl ?_
      refine k_runB (pc' := 53) (loc' := [(0, .ref (36 * 1024)), (1, .int x1), (2, .int v4)]) (st' := [.int x1, .ref (36 * 1024 + 6), .int v9, .int x1, .ref (q8 * 1024 + 6)]) 1 rfl ?_
      obtain ⟨v10, hv10, hD⟩ := Option.bind_eq_some_iff.mp hD
      refine k_ldI rfl (c_get (r := 36) (o := 6) (K := 10) rfl (by decide)) hv10 ?_
      refine k_runB (pc' := 55) (loc' := [(0, .ref (36 * 1024)), (1, .int x1), (2, .int v4)]) (st' := [.int (v9 + v10), .int x1, .ref (q8 * 1024 + 6)]) 1 rfl ?_
      obtain ⟨A11, hA11, hD⟩ := Option.bind_eq_some_iff.mp hD
      refine k_cstI q8 6 (K := 2) kq8 rfl rfl rfl (fun _ => rfl) hA11 ?_
      refine k_runB (pc' := 57) (loc' := [(0, .ref (36 * 1024)), (1, .int x1), (2, .int v4)]) (st' := [.int v4]) 1 rfl ?_
      refine k_if rfl (fun c57_11 => ?_) (fun c57_11 => ?_)
      · rw [c57_11, cond_true] at hD
        refine k_wk [0, 1] (loc' := [(0, .ref (36 * 1024)), (1, .int x1)]) rfl rfl ?_
        exact t_e_Sleep_wakeUp_99 hK2  hD
      · rw [c57_11, cond_false] at hD
        refine k_runB (pc' := 63) (loc' := [(0, .ref (36 * 1024)), (1, .int x1), (2, .int v4)]) (st' := [.int 6, .int v4]) 2 rfl ?_
        obtain ⟨v13, hv13, hD⟩ := Option.bind_eq_some_iff.mp hD
        refine k_dvI rfl hv13 ?_
        refine k_runB (pc' := 66) (loc' := [(0, .ref (36 * 1024)), (1, .int x1), (2, .int v4), (3, .int v13)]) (st' := [.ref (36 * 1024)]) 2 rfl ?_
        obtain ⟨q14, hq14, hD⟩ := Option.bind_eq_some_iff.mp hD
        refine k_gq 36 0 (K := 10) (K2 := 2) (key := 9) rfl rfl rfl rfl rfl hq14 (fun kq14 => ?_)
        refine k_gf q14 0 (K := 2) kq14 rfl rfl rfl rfl ?_
        refine k_runB (pc' := 74) (loc' := [(0, .ref (36 * 1024)), (1, .int x1), (2, .int v4), (3, .int v13)]) (st' := [.ref (36 * 1024), .int x1, .ref (q14 * 1024 + 3)]) 2 rfl ?_
        refine k_gf 36 0 (K := 10) rfl rfl rfl rfl rfl ?_
        refine k_runB (pc' := 78) (loc' := [(0, .ref (36 * 1024)), (1, .int x1), (2, .int v4), (3, .int v13)]) (st' := [.int x1, .ref (36 * 1024 + 7), .int x1, .ref (q14 * 1024 + 3)]) 1 rfl ?_
        obtain ⟨v15, hv15, hD⟩ := Option.bind_eq_some_iff.mp hD
        refine k_ldI rfl (c_get (r := 36) (o := 7) (K := 10) rfl (by decide)) hv15 ?_
        refine k_runB (pc' := 80) (loc' := [(0, .ref (36 * 1024)), (1, .int x1), (2, .int v4), (3, .int v13)]) (st' := [.int 1, .int v15, .int x1, .ref (q14 * 1024 + 3)]) 1 rfl ?_
        refine k_ic rfl (fun c80_15 => ?_) (fun c80_15 => ?_)
        · rw [c80_15, cond_true] at hD
          refine k_runB (pc' := 92) (loc' := [(0, .ref (36 * 1024)), (1, .int x1), (2, .int v4), (3, .int v13)]) (st' := [.ref (36 * 1024), .int (v13 * 6), .int x1, .ref (q14 * 1024 + 3)]) 4 rfl ?_
          refine k_gf 36 0 (K := 10) rfl rfl rfl rfl rfl ?_
          refine k_runB (pc' := 96) (loc' := [(0, .ref (36 * 1024)), (1, .int x1), (2, .int v4), (3, .int v13)]) (st' := [.int x1, .ref (36 * 1024 + 5), .int (v13 * 6), .int x1, .ref (q14 * 1024 + 3)]) 1 rfl ?_
          obtain ⟨v17, hv17, hD⟩ := Option.bind_eq_some_iff.mp hD
          refine k_ldI rfl (c_get (r := 36) (o := 5) (K := 10) rfl (by decide)) hv17 ?_
          refine k_runB (pc' := 98) (loc' := [(0, .ref (36 * 1024)), (1, .int x1), (2, .int v4), (3, .int v13)]) (st' := [.int ((v13 * 6) + v17), .int x1, .ref (q14 * 1024 + 3)]) 1 rfl ?_
          refine k_wk [0, 1] (loc' := [(0, .ref (36 * 1024)), (1, .int x1)]) rfl rfl ?_
          exact t_e_Sleep_wakeUp_98 hK2 kq14 hD
        · rw [c80_15, cond_false] at hD
          refine k_runB (pc' := 98) (loc' := [(0, .ref (36 * 1024)), (1, .int x1), (2, .int v4), (3, .int v13)]) (st' := [.int ((-1)), .int x1, .ref (q14 * 1024 + 3)]) 2 rfl ?_
          refine k_wk [0, 1] (loc' := [(0, .ref (36 * 1024)), (1, .int x1)]) rfl rfl ?_
          exact t_e_Sleep_wakeUp_98 hK2 kq14 hD
/-- SleepWork$Sleep.wakeUp()V  -/
def e_Sleep_wakeUp (n : Nat) (P : Nat → Nat → Nat) (F : Nat → Nat → Int32) (A : Nat → Nat → Nat → Int32) (J : Nat → Nat → Nat → Int64) : Option (Unit × (Nat → Nat → Nat) × (Nat → Nat → Int32) × (Nat → Nat → Nat → Int32) × (Nat → Nat → Nat → Int64)) :=
  e_Sleep_wakeUp_2 n P F A J 0
set_option maxRecDepth 10000 in
theorem t_e_Sleep_wakeUp {n : Nat} {P : Nat → Nat → Nat} {F : Nat → Nat → Int32} {A : Nat → Nat → Nat → Int32} {J : Nat → Nat → Nat → Int64}   {w : Unit × (Nat → Nat → Nat) × (Nat → Nat → Int32) × (Nat → Nat → Nat → Int32) × (Nat → Nat → Nat → Int64)} : e_Sleep_wakeUp n P F A J = some w → k_run t lg (d) 82 0 [(0, .ref (36 * 1024))] [] (c_h c B P F A J) (none, c_h c B w.2.1 w.2.2.1 w.2.2.2.1 w.2.2.2.2) := by
  intro hD
  unfold e_Sleep_wakeUp at hD
  refine k_runB (pc' := 2) (loc' := [(0, .ref (36 * 1024)), (1, .int 0)]) (st' := []) 2 rfl ?_
  refine k_wk [0, 1] (loc' := [(0, .ref (36 * 1024)), (1, .int 0)]) rfl rfl ?_
  exact t_e_Sleep_wakeUp_2   hD
end MC
end Qz17
