/-! the reference's methods as functions (printed by wip/dec.py) -/
section MD
variable {t : gT} {lg : Nat → Nat} {d : Nat} {c : Nat × Nat} {B : Nat → List gE} {F : Nat → Int32} {A : Nat → Nat → Int32} {J : Nat → Nat → Int64}
def d_term_24 (n : Nat) (F : Nat → Int32) (A : Nat → Nat → Int32) (J : Nat → Nat → Int64) : Option (Unit × (Nat → Int32) × (Nat → Nat → Int32) × (Nat → Nat → Int64)) :=
    (m_st A 40 100 (F 49) (F 56)).bind fun A9 =>
    (m_pf F 49 ((F 49) + 1)).bind fun F10 =>
    some ((), F10, A9, J)
theorem t_d_term_24 (ht : ∀ k, t.1 12 k = k_ty 12 k) {n : Nat}  {F : Nat → Int32} {A : Nat → Nat → Int32} {J : Nat → Nat → Int64}  {w : Unit × (Nat → Int32) × (Nat → Nat → Int32) × (Nat → Nat → Int64)} : d_term_24 n F A J = some w → k_run t lg (d + 4) 171 24 [(0, .ref 40960)] [] (m_h c B F A J) (none, m_h c B w.2.1 w.2.2.1 w.2.2.2) := by
  intro hD
  unfold d_term_24 at hD
  refine k_runB (pc' := 36) (loc' := [(0, .ref 40960)]) (st' := [.int (F 56), .int (F 49), .ref 41000]) 6 rfl ?_
  obtain ⟨A9, hA9, hD⟩ := Option.bind_eq_some_iff.mp hD
  refine k_stI 40 rfl rfl (fun _ => rfl) hA9 ?_
  refine k_runB (pc' := 44) (loc' := [(0, .ref 40960)]) (st' := [.int ((F 49) + 1), .ref 40960]) 5 rfl ?_
  obtain ⟨F10, hF10, hD⟩ := Option.bind_eq_some_iff.mp hD
  refine k_ptI rfl (ht 49) rfl rfl hF10 ?_
  cases hD
  exact k_vret rfl rfl
/-- SleepWorkModel.term()V -/
def d_term (n : Nat) (F : Nat → Int32) (A : Nat → Nat → Int32) (J : Nat → Nat → Int64) : Option (Unit × (Nat → Int32) × (Nat → Nat → Int32) × (Nat → Nat → Int64)) :=
  (m_st A 39 100 (F 49) (F 56)).bind fun A1 =>
  cond (g_cnd .ne (F 13) 0)
  (d_term_24 n F A1 J)
  ((d_expression n F A1 J).bind fun (_, F4, A5, J6) =>
  (m_st A5 40 100 (F4 49) (F4 56)).bind fun A7 =>
  (m_pf F4 49 ((F4 49) + 1)).bind fun F8 =>
  some ((), F8, A7, J6))
theorem t_d_term (ht : ∀ k, t.1 12 k = k_ty 12 k) {n : Nat} {r : Unit} {F' : Nat → Int32} {A' : Nat → Nat → Int32} {J' : Nat → Nat → Int64} : d_term n F A J = some (r, F', A', J') → k_run t lg (d + 4) 171 0 [(0, .ref 40960)] [] (m_h c B F A J) (none, m_h c B F' A' J') := by
  intro hD
  unfold d_term at hD
  refine k_runB (pc' := 12) (loc' := [(0, .ref 40960)]) (st' := [.int (F 56), .int (F 49), .ref 40999]) 6 rfl ?_
  obtain ⟨A1, hA1, hD⟩ := Option.bind_eq_some_iff.mp hD
  refine k_stI 39 rfl rfl (fun _ => rfl) hA1 ?_
  refine k_runB (pc' := 17) (loc' := [(0, .ref 40960)]) (st' := [.int (F 13)]) 2 rfl ?_
  refine k_if rfl (fun c17_1 => ?_) (fun c17_1 => ?_)
  · rw [c17_1, cond_true] at hD
    refine k_wk [0] (loc' := [(0, .ref 40960)]) rfl rfl ?_
    exact t_d_term_24 ht  hD
  · rw [c17_1, cond_false] at hD
    refine k_runB (pc' := 21) (loc' := [(0, .ref 40960)]) (st' := [.ref 40960]) 1 rfl ?_
    obtain ⟨⟨v3, F4, A5, J6⟩, hv3, hD⟩ := Option.bind_eq_some_iff.mp hD
    dsimp only at hD
    refine k_runC rfl rfl rfl rfl (t_d_expression (d := d) ht hv3) ?_
    refine k_runB (pc' := 36) (loc' := [(0, .ref 40960)]) (st' := [.int (F4 56), .int (F4 49), .ref 41000]) 6 rfl ?_
    obtain ⟨A7, hA7, hD⟩ := Option.bind_eq_some_iff.mp hD
    refine k_stI 40 rfl rfl (fun _ => rfl) hA7 ?_
    refine k_runB (pc' := 44) (loc' := [(0, .ref 40960)]) (st' := [.int ((F4 49) + 1), .ref 40960]) 5 rfl ?_
    obtain ⟨F8, hF8, hD⟩ := Option.bind_eq_some_iff.mp hD
    refine k_ptI rfl (ht 49) rfl rfl hF8 ?_
    cases hD
    exact k_vret rfl rfl
def d_tellLaw_135 (n : Nat) (F : Nat → Int32) (A : Nat → Nat → Int32) (J : Nat → Nat → Int64) (x1 : Int32) (x2 : Int32) : Option (Unit × (Nat → Int32) × (Nat → Nat → Int32) × (Nat → Nat → Int64)) :=
    (m_st A 36 100 (F 49) (vp_nar .boolean 0)).bind fun A50 =>
    (d_term n F A50 J).bind fun (_, F52, A53, J54) =>
    (d_must F52 A53 J54 4).bind fun (_, F56, A57, J58) =>
    cond (g_cnd .le (F56 13) 0)
    ((m_ld (A57 33) 2 (F56 19)).bind fun v60 =>
    (m_st A57 33 2 (F56 19) (v60 + 1)).bind fun A61 =>
    cond (g_cnd .ge x1 0)
    ((m_st A61 34 12 ((6 * (F56 19)) + x1) x2).bind fun A63 =>
    (m_st A63 35 12 ((6 * (F56 19)) + x1) (F56 49)).bind fun A64 =>
    some ((), F56, A64, J58))
    (some ((), F56, A61, J58)))
    (some ((), F56, A57, J58))
theorem t_d_tellLaw_135 (ht : ∀ k, t.1 12 k = k_ty 12 k) {n : Nat}  {F : Nat → Int32} {A : Nat → Nat → Int32} {J : Nat → Nat → Int64} {x1 : Int32} {x2 : Int32} {w : Unit × (Nat → Int32) × (Nat → Nat → Int32) × (Nat → Nat → Int64)} : d_tellLaw_135 n F A J x1 x2 = some w → k_run t lg (d + 5) 170 135 [(0, .ref 40960), (1, .int x1), (2, .int x2)] [] (m_h c B F A J) (none, m_h c B w.2.1 w.2.2.1 w.2.2.2) := by
  intro hD
  unfold d_tellLaw_135 at hD
  refine k_runB (pc' := 144) (loc' := [(0, .ref 40960), (1, .int x1), (2, .int x2)]) (st' := [.int 0, .int (F 49), .ref 40996]) 5 rfl ?_
  obtain ⟨A50, hA50, hD⟩ := Option.bind_eq_some_iff.mp hD
  refine k_stZ 36 rfl rfl (fun _ => rfl) hA50 ?_
  refine k_runB (pc' := 146) (loc' := [(0, .ref 40960), (1, .int x1), (2, .int x2)]) (st' := [.ref 40960]) 1 rfl ?_
  obtain ⟨⟨v51, F52, A53, J54⟩, hv51, hD⟩ := Option.bind_eq_some_iff.mp hD
  dsimp only at hD
  refine k_runC rfl rfl rfl rfl (t_d_term (d := d) ht hv51) ?_
  refine k_runB (pc' := 151) (loc' := [(0, .ref 40960), (1, .int x1), (2, .int x2)]) (st' := [.int 4, .ref 40960]) 2 rfl ?_
  obtain ⟨⟨v55, F56, A57, J58⟩, hv55, hD⟩ := Option.bind_eq_some_iff.mp hD
  dsimp only at hD
  refine k_runC rfl rfl rfl rfl (t_d_must (d := d + 2) ht hv55) ?_
  refine k_runB (pc' := 158) (loc' := [(0, .ref 40960), (1, .int x1), (2, .int x2)]) (st' := [.int (F56 13)]) 2 rfl ?_
  refine k_if rfl (fun c158_58 => ?_) (fun c158_58 => ?_)
  · rw [c158_58, cond_true] at hD
    refine k_runB (pc' := 171) (loc' := [(0, .ref 40960), (1, .int x1), (2, .int x2)]) (st' := [.int (F56 19), .ref 40993, .int (F56 19), .ref 40993]) 5 rfl ?_
    obtain ⟨v60, hv60, hD⟩ := Option.bind_eq_some_iff.mp hD
    refine k_ldI rfl rfl hv60 ?_
    refine k_runB (pc' := 174) (loc' := [(0, .ref 40960), (1, .int x1), (2, .int x2)]) (st' := [.int (v60 + 1), .int (F56 19), .ref 40993]) 2 rfl ?_
    obtain ⟨A61, hA61, hD⟩ := Option.bind_eq_some_iff.mp hD
    refine k_stI 33 rfl rfl (fun _ => rfl) hA61 ?_
    refine k_runB (pc' := 176) (loc' := [(0, .ref 40960), (1, .int x1), (2, .int x2)]) (st' := [.int x1]) 1 rfl ?_
    refine k_if rfl (fun c176_61 => ?_) (fun c176_61 => ?_)
    · rw [c176_61, cond_true] at hD
      refine k_runB (pc' := 194) (loc' := [(0, .ref 40960), (1, .int x1), (2, .int x2)]) (st' := [.int x2, .int ((6 * (F56 19)) + x1), .ref 40994]) 9 rfl ?_
      obtain ⟨A63, hA63, hD⟩ := Option.bind_eq_some_iff.mp hD
      refine k_stI 34 rfl rfl (fun _ => rfl) hA63 ?_
      refine k_runB (pc' := 212) (loc' := [(0, .ref 40960), (1, .int x1), (2, .int x2)]) (st' := [.int (F56 49), .int ((6 * (F56 19)) + x1), .ref 40995]) 10 rfl ?_
      obtain ⟨A64, hA64, hD⟩ := Option.bind_eq_some_iff.mp hD
      refine k_stI 35 rfl rfl (fun _ => rfl) hA64 ?_
      cases hD
      exact k_vret rfl rfl
    · rw [c176_61, cond_false] at hD
      cases hD
      exact k_vret rfl rfl
  · rw [c158_58, cond_false] at hD
    cases hD
    exact k_vret rfl rfl
def d_tellLaw_116 (K18 : (Nat → Int32) → (Nat → Nat → Int32) → (Nat → Nat → Int64) → Int32 → Int32 → Int32 → Option (Unit × (Nat → Int32) × (Nat → Nat → Int32) × (Nat → Nat → Int64))) (n : Nat) (F : Nat → Int32) (A : Nat → Nat → Int32) (J : Nat → Nat → Int64) (x1 : Int32) (x2 : Int32) (x3 : Int32) : Option (Unit × (Nat → Int32) × (Nat → Nat → Int32) × (Nat → Nat → Int64)) :=
    (d_must F A J 32).bind fun (_, F99, A100, J101) =>
    (d_term n F99 A100 J101).bind fun (_, F103, A104, J105) =>
    (d_must F103 A104 J105 33).bind fun (_, F107, A108, J109) =>
    K18 F107 A108 J109 x1 x2 x3
theorem t_d_tellLaw_116 (ht : ∀ k, t.1 12 k = k_ty 12 k) {n : Nat} {K18 : (Nat → Int32) → (Nat → Nat → Int32) → (Nat → Nat → Int64) → Int32 → Int32 → Int32 → Option (Unit × (Nat → Int32) × (Nat → Nat → Int32) × (Nat → Nat → Int64))} (hK18 : ∀ (F : Nat → Int32) (A : Nat → Nat → Int32) (J : Nat → Nat → Int64) (x1 : Int32) (x2 : Int32) (x3 : Int32) (w : Unit × (Nat → Int32) × (Nat → Nat → Int32) × (Nat → Nat → Int64)), K18 F A J x1 x2 x3 = some w → k_run t lg (d + 5) 170 18 [(0, .ref 40960), (1, .int x1), (2, .int x2), (3, .int x3)] [] (m_h c B F A J) (none, m_h c B w.2.1 w.2.2.1 w.2.2.2)) {F : Nat → Int32} {A : Nat → Nat → Int32} {J : Nat → Nat → Int64} {x1 : Int32} {x2 : Int32} {x3 : Int32} {w : Unit × (Nat → Int32) × (Nat → Nat → Int32) × (Nat → Nat → Int64)} : d_tellLaw_116 K18 n F A J x1 x2 x3 = some w → k_run t lg (d + 5) 170 116 [(0, .ref 40960), (1, .int x1), (2, .int x2), (3, .int x3)] [] (m_h c B F A J) (none, m_h c B w.2.1 w.2.2.1 w.2.2.2) := by
  intro hD
  unfold d_tellLaw_116 at hD
  refine k_runB (pc' := 119) (loc' := [(0, .ref 40960), (1, .int x1), (2, .int x2), (3, .int x3)]) (st' := [.int 32, .ref 40960]) 2 rfl ?_
  obtain ⟨⟨v98, F99, A100, J101⟩, hv98, hD⟩ := Option.bind_eq_some_iff.mp hD
  dsimp only at hD
  refine k_runC rfl rfl rfl rfl (t_d_must (d := d + 2) ht hv98) ?_
  refine k_runB (pc' := 123) (loc' := [(0, .ref 40960), (1, .int x1), (2, .int x2), (3, .int x3)]) (st' := [.ref 40960]) 1 rfl ?_
  obtain ⟨⟨v102, F103, A104, J105⟩, hv102, hD⟩ := Option.bind_eq_some_iff.mp hD
  dsimp only at hD
  refine k_runC rfl rfl rfl rfl (t_d_term (d := d) ht hv102) ?_
  refine k_runB (pc' := 129) (loc' := [(0, .ref 40960), (1, .int x1), (2, .int x2), (3, .int x3)]) (st' := [.int 33, .ref 40960]) 2 rfl ?_
  obtain ⟨⟨v106, F107, A108, J109⟩, hv106, hD⟩ := Option.bind_eq_some_iff.mp hD
  dsimp only at hD
  refine k_runC rfl rfl rfl rfl (t_d_must (d := d + 2) ht hv106) ?_
  refine k_runB (pc' := 18) (loc' := [(0, .ref 40960), (1, .int x1), (2, .int x2), (3, .int x3)]) (st' := []) 1 rfl ?_
  refine k_wk [0, 1, 2, 3] (loc' := [(0, .ref 40960), (1, .int x1), (2, .int x2), (3, .int x3)]) rfl rfl ?_
  exact hK18 _ _ _ _ _ _ _ hD
def d_tellLaw_44 (K18 : (Nat → Int32) → (Nat → Nat → Int32) → (Nat → Nat → Int64) → Int32 → Int32 → Int32 → Option (Unit × (Nat → Int32) × (Nat → Nat → Int32) × (Nat → Nat → Int64))) (n : Nat) (F : Nat → Int32) (A : Nat → Nat → Int32) (J : Nat → Nat → Int64) (x1 : Int32) (x2 : Int32) (x3 : Int32) : Option (Unit × (Nat → Int32) × (Nat → Nat → Int32) × (Nat → Nat → Int64)) :=
    cond (g_cnd .le (F 13) 0)
    ((d_goesOn F A J).bind fun (_, F67, A68, J69) =>
    (m_st A68 36 100 (F67 49) (vp_nar .boolean 1)).bind fun A70 =>
    (m_st A70 37 100 (F67 49) (F67 56)).bind fun A71 =>
    (d_expression n F67 A71 J69).bind fun (_, F73, A74, J75) =>
    (d_must F73 A74 J75 13).bind fun (_, F77, A78, J79) =>
    (m_st A78 38 100 (F77 49) (F77 56)).bind fun A80 =>
    cond (g_cnd .ne (F77 13) 0)
    (d_tellLaw_116 K18 n F77 A80 J79 x1 x2 (x3 + 1))
    ((d_expression n F77 A80 J79).bind fun (_, F83, A84, J85) =>
    (d_must F83 A84 J85 32).bind fun (_, F87, A88, J89) =>
    (d_term n F87 A88 J89).bind fun (_, F91, A92, J93) =>
    (d_must F91 A92 J93 33).bind fun (_, F95, A96, J97) =>
    K18 F95 A96 J97 x1 x2 (x3 + 1)))
    (some ((), F, A, J))
theorem t_d_tellLaw_44 (ht : ∀ k, t.1 12 k = k_ty 12 k) {n : Nat} {K18 : (Nat → Int32) → (Nat → Nat → Int32) → (Nat → Nat → Int64) → Int32 → Int32 → Int32 → Option (Unit × (Nat → Int32) × (Nat → Nat → Int32) × (Nat → Nat → Int64))} (hK18 : ∀ (F : Nat → Int32) (A : Nat → Nat → Int32) (J : Nat → Nat → Int64) (x1 : Int32) (x2 : Int32) (x3 : Int32) (w : Unit × (Nat → Int32) × (Nat → Nat → Int32) × (Nat → Nat → Int64)), K18 F A J x1 x2 x3 = some w → k_run t lg (d + 5) 170 18 [(0, .ref 40960), (1, .int x1), (2, .int x2), (3, .int x3)] [] (m_h c B F A J) (none, m_h c B w.2.1 w.2.2.1 w.2.2.2)) {F : Nat → Int32} {A : Nat → Nat → Int32} {J : Nat → Nat → Int64} {x1 : Int32} {x2 : Int32} {x3 : Int32} {w : Unit × (Nat → Int32) × (Nat → Nat → Int32) × (Nat → Nat → Int64)} : d_tellLaw_44 K18 n F A J x1 x2 x3 = some w → k_run t lg (d + 5) 170 44 [(0, .ref 40960), (1, .int x1), (2, .int x2), (3, .int x3)] [] (m_h c B F A J) (none, m_h c B w.2.1 w.2.2.1 w.2.2.2) := by
  intro hD
  unfold d_tellLaw_44 at hD
  refine k_runB (pc' := 48) (loc' := [(0, .ref 40960), (1, .int x1), (2, .int x2), (3, .int x3)]) (st' := [.int (F 13)]) 2 rfl ?_
  refine k_if rfl (fun c48_64 => ?_) (fun c48_64 => ?_)
  · rw [c48_64, cond_true] at hD
    refine k_runB (pc' := 56) (loc' := [(0, .ref 40960), (1, .int x1), (2, .int x2), (3, .int (x3 + 1))]) (st' := [.ref 40960]) 2 rfl ?_
    obtain ⟨⟨v66, F67, A68, J69⟩, hv66, hD⟩ := Option.bind_eq_some_iff.mp hD
    dsimp only at hD
    refine k_runC rfl rfl rfl rfl (t_d_goesOn (d := d + 3) ht hv66) ?_
    refine k_runB (pc' := 68) (loc' := [(0, .ref 40960), (1, .int x1), (2, .int x2), (3, .int (x3 + 1))]) (st' := [.int 1, .int (F67 49), .ref 40996]) 5 rfl ?_
    obtain ⟨A70, hA70, hD⟩ := Option.bind_eq_some_iff.mp hD
    refine k_stZ 36 rfl rfl (fun _ => rfl) hA70 ?_
    refine k_runB (pc' := 81) (loc' := [(0, .ref 40960), (1, .int x1), (2, .int x2), (3, .int (x3 + 1))]) (st' := [.int (F67 56), .int (F67 49), .ref 40997]) 6 rfl ?_
    obtain ⟨A71, hA71, hD⟩ := Option.bind_eq_some_iff.mp hD
    refine k_stI 37 rfl rfl (fun _ => rfl) hA71 ?_
    refine k_runB (pc' := 83) (loc' := [(0, .ref 40960), (1, .int x1), (2, .int x2), (3, .int (x3 + 1))]) (st' := [.ref 40960]) 1 rfl ?_
    obtain ⟨⟨v72, F73, A74, J75⟩, hv72, hD⟩ := Option.bind_eq_some_iff.mp hD
    dsimp only at hD
    refine k_runC rfl rfl rfl rfl (t_d_expression (d := d + 1) ht hv72) ?_
    refine k_runB (pc' := 89) (loc' := [(0, .ref 40960), (1, .int x1), (2, .int x2), (3, .int (x3 + 1))]) (st' := [.int 13, .ref 40960]) 2 rfl ?_
    obtain ⟨⟨v76, F77, A78, J79⟩, hv76, hD⟩ := Option.bind_eq_some_iff.mp hD
    dsimp only at hD
    refine k_runC rfl rfl rfl rfl (t_d_must (d := d + 2) ht hv76) ?_
    refine k_runB (pc' := 104) (loc' := [(0, .ref 40960), (1, .int x1), (2, .int x2), (3, .int (x3 + 1))]) (st' := [.int (F77 56), .int (F77 49), .ref 40998]) 6 rfl ?_
    obtain ⟨A80, hA80, hD⟩ := Option.bind_eq_some_iff.mp hD
    refine k_stI 38 rfl rfl (fun _ => rfl) hA80 ?_
    refine k_runB (pc' := 109) (loc' := [(0, .ref 40960), (1, .int x1), (2, .int x2), (3, .int (x3 + 1))]) (st' := [.int (F77 13)]) 2 rfl ?_
    refine k_if rfl (fun c109_80 => ?_) (fun c109_80 => ?_)
    · rw [c109_80, cond_true] at hD
      refine k_wk [0, 1, 2, 3] (loc' := [(0, .ref 40960), (1, .int x1), (2, .int x2), (3, .int (x3 + 1))]) rfl rfl ?_
      exact t_d_tellLaw_116 ht hK18 hD
    · rw [c109_80, cond_false] at hD
      refine k_runB (pc' := 113) (loc' := [(0, .ref 40960), (1, .int x1), (2, .int x2), (3, .int (x3 + 1))]) (st' := [.ref 40960]) 1 rfl ?_
      obtain ⟨⟨v82, F83, A84, J85⟩, hv82, hD⟩ := Option.bind_eq_some_iff.mp hD
      dsimp only at hD
      refine k_runC rfl rfl rfl rfl (t_d_expression (d := d + 1) ht hv82) ?_
      refine k_runB (pc' := 119) (loc' := [(0, .ref 40960), (1, .int x1), (2, .int x2), (3, .int (x3 + 1))]) (st' := [.int 32, .ref 40960]) 2 rfl ?_
      obtain ⟨⟨v86, F87, A88, J89⟩, hv86, hD⟩ := Option.bind_eq_some_iff.mp hD
      dsimp only at hD
      refine k_runC rfl rfl rfl rfl (t_d_must (d := d + 2) ht hv86) ?_
      refine k_runB (pc' := 123) (loc' := [(0, .ref 40960), (1, .int x1), (2, .int x2), (3, .int (x3 + 1))]) (st' := [.ref 40960]) 1 rfl ?_
      obtain ⟨⟨v90, F91, A92, J93⟩, hv90, hD⟩ := Option.bind_eq_some_iff.mp hD
      dsimp only at hD
      refine k_runC rfl rfl rfl rfl (t_d_term (d := d) ht hv90) ?_
      refine k_runB (pc' := 129) (loc' := [(0, .ref 40960), (1, .int x1), (2, .int x2), (3, .int (x3 + 1))]) (st' := [.int 33, .ref 40960]) 2 rfl ?_
      obtain ⟨⟨v94, F95, A96, J97⟩, hv94, hD⟩ := Option.bind_eq_some_iff.mp hD
      dsimp only at hD
      refine k_runC rfl rfl rfl rfl (t_d_must (d := d + 2) ht hv94) ?_
      refine k_runB (pc' := 18) (loc' := [(0, .ref 40960), (1, .int x1), (2, .int x2), (3, .int (x3 + 1))]) (st' := []) 1 rfl ?_
      refine k_wk [0, 1, 2, 3] (loc' := [(0, .ref 40960), (1, .int x1), (2, .int x2), (3, .int (x3 + 1))]) rfl rfl ?_
      exact hK18 _ _ _ _ _ _ _ hD
  · rw [c48_64, cond_false] at hD
    cases hD
    exact k_vret rfl rfl
def d_tellLaw_18 : Nat → (Nat → Int32) → (Nat → Nat → Int32) → (Nat → Nat → Int64) → Int32 → Int32 → Int32 → Option (Unit × (Nat → Int32) × (Nat → Nat → Int32) × (Nat → Nat → Int64))
  | 0, _, _, _, _, _, _ => none
  | n + 1, F, A, J, x1, x2, x3 => cond (g_cnd .ne (F 13) 0)
    (d_tellLaw_135 n F A J x1 x2)
    ((d_is F A J 31).bind fun v10 =>
    cond (g_cnd .eq v10 0)
    (d_tellLaw_135 n F A J x1 x2)
    (cond (g_cnd .ne x3 4)
    (d_tellLaw_44 (d_tellLaw_18 n) n F A J x1 x2 x3)
    ((d_fail F A J 2).bind fun (_, F14, A15, J16) =>
    cond (g_cnd .le (F14 13) 0)
    ((d_goesOn F14 A15 J16).bind fun (_, F19, A20, J21) =>
    (m_st A20 36 100 (F19 49) (vp_nar .boolean 1)).bind fun A22 =>
    (m_st A22 37 100 (F19 49) (F19 56)).bind fun A23 =>
    (d_expression n F19 A23 J21).bind fun (_, F25, A26, J27) =>
    (d_must F25 A26 J27 13).bind fun (_, F29, A30, J31) =>
    (m_st A30 38 100 (F29 49) (F29 56)).bind fun A32 =>
    cond (g_cnd .ne (F29 13) 0)
    (d_tellLaw_116 (d_tellLaw_18 n) n F29 A32 J31 x1 x2 (x3 + 1))
    ((d_expression n F29 A32 J31).bind fun (_, F35, A36, J37) =>
    (d_must F35 A36 J37 32).bind fun (_, F39, A40, J41) =>
    (d_term n F39 A40 J41).bind fun (_, F43, A44, J45) =>
    (d_must F43 A44 J45 33).bind fun (_, F47, A48, J49) =>
    (d_tellLaw_18 n) F47 A48 J49 x1 x2 (x3 + 1)))
    (some ((), F14, A15, J16)))))
theorem t_d_tellLaw_18 (ht : ∀ k, t.1 12 k = k_ty 12 k) {n : Nat}  {F : Nat → Int32} {A : Nat → Nat → Int32} {J : Nat → Nat → Int64} {x1 : Int32} {x2 : Int32} {x3 : Int32} {w : Unit × (Nat → Int32) × (Nat → Nat → Int32) × (Nat → Nat → Int64)} : d_tellLaw_18 n F A J x1 x2 x3 = some w → k_run t lg (d + 5) 170 18 [(0, .ref 40960), (1, .int x1), (2, .int x2), (3, .int x3)] [] (m_h c B F A J) (none, m_h c B w.2.1 w.2.2.1 w.2.2.2) := by
  induction n generalizing F A J x1 x2 x3 w with
  | zero => intro hD; cases hD
  | succ n ih =>
    intro hD
    have hK18 : ∀ (F : Nat → Int32) (A : Nat → Nat → Int32) (J : Nat → Nat → Int64) (x1 : Int32) (x2 : Int32) (x3 : Int32) (w : Unit × (Nat → Int32) × (Nat → Nat → Int32) × (Nat → Nat → Int64)), d_tellLaw_18 n F A J x1 x2 x3 = some w → k_run t lg (d + 5) 170 18 [(0, .ref 40960), (1, .int x1), (2, .int x2), (3, .int x3)] [] (m_h c B F A J) (none, m_h c B w.2.1 w.2.2.1 w.2.2.2) := fun _ _ _ _ _ _ _ h => ih h
    unfold d_tellLaw_18 at hD
    refine k_runB (pc' := 22) (loc' := [(0, .ref 40960), (1, .int x1), (2, .int x2), (3, .int x3)]) (st' := [.int (F 13)]) 2 rfl ?_
    refine k_if rfl (fun c22_8 => ?_) (fun c22_8 => ?_)
    · rw [c22_8, cond_true] at hD
      refine k_wk [0, 1, 2] (loc' := [(0, .ref 40960), (1, .int x1), (2, .int x2)]) rfl rfl ?_
      exact t_d_tellLaw_135 ht  hD
    · rw [c22_8, cond_false] at hD
      refine k_runB (pc' := 28) (loc' := [(0, .ref 40960), (1, .int x1), (2, .int x2), (3, .int x3)]) (st' := [.int 31, .ref 40960]) 2 rfl ?_
      obtain ⟨v10, hv10, hD⟩ := Option.bind_eq_some_iff.mp hD
      refine k_runC rfl rfl rfl rfl (t_d_is (d := d + 4) hv10) ?_
      refine k_if rfl (fun c31_10 => ?_) (fun c31_10 => ?_)
      · rw [c31_10, cond_true] at hD
        refine k_wk [0, 1, 2] (loc' := [(0, .ref 40960), (1, .int x1), (2, .int x2)]) rfl rfl ?_
        exact t_d_tellLaw_135 ht  hD
      · rw [c31_10, cond_false] at hD
        refine k_runB (pc' := 36) (loc' := [(0, .ref 40960), (1, .int x1), (2, .int x2), (3, .int x3)]) (st' := [.int 4, .int x3]) 2 rfl ?_
        refine k_ic rfl (fun c36_11 => ?_) (fun c36_11 => ?_)
        · rw [c36_11, cond_true] at hD
          refine k_wk [0, 1, 2, 3] (loc' := [(0, .ref 40960), (1, .int x1), (2, .int x2), (3, .int x3)]) rfl rfl ?_
          exact t_d_tellLaw_44 ht hK18 hD
        · rw [c36_11, cond_false] at hD
          refine k_runB (pc' := 41) (loc' := [(0, .ref 40960), (1, .int x1), (2, .int x2), (3, .int x3)]) (st' := [.int 2, .ref 40960]) 2 rfl ?_
          obtain ⟨⟨v13, F14, A15, J16⟩, hv13, hD⟩ := Option.bind_eq_some_iff.mp hD
          dsimp only at hD
          refine k_runC rfl rfl rfl rfl (t_d_fail (d := d + 4) ht hv13) ?_
          refine k_runB (pc' := 48) (loc' := [(0, .ref 40960), (1, .int x1), (2, .int x2), (3, .int x3)]) (st' := [.int (F14 13)]) 2 rfl ?_
          refine k_if rfl (fun c48_16 => ?_) (fun c48_16 => ?_)
          · rw [c48_16, cond_true] at hD
            refine k_runB (pc' := 56) (loc' := [(0, .ref 40960), (1, .int x1), (2, .int x2), (3, .int (x3 + 1))]) (st' := [.ref 40960]) 2 rfl ?_
            obtain ⟨⟨v18, F19, A20, J21⟩, hv18, hD⟩ := Option.bind_eq_some_iff.mp hD
            dsimp only at hD
            refine k_runC rfl rfl rfl rfl (t_d_goesOn (d := d + 3) ht hv18) ?_
            refine k_runB (pc' := 68) (loc' := [(0, .ref 40960), (1, .int x1), (2, .int x2), (3, .int (x3 + 1))]) (st' := [.int 1, .int (F19 49), .ref 40996]) 5 rfl ?_
            obtain ⟨A22, hA22, hD⟩ := Option.bind_eq_some_iff.mp hD
            refine k_stZ 36 rfl rfl (fun _ => rfl) hA22 ?_
            refine k_runB (pc' := 81) (loc' := [(0, .ref 40960), (1, .int x1), (2, .int x2), (3, .int (x3 + 1))]) (st' := [.int (F19 56), .int (F19 49), .ref 40997]) 6 rfl ?_
            obtain ⟨A23, hA23, hD⟩ := Option.bind_eq_some_iff.mp hD
            refine k_stI 37 rfl rfl (fun _ => rfl) hA23 ?_
            refine k_runB (pc' := 83) (loc' := [(0, .ref 40960), (1, .int x1), (2, .int x2), (3, .int (x3 + 1))]) (st' := [.ref 40960]) 1 rfl ?_
            obtain ⟨⟨v24, F25, A26, J27⟩, hv24, hD⟩ := Option.bind_eq_some_iff.mp hD
            dsimp only at hD
            refine k_runC rfl rfl rfl rfl (t_d_expression (d := d + 1) ht hv24) ?_
            refine k_runB (pc' := 89) (loc' := [(0, .ref 40960), (1, .int x1), (2, .int x2), (3, .int (x3 + 1))]) (st' := [.int 13, .ref 40960]) 2 rfl ?_
            obtain ⟨⟨v28, F29, A30, J31⟩, hv28, hD⟩ := Option.bind_eq_some_iff.mp hD
            dsimp only at hD
            refine k_runC rfl rfl rfl rfl (t_d_must (d := d + 2) ht hv28) ?_
            refine k_runB (pc' := 104) (loc' := [(0, .ref 40960), (1, .int x1), (2, .int x2), (3, .int (x3 + 1))]) (st' := [.int (F29 56), .int (F29 49), .ref 40998]) 6 rfl ?_
            obtain ⟨A32, hA32, hD⟩ := Option.bind_eq_some_iff.mp hD
            refine k_stI 38 rfl rfl (fun _ => rfl) hA32 ?_
            refine k_runB (pc' := 109) (loc' := [(0, .ref 40960), (1, .int x1), (2, .int x2), (3, .int (x3 + 1))]) (st' := [.int (F29 13)]) 2 rfl ?_
            refine k_if rfl (fun c109_32 => ?_) (fun c109_32 => ?_)
            · rw [c109_32, cond_true] at hD
              refine k_wk [0, 1, 2, 3] (loc' := [(0, .ref 40960), (1, .int x1), (2, .int x2), (3, .int (x3 + 1))]) rfl rfl ?_
              exact t_d_tellLaw_116 ht hK18 hD
            · rw [c109_32, cond_false] at hD
              refine k_runB (pc' := 113) (loc' := [(0, .ref 40960), (1, .int x1), (2, .int x2), (3, .int (x3 + 1))]) (st' := [.ref 40960]) 1 rfl ?_
              obtain ⟨⟨v34, F35, A36, J37⟩, hv34, hD⟩ := Option.bind_eq_some_iff.mp hD
              dsimp only at hD
              refine k_runC rfl rfl rfl rfl (t_d_expression (d := d + 1) ht hv34) ?_
              refine k_runB (pc' := 119) (loc' := [(0, .ref 40960), (1, .int x1), (2, .int x2), (3, .int (x3 + 1))]) (st' := [.int 32, .ref 40960]) 2 rfl ?_
              obtain ⟨⟨v38, F39, A40, J41⟩, hv38, hD⟩ := Option.bind_eq_some_iff.mp hD
              dsimp only at hD
              refine k_runC rfl rfl rfl rfl (t_d_must (d := d + 2) ht hv38) ?_
              refine k_runB (pc' := 123) (loc' := [(0, .ref 40960), (1, .int x1), (2, .int x2), (3, .int (x3 + 1))]) (st' := [.ref 40960]) 1 rfl ?_
              obtain ⟨⟨v42, F43, A44, J45⟩, hv42, hD⟩ := Option.bind_eq_some_iff.mp hD
              dsimp only at hD
              refine k_runC rfl rfl rfl rfl (t_d_term (d := d) ht hv42) ?_
              refine k_runB (pc' := 129) (loc' := [(0, .ref 40960), (1, .int x1), (2, .int x2), (3, .int (x3 + 1))]) (st' := [.int 33, .ref 40960]) 2 rfl ?_
              obtain ⟨⟨v46, F47, A48, J49⟩, hv46, hD⟩ := Option.bind_eq_some_iff.mp hD
              dsimp only at hD
              refine k_runC rfl rfl rfl rfl (t_d_must (d := d + 2) ht hv46) ?_
              refine k_runB (pc' := 18) (loc' := [(0, .ref 40960), (1, .int x1), (2, .int x2), (3, .int (x3 + 1))]) (st' := []) 1 rfl ?_
              refine k_wk [0, 1, 2, 3] (loc' := [(0, .ref 40960), (1, .int x1), (2, .int x2), (3, .int (x3 + 1))]) rfl rfl ?_
              exact hK18 _ _ _ _ _ _ _ hD
          · rw [c48_16, cond_false] at hD
            cases hD
            exact k_vret rfl rfl
/-- SleepWorkModel.tellLaw()V -/
def d_tellLaw (n : Nat) (F : Nat → Int32) (A : Nat → Nat → Int32) (J : Nat → Nat → Int64) : Option (Unit × (Nat → Int32) × (Nat → Nat → Int32) × (Nat → Nat → Int64)) :=
  (d_known n F A J 3).bind fun (v1, F2, A3, J4) =>
  (d_must F2 A3 J4 5).bind fun (_, F6, A7, J8) =>
  d_tellLaw_18 n F6 A7 J8 v1 (F6 49) 0
theorem t_d_tellLaw (ht : ∀ k, t.1 12 k = k_ty 12 k) {n : Nat} {r : Unit} {F' : Nat → Int32} {A' : Nat → Nat → Int32} {J' : Nat → Nat → Int64} : d_tellLaw n F A J = some (r, F', A', J') → k_run t lg (d + 5) 170 0 [(0, .ref 40960)] [] (m_h c B F A J) (none, m_h c B F' A' J') := by
  intro hD
  unfold d_tellLaw at hD
  refine k_runB (pc' := 2) (loc' := [(0, .ref 40960)]) (st' := [.int 3, .ref 40960]) 2 rfl ?_
  obtain ⟨⟨v1, F2, A3, J4⟩, hv1, hD⟩ := Option.bind_eq_some_iff.mp hD
  dsimp only at hD
  refine k_runC rfl rfl rfl rfl (t_d_known (d := d + 1) ht hv1) ?_
  refine k_runB (pc' := 8) (loc' := [(0, .ref 40960), (1, .int v1)]) (st' := [.int 5, .ref 40960]) 3 rfl ?_
  obtain ⟨⟨v5, F6, A7, J8⟩, hv5, hD⟩ := Option.bind_eq_some_iff.mp hD
  dsimp only at hD
  refine k_runC rfl rfl rfl rfl (t_d_must (d := d + 2) ht hv5) ?_
  refine k_runB (pc' := 18) (loc' := [(0, .ref 40960), (1, .int v1), (2, .int (F6 49)), (3, .int 0)]) (st' := []) 5 rfl ?_
  refine k_wk [0, 1, 2, 3] (loc' := [(0, .ref 40960), (1, .int v1), (2, .int (F6 49)), (3, .int 0)]) rfl rfl ?_
  exact t_d_tellLaw_18 ht  hD
/-- SleepWorkModel.tell()V -/
def d_tell0 (n : Nat) (F : Nat → Int32) (A : Nat → Nat → Int32) (J : Nat → Nat → Int64) : Option (Unit × (Nat → Int32) × (Nat → Nat → Int32) × (Nat → Nat → Int64)) :=
  (m_ld (A 3) 403 (F 11)).bind fun v1 =>
  cond (decide (v1 = 20))
  ((m_ld (A 11) 2 (F 19)).bind fun v3 =>
  (d_roomFor F A J v3 8).bind fun (_, F5, A6, J7) =>
  cond (g_cnd .ne (F5 13) 0)
  (some ((), F5, A6, J7))
  ((d_tellRoom n F5 A6 J7).bind fun (_, F10, A11, J12) =>
  some ((), F10, A11, J12)))
  (cond (decide (v1 = 21))
  ((m_ld (A 12) 2 (F 19)).bind fun v13 =>
  (d_roomFor F A J v13 12).bind fun (_, F15, A16, J17) =>
  cond (g_cnd .ne (F15 13) 0)
  (some ((), F15, A16, J17))
  ((d_tellDoor n F15 A16 J17).bind fun (_, F20, A21, J22) =>
  some ((), F20, A21, J22)))
  (cond (decide (v1 = 22))
  ((d_fail F A J 1).bind fun (_, F24, A25, J26) =>
  some ((), F24, A25, J26))
  (cond (decide (v1 = 23))
  ((m_ld (A 17) 2 (F 19)).bind fun v27 =>
  (d_roomFor F A J v27 6).bind fun (_, F29, A30, J31) =>
  cond (g_cnd .ne (F29 13) 0)
  (some ((), F29, A30, J31))
  ((d_tellTool n F29 A30 J31).bind fun (_, F34, A35, J36) =>
  some ((), F34, A35, J36)))
  (cond (decide (v1 = 24))
  ((m_ld (A 19) 2 (F 19)).bind fun v37 =>
  (d_roomFor F A J v37 6).bind fun (_, F39, A40, J41) =>
  cond (g_cnd .ne (F39 13) 0)
  (some ((), F39, A40, J41))
  ((d_tellTask n F39 A40 J41).bind fun (_, F44, A45, J46) =>
  some ((), F44, A45, J46)))
  (cond (decide (v1 = 25))
  ((d_goesOn F A J).bind fun (_, F48, A49, J50) =>
  (d_tellStep n F48 A49 J50 ((F48 11) - 1)).bind fun (_, F52, A53, J54) =>
  some ((), F52, A53, J54))
  (cond (decide (v1 = 26))
  ((d_fail F A J 1).bind fun (_, F56, A57, J58) =>
  some ((), F56, A57, J58))
  (cond (decide (v1 = 27))
  ((d_fail F A J 1).bind fun (_, F60, A61, J62) =>
  some ((), F60, A61, J62))
  (cond (decide (v1 = 28))
  ((m_ld (A 29) 2 (F 19)).bind fun v63 =>
  (d_roomFor F A J v63 6).bind fun (_, F65, A66, J67) =>
  cond (g_cnd .ne (F65 13) 0)
  (some ((), F65, A66, J67))
  ((d_tellMan n F65 A66 J67).bind fun (_, F70, A71, J72) =>
  some ((), F70, A71, J72)))
  (cond (decide (v1 = 29))
  ((d_fail F A J 1).bind fun (_, F74, A75, J76) =>
  some ((), F74, A75, J76))
  (cond (decide (v1 = 30))
  ((m_ld (A 33) 2 (F 19)).bind fun v77 =>
  (d_roomFor F A J v77 8).bind fun (_, F79, A80, J81) =>
  cond (g_cnd .ne (F79 13) 0)
  (some ((), F79, A80, J81))
  ((d_tellLaw n F79 A80 J81).bind fun (_, F84, A85, J86) =>
  some ((), F84, A85, J86)))
  (cond (decide (v1 = 31))
  ((d_fail F A J 1).bind fun (_, F88, A89, J90) =>
  some ((), F88, A89, J90))
  (cond (decide (v1 = 32))
  ((d_fail F A J 1).bind fun (_, F92, A93, J94) =>
  some ((), F92, A93, J94))
  (cond (decide (v1 = 33))
  ((d_fail F A J 1).bind fun (_, F96, A97, J98) =>
  some ((), F96, A97, J98))
  (cond (decide (v1 = 34))
  ((d_goesOn F A J).bind fun (_, F100, A101, J102) =>
  (d_bounded F100 A101 J102 1 600).bind fun (v103, F104, A105, J106) =>
  (m_st A105 41 2 (F100 19) v103).bind fun A107 =>
  (d_must F104 A107 J106 4).bind fun (_, F109, A110, J111) =>
  some ((), F109, A110, J111))
  ((d_fail F A J 1).bind fun (_, F113, A114, J115) =>
  some ((), F113, A114, J115))))))))))))))))
theorem t_d_tell0 (ht : ∀ k, t.1 12 k = k_ty 12 k) {n : Nat} {r : Unit} {F' : Nat → Int32} {A' : Nat → Nat → Int32} {J' : Nat → Nat → Int64} : d_tell0 n F A J = some (r, F', A', J') → k_run t lg (d + 6) 159 0 [(0, .ref 40960)] [] (m_h c B F A J) (none, m_h c B F' A' J') := by
  intro hD
  unfold d_tell0 at hD
  refine k_runB (pc' := 8) (loc' := [(0, .ref 40960)]) (st' := [.int (F 11), .ref 40963]) 4 rfl ?_
  obtain ⟨v1, hv1, hD⟩ := Option.bind_eq_some_iff.mp hD
  refine k_ldI rfl rfl hv1 ?_
  cases c9_1_0 : decide (v1 = 20) with
  | true =>
    rw [c9_1_0, cond_true] at hD
    refine k_tab (tgt := 84) rfl (by rw [of_decide_eq_true c9_1_0]; decide) ?_
    refine k_runB (pc' := 93) (loc' := [(0, .ref 40960)]) (st' := [.int (F 19), .ref 40971, .ref 40960]) 5 rfl ?_
    obtain ⟨v3, hv3, hD⟩ := Option.bind_eq_some_iff.mp hD
    refine k_ldI rfl rfl hv3 ?_
    refine k_runB (pc' := 96) (loc' := [(0, .ref 40960)]) (st' := [.int 8, .int v3, .ref 40960]) 1 rfl ?_
    obtain ⟨⟨v4, F5, A6, J7⟩, hv4, hD⟩ := Option.bind_eq_some_iff.mp hD
    dsimp only at hD
    refine k_runC rfl rfl rfl rfl (t_d_roomFor (d := d + 3) ht hv4) ?_
    refine k_runB (pc' := 103) (loc' := [(0, .ref 40960)]) (st' := [.int (F5 13)]) 2 rfl ?_
    refine k_if rfl (fun c103_7 => ?_) (fun c103_7 => ?_)
    · rw [c103_7, cond_true] at hD
      cases hD
      exact k_vret rfl rfl
    · rw [c103_7, cond_false] at hD
      refine k_runB (pc' := 107) (loc' := [(0, .ref 40960)]) (st' := [.ref 40960]) 1 rfl ?_
      obtain ⟨⟨v9, F10, A11, J12⟩, hv9, hD⟩ := Option.bind_eq_some_iff.mp hD
      dsimp only at hD
      refine k_runC rfl rfl rfl rfl (t_d_tellRoom (d := d + 1) ht hv9) ?_
      refine k_runB (pc' := 309) (loc' := [(0, .ref 40960)]) (st' := []) 1 rfl ?_
      cases hD
      exact k_vret rfl rfl
  | false =>
    rw [c9_1_0, cond_false] at hD
    cases c9_1_1 : decide (v1 = 21) with
    | true =>
      rw [c9_1_1, cond_true] at hD
      refine k_tab (tgt := 113) rfl (by rw [of_decide_eq_true c9_1_1]; decide) ?_
      refine k_runB (pc' := 122) (loc' := [(0, .ref 40960)]) (st' := [.int (F 19), .ref 40972, .ref 40960]) 5 rfl ?_
      obtain ⟨v13, hv13, hD⟩ := Option.bind_eq_some_iff.mp hD
      refine k_ldI rfl rfl hv13 ?_
      refine k_runB (pc' := 125) (loc' := [(0, .ref 40960)]) (st' := [.int 12, .int v13, .ref 40960]) 1 rfl ?_
      obtain ⟨⟨v14, F15, A16, J17⟩, hv14, hD⟩ := Option.bind_eq_some_iff.mp hD
      dsimp only at hD
      refine k_runC rfl rfl rfl rfl (t_d_roomFor (d := d + 3) ht hv14) ?_
      refine k_runB (pc' := 132) (loc' := [(0, .ref 40960)]) (st' := [.int (F15 13)]) 2 rfl ?_
      refine k_if rfl (fun c132_17 => ?_) (fun c132_17 => ?_)
      · rw [c132_17, cond_true] at hD
        cases hD
        exact k_vret rfl rfl
      · rw [c132_17, cond_false] at hD
        refine k_runB (pc' := 136) (loc' := [(0, .ref 40960)]) (st' := [.ref 40960]) 1 rfl ?_
        obtain ⟨⟨v19, F20, A21, J22⟩, hv19, hD⟩ := Option.bind_eq_some_iff.mp hD
        dsimp only at hD
        refine k_runC rfl rfl rfl rfl (t_d_tellDoor (d := d + 1) ht hv19) ?_
        refine k_runB (pc' := 309) (loc' := [(0, .ref 40960)]) (st' := []) 1 rfl ?_
        cases hD
        exact k_vret rfl rfl
    | false =>
      rw [c9_1_1, cond_false] at hD
      cases c9_1_2 : decide (v1 = 22) with
      | true =>
        rw [c9_1_2, cond_true] at hD
        refine k_tab (tgt := 304) rfl (by rw [of_decide_eq_true c9_1_2]; decide) ?_
        refine k_runB (pc' := 306) (loc' := [(0, .ref 40960)]) (st' := [.int 1, .ref 40960]) 2 rfl ?_
        obtain ⟨⟨v23, F24, A25, J26⟩, hv23, hD⟩ := Option.bind_eq_some_iff.mp hD
        dsimp only at hD
        refine k_runC rfl rfl rfl rfl (t_d_fail (d := d + 5) ht hv23) ?_
        cases hD
        exact k_vret rfl rfl
      | false =>
        rw [c9_1_2, cond_false] at hD
        cases c9_1_3 : decide (v1 = 23) with
        | true =>
          rw [c9_1_3, cond_true] at hD
          refine k_tab (tgt := 142) rfl (by rw [of_decide_eq_true c9_1_3]; decide) ?_
          refine k_runB (pc' := 151) (loc' := [(0, .ref 40960)]) (st' := [.int (F 19), .ref 40977, .ref 40960]) 5 rfl ?_
          obtain ⟨v27, hv27, hD⟩ := Option.bind_eq_some_iff.mp hD
          refine k_ldI rfl rfl hv27 ?_
          refine k_runB (pc' := 154) (loc' := [(0, .ref 40960)]) (st' := [.int 6, .int v27, .ref 40960]) 1 rfl ?_
          obtain ⟨⟨v28, F29, A30, J31⟩, hv28, hD⟩ := Option.bind_eq_some_iff.mp hD
          dsimp only at hD
          refine k_runC rfl rfl rfl rfl (t_d_roomFor (d := d + 3) ht hv28) ?_
          refine k_runB (pc' := 161) (loc' := [(0, .ref 40960)]) (st' := [.int (F29 13)]) 2 rfl ?_
          refine k_if rfl (fun c161_31 => ?_) (fun c161_31 => ?_)
          · rw [c161_31, cond_true] at hD
            cases hD
            exact k_vret rfl rfl
          · rw [c161_31, cond_false] at hD
            refine k_runB (pc' := 165) (loc' := [(0, .ref 40960)]) (st' := [.ref 40960]) 1 rfl ?_
            obtain ⟨⟨v33, F34, A35, J36⟩, hv33, hD⟩ := Option.bind_eq_some_iff.mp hD
            dsimp only at hD
            refine k_runC rfl rfl rfl rfl (t_d_tellTool (d := d + 1) ht hv33) ?_
            refine k_runB (pc' := 309) (loc' := [(0, .ref 40960)]) (st' := []) 1 rfl ?_
            cases hD
            exact k_vret rfl rfl
        | false =>
          rw [c9_1_3, cond_false] at hD
          cases c9_1_4 : decide (v1 = 24) with
          | true =>
            rw [c9_1_4, cond_true] at hD
            refine k_tab (tgt := 171) rfl (by rw [of_decide_eq_true c9_1_4]; decide) ?_
            refine k_runB (pc' := 180) (loc' := [(0, .ref 40960)]) (st' := [.int (F 19), .ref 40979, .ref 40960]) 5 rfl ?_
            obtain ⟨v37, hv37, hD⟩ := Option.bind_eq_some_iff.mp hD
            refine k_ldI rfl rfl hv37 ?_
            refine k_runB (pc' := 183) (loc' := [(0, .ref 40960)]) (st' := [.int 6, .int v37, .ref 40960]) 1 rfl ?_
            obtain ⟨⟨v38, F39, A40, J41⟩, hv38, hD⟩ := Option.bind_eq_some_iff.mp hD
            dsimp only at hD
            refine k_runC rfl rfl rfl rfl (t_d_roomFor (d := d + 3) ht hv38) ?_
            refine k_runB (pc' := 190) (loc' := [(0, .ref 40960)]) (st' := [.int (F39 13)]) 2 rfl ?_
            refine k_if rfl (fun c190_41 => ?_) (fun c190_41 => ?_)
            · rw [c190_41, cond_true] at hD
              cases hD
              exact k_vret rfl rfl
            · rw [c190_41, cond_false] at hD
              refine k_runB (pc' := 194) (loc' := [(0, .ref 40960)]) (st' := [.ref 40960]) 1 rfl ?_
              obtain ⟨⟨v43, F44, A45, J46⟩, hv43, hD⟩ := Option.bind_eq_some_iff.mp hD
              dsimp only at hD
              refine k_runC rfl rfl rfl rfl (t_d_tellTask (d := d + 1) ht hv43) ?_
              refine k_runB (pc' := 309) (loc' := [(0, .ref 40960)]) (st' := []) 1 rfl ?_
              cases hD
              exact k_vret rfl rfl
          | false =>
            rw [c9_1_4, cond_false] at hD
            cases c9_1_5 : decide (v1 = 25) with
            | true =>
              rw [c9_1_5, cond_true] at hD
              refine k_tab (tgt := 200) rfl (by rw [of_decide_eq_true c9_1_5]; decide) ?_
              refine k_runB (pc' := 201) (loc' := [(0, .ref 40960)]) (st' := [.ref 40960]) 1 rfl ?_
              obtain ⟨⟨v47, F48, A49, J50⟩, hv47, hD⟩ := Option.bind_eq_some_iff.mp hD
              dsimp only at hD
              refine k_runC rfl rfl rfl rfl (t_d_goesOn (d := d + 4) ht hv47) ?_
              refine k_runB (pc' := 211) (loc' := [(0, .ref 40960)]) (st' := [.int ((F48 11) - 1), .ref 40960]) 5 rfl ?_
              obtain ⟨⟨v51, F52, A53, J54⟩, hv51, hD⟩ := Option.bind_eq_some_iff.mp hD
              dsimp only at hD
              refine k_runC rfl rfl rfl rfl (t_d_tellStep (d := d + 1) ht hv51) ?_
              refine k_runB (pc' := 309) (loc' := [(0, .ref 40960)]) (st' := []) 1 rfl ?_
              cases hD
              exact k_vret rfl rfl
            | false =>
              rw [c9_1_5, cond_false] at hD
              cases c9_1_6 : decide (v1 = 26) with
              | true =>
                rw [c9_1_6, cond_true] at hD
                refine k_tab (tgt := 304) rfl (by rw [of_decide_eq_true c9_1_6]; decide) ?_
                refine k_runB (pc' := 306) (loc' := [(0, .ref 40960)]) (st' := [.int 1, .ref 40960]) 2 rfl ?_
                obtain ⟨⟨v55, F56, A57, J58⟩, hv55, hD⟩ := Option.bind_eq_some_iff.mp hD
                dsimp only at hD
                refine k_runC rfl rfl rfl rfl (t_d_fail (d := d + 5) ht hv55) ?_
                cases hD
                exact k_vret rfl rfl
              | false =>
                rw [c9_1_6, cond_false] at hD
                cases c9_1_7 : decide (v1 = 27) with
                | true =>
                  rw [c9_1_7, cond_true] at hD
                  refine k_tab (tgt := 304) rfl (by rw [of_decide_eq_true c9_1_7]; decide) ?_
                  refine k_runB (pc' := 306) (loc' := [(0, .ref 40960)]) (st' := [.int 1, .ref 40960]) 2 rfl ?_
                  obtain ⟨⟨v59, F60, A61, J62⟩, hv59, hD⟩ := Option.bind_eq_some_iff.mp hD
                  dsimp only at hD
                  refine k_runC rfl rfl rfl rfl (t_d_fail (d := d + 5) ht hv59) ?_
                  cases hD
                  exact k_vret rfl rfl
                | false =>
                  rw [c9_1_7, cond_false] at hD
                  cases c9_1_8 : decide (v1 = 28) with
                  | true =>
                    rw [c9_1_8, cond_true] at hD
                    refine k_tab (tgt := 217) rfl (by rw [of_decide_eq_true c9_1_8]; decide) ?_
                    refine k_runB (pc' := 226) (loc' := [(0, .ref 40960)]) (st' := [.int (F 19), .ref 40989, .ref 40960]) 5 rfl ?_
                    obtain ⟨v63, hv63, hD⟩ := Option.bind_eq_some_iff.mp hD
                    refine k_ldI rfl rfl hv63 ?_
                    refine k_runB (pc' := 229) (loc' := [(0, .ref 40960)]) (st' := [.int 6, .int v63, .ref 40960]) 1 rfl ?_
                    obtain ⟨⟨v64, F65, A66, J67⟩, hv64, hD⟩ := Option.bind_eq_some_iff.mp hD
                    dsimp only at hD
                    refine k_runC rfl rfl rfl rfl (t_d_roomFor (d := d + 3) ht hv64) ?_
                    refine k_runB (pc' := 236) (loc' := [(0, .ref 40960)]) (st' := [.int (F65 13)]) 2 rfl ?_
                    refine k_if rfl (fun c236_67 => ?_) (fun c236_67 => ?_)
                    · rw [c236_67, cond_true] at hD
                      cases hD
                      exact k_vret rfl rfl
                    · rw [c236_67, cond_false] at hD
                      refine k_runB (pc' := 240) (loc' := [(0, .ref 40960)]) (st' := [.ref 40960]) 1 rfl ?_
                      obtain ⟨⟨v69, F70, A71, J72⟩, hv69, hD⟩ := Option.bind_eq_some_iff.mp hD
                      dsimp only at hD
                      refine k_runC rfl rfl rfl rfl (t_d_tellMan (d := d + 1) ht hv69) ?_
                      refine k_runB (pc' := 309) (loc' := [(0, .ref 40960)]) (st' := []) 1 rfl ?_
                      cases hD
                      exact k_vret rfl rfl
                  | false =>
                    rw [c9_1_8, cond_false] at hD
                    cases c9_1_9 : decide (v1 = 29) with
                    | true =>
                      rw [c9_1_9, cond_true] at hD
                      refine k_tab (tgt := 304) rfl (by rw [of_decide_eq_true c9_1_9]; decide) ?_
                      refine k_runB (pc' := 306) (loc' := [(0, .ref 40960)]) (st' := [.int 1, .ref 40960]) 2 rfl ?_
                      obtain ⟨⟨v73, F74, A75, J76⟩, hv73, hD⟩ := Option.bind_eq_some_iff.mp hD
                      dsimp only at hD
                      refine k_runC rfl rfl rfl rfl (t_d_fail (d := d + 5) ht hv73) ?_
                      cases hD
                      exact k_vret rfl rfl
                    | false =>
                      rw [c9_1_9, cond_false] at hD
                      cases c9_1_10 : decide (v1 = 30) with
                      | true =>
                        rw [c9_1_10, cond_true] at hD
                        refine k_tab (tgt := 246) rfl (by rw [of_decide_eq_true c9_1_10]; decide) ?_
                        refine k_runB (pc' := 255) (loc' := [(0, .ref 40960)]) (st' := [.int (F 19), .ref 40993, .ref 40960]) 5 rfl ?_
                        obtain ⟨v77, hv77, hD⟩ := Option.bind_eq_some_iff.mp hD
                        refine k_ldI rfl rfl hv77 ?_
                        refine k_runB (pc' := 258) (loc' := [(0, .ref 40960)]) (st' := [.int 8, .int v77, .ref 40960]) 1 rfl ?_
                        obtain ⟨⟨v78, F79, A80, J81⟩, hv78, hD⟩ := Option.bind_eq_some_iff.mp hD
                        dsimp only at hD
                        refine k_runC rfl rfl rfl rfl (t_d_roomFor (d := d + 3) ht hv78) ?_
                        refine k_runB (pc' := 265) (loc' := [(0, .ref 40960)]) (st' := [.int (F79 13)]) 2 rfl ?_
                        refine k_if rfl (fun c265_81 => ?_) (fun c265_81 => ?_)
                        · rw [c265_81, cond_true] at hD
                          cases hD
                          exact k_vret rfl rfl
                        · rw [c265_81, cond_false] at hD
                          refine k_runB (pc' := 269) (loc' := [(0, .ref 40960)]) (st' := [.ref 40960]) 1 rfl ?_
                          obtain ⟨⟨v83, F84, A85, J86⟩, hv83, hD⟩ := Option.bind_eq_some_iff.mp hD
                          dsimp only at hD
                          refine k_runC rfl rfl rfl rfl (t_d_tellLaw (d := d) ht hv83) ?_
                          refine k_runB (pc' := 309) (loc' := [(0, .ref 40960)]) (st' := []) 1 rfl ?_
                          cases hD
                          exact k_vret rfl rfl
                      | false =>
                        rw [c9_1_10, cond_false] at hD
                        cases c9_1_11 : decide (v1 = 31) with
                        | true =>
                          rw [c9_1_11, cond_true] at hD
                          refine k_tab (tgt := 304) rfl (by rw [of_decide_eq_true c9_1_11]; decide) ?_
                          refine k_runB (pc' := 306) (loc' := [(0, .ref 40960)]) (st' := [.int 1, .ref 40960]) 2 rfl ?_
                          obtain ⟨⟨v87, F88, A89, J90⟩, hv87, hD⟩ := Option.bind_eq_some_iff.mp hD
                          dsimp only at hD
                          refine k_runC rfl rfl rfl rfl (t_d_fail (d := d + 5) ht hv87) ?_
                          cases hD
                          exact k_vret rfl rfl
                        | false =>
                          rw [c9_1_11, cond_false] at hD
                          cases c9_1_12 : decide (v1 = 32) with
                          | true =>
                            rw [c9_1_12, cond_true] at hD
                            refine k_tab (tgt := 304) rfl (by rw [of_decide_eq_true c9_1_12]; decide) ?_
                            refine k_runB (pc' := 306) (loc' := [(0, .ref 40960)]) (st' := [.int 1, .ref 40960]) 2 rfl ?_
                            obtain ⟨⟨v91, F92, A93, J94⟩, hv91, hD⟩ := Option.bind_eq_some_iff.mp hD
                            dsimp only at hD
                            refine k_runC rfl rfl rfl rfl (t_d_fail (d := d + 5) ht hv91) ?_
                            cases hD
                            exact k_vret rfl rfl
                          | false =>
                            rw [c9_1_12, cond_false] at hD
                            cases c9_1_13 : decide (v1 = 33) with
                            | true =>
                              rw [c9_1_13, cond_true] at hD
                              refine k_tab (tgt := 304) rfl (by rw [of_decide_eq_true c9_1_13]; decide) ?_
                              refine k_runB (pc' := 306) (loc' := [(0, .ref 40960)]) (st' := [.int 1, .ref 40960]) 2 rfl ?_
                              obtain ⟨⟨v95, F96, A97, J98⟩, hv95, hD⟩ := Option.bind_eq_some_iff.mp hD
                              dsimp only at hD
                              refine k_runC rfl rfl rfl rfl (t_d_fail (d := d + 5) ht hv95) ?_
                              cases hD
                              exact k_vret rfl rfl
                            | false =>
                              rw [c9_1_13, cond_false] at hD
                              cases c9_1_14 : decide (v1 = 34) with
                              | true =>
                                rw [c9_1_14, cond_true] at hD
                                refine k_tab (tgt := 275) rfl (by rw [of_decide_eq_true c9_1_14]; decide) ?_
                                refine k_runB (pc' := 276) (loc' := [(0, .ref 40960)]) (st' := [.ref 40960]) 1 rfl ?_
                                obtain ⟨⟨v99, F100, A101, J102⟩, hv99, hD⟩ := Option.bind_eq_some_iff.mp hD
                                dsimp only at hD
                                refine k_runC rfl rfl rfl rfl (t_d_goesOn (d := d + 4) ht hv99) ?_
                                refine k_runB (pc' := 292) (loc' := [(0, .ref 40960)]) (st' := [.int 600, .int 1, .ref 40960, .int (F100 19), .ref 41001]) 7 rfl ?_
                                obtain ⟨⟨v103, F104, A105, J106⟩, hv103, hD⟩ := Option.bind_eq_some_iff.mp hD
                                dsimp only at hD
                                refine k_runC rfl rfl rfl rfl (t_d_bounded (d := d + 3) ht hv103) ?_
                                obtain ⟨A107, hA107, hD⟩ := Option.bind_eq_some_iff.mp hD
                                refine k_stI 41 rfl rfl (fun _ => rfl) hA107 ?_
                                refine k_runB (pc' := 298) (loc' := [(0, .ref 40960)]) (st' := [.int 4, .ref 40960]) 2 rfl ?_
                                obtain ⟨⟨v108, F109, A110, J111⟩, hv108, hD⟩ := Option.bind_eq_some_iff.mp hD
                                dsimp only at hD
                                refine k_runC rfl rfl rfl rfl (t_d_must (d := d + 3) ht hv108) ?_
                                refine k_runB (pc' := 309) (loc' := [(0, .ref 40960)]) (st' := []) 1 rfl ?_
                                cases hD
                                exact k_vret rfl rfl
                              | false =>
                                rw [c9_1_14, cond_false] at hD
                                refine k_tab (tgt := 304) rfl (by rw [if_pos (m_out (lo := 20) (hi := 34) [20, 21, 22, 23, 24, 25, 26, 27, 28, 29, 30, 31, 32, 33, 34] (by decide) (by decide) (List.forall_mem_cons.mpr ⟨of_decide_eq_false c9_1_0, List.forall_mem_cons.mpr ⟨of_decide_eq_false c9_1_1, List.forall_mem_cons.mpr ⟨of_decide_eq_false c9_1_2, List.forall_mem_cons.mpr ⟨of_decide_eq_false c9_1_3, List.forall_mem_cons.mpr ⟨of_decide_eq_false c9_1_4, List.forall_mem_cons.mpr ⟨of_decide_eq_false c9_1_5, List.forall_mem_cons.mpr ⟨of_decide_eq_false c9_1_6, List.forall_mem_cons.mpr ⟨of_decide_eq_false c9_1_7, List.forall_mem_cons.mpr ⟨of_decide_eq_false c9_1_8, List.forall_mem_cons.mpr ⟨of_decide_eq_false c9_1_9, List.forall_mem_cons.mpr ⟨of_decide_eq_false c9_1_10, List.forall_mem_cons.mpr ⟨of_decide_eq_false c9_1_11, List.forall_mem_cons.mpr ⟨of_decide_eq_false c9_1_12, List.forall_mem_cons.mpr ⟨of_decide_eq_false c9_1_13, List.forall_mem_cons.mpr ⟨of_decide_eq_false c9_1_14, fun _ h => absurd h List.not_mem_nil⟩⟩⟩⟩⟩⟩⟩⟩⟩⟩⟩⟩⟩⟩⟩))]; rfl) ?_
                                refine k_runB (pc' := 306) (loc' := [(0, .ref 40960)]) (st' := [.int 1, .ref 40960]) 2 rfl ?_
                                obtain ⟨⟨v112, F113, A114, J115⟩, hv112, hD⟩ := Option.bind_eq_some_iff.mp hD
                                dsimp only at hD
                                refine k_runC rfl rfl rfl rfl (t_d_fail (d := d + 5) ht hv112) ?_
                                cases hD
                                exact k_vret rfl rfl
/-- SleepWorkModel.tell(III)I -/
def d_tell3 (F : Nat → Int32) (A : Nat → Nat → Int32) (J : Nat → Nat → Int64) (x1 : Int32) (x2 : Int32) (x3 : Int32) : Option (Int32 × (Nat → Int32) × (Nat → Nat → Int32) × (Nat → Nat → Int64)) :=
  cond (g_cnd .eq (F 77) 30)
  (some ((-1), F, A, J))
  ((d_isStep F A J x1 x2).bind fun v2 =>
  cond (g_cnd .eq v2 0)
  (some ((-1), F, A, J))
  ((d_in x3 0 999).bind fun v4 =>
  cond (g_cnd .ne v4 0)
  ((m_st A 58 30 (F 77) x1).bind fun A6 =>
  (m_st A6 59 30 (F 77) x2).bind fun A7 =>
  (m_st A7 60 30 (F 77) x3).bind fun A8 =>
  (m_pf F 77 ((F 77) + 1)).bind fun F9 =>
  some ((F9 77) - 1, F9, A8, J))
  (some ((-1), F, A, J))))
theorem t_d_tell3 (ht : ∀ k, t.1 12 k = k_ty 12 k) {x1 : Int32} {x2 : Int32} {x3 : Int32} {r : Int32} {F' : Nat → Int32} {A' : Nat → Nat → Int32} {J' : Nat → Nat → Int64} : d_tell3 F A J x1 x2 x3 = some (r, F', A', J') → k_run t lg (d + 3) 230 0 [(0, .ref 40960), (1, .int x1), (2, .int x2), (3, .int x3)] [] (m_h c B F A J) (some (.int r), m_h c B F' A' J') := by
  intro hD
  unfold d_tell3 at hD
  refine k_runB (pc' := 6) (loc' := [(0, .ref 40960), (1, .int x1), (2, .int x2), (3, .int x3)]) (st' := [.int 30, .int (F 77)]) 3 rfl ?_
  refine k_ic rfl (fun c6_0 => ?_) (fun c6_0 => ?_)
  · rw [c6_0, cond_true] at hD
    refine k_runB (pc' := 30) (loc' := [(0, .ref 40960), (1, .int x1), (2, .int x2), (3, .int x3)]) (st' := [.int ((-1))]) 1 rfl ?_
    cases hD
    exact k_iret rfl rfl
  · rw [c6_0, cond_false] at hD
    refine k_runB (pc' := 12) (loc' := [(0, .ref 40960), (1, .int x1), (2, .int x2), (3, .int x3)]) (st' := [.int x2, .int x1, .ref 40960]) 3 rfl ?_
    obtain ⟨v2, hv2, hD⟩ := Option.bind_eq_some_iff.mp hD
    refine k_runC rfl rfl rfl rfl (t_d_isStep (d := d) hv2) ?_
    refine k_if rfl (fun c15_2 => ?_) (fun c15_2 => ?_)
    · rw [c15_2, cond_true] at hD
      refine k_runB (pc' := 30) (loc' := [(0, .ref 40960), (1, .int x1), (2, .int x2), (3, .int x3)]) (st' := [.int ((-1))]) 1 rfl ?_
      cases hD
      exact k_iret rfl rfl
    · rw [c15_2, cond_false] at hD
      refine k_runB (pc' := 23) (loc' := [(0, .ref 40960), (1, .int x1), (2, .int x2), (3, .int x3)]) (st' := [.int 999, .int 0, .int x3]) 3 rfl ?_
      obtain ⟨v4, hv4, hD⟩ := Option.bind_eq_some_iff.mp hD
      refine k_runC rfl rfl rfl rfl (t_d_in (d := d + 2) hv4) ?_
      refine k_if rfl (fun c26_4 => ?_) (fun c26_4 => ?_)
      · rw [c26_4, cond_true] at hD
        refine k_runB (pc' := 40) (loc' := [(0, .ref 40960), (1, .int x1), (2, .int x2), (3, .int x3)]) (st' := [.int x1, .int (F 77), .ref 41018]) 5 rfl ?_
        obtain ⟨A6, hA6, hD⟩ := Option.bind_eq_some_iff.mp hD
        refine k_stI 58 rfl rfl (fun _ => rfl) hA6 ?_
        refine k_runB (pc' := 50) (loc' := [(0, .ref 40960), (1, .int x1), (2, .int x2), (3, .int x3)]) (st' := [.int x2, .int (F 77), .ref 41019]) 5 rfl ?_
        obtain ⟨A7, hA7, hD⟩ := Option.bind_eq_some_iff.mp hD
        refine k_stI 59 rfl rfl (fun _ => rfl) hA7 ?_
        refine k_runB (pc' := 60) (loc' := [(0, .ref 40960), (1, .int x1), (2, .int x2), (3, .int x3)]) (st' := [.int x3, .int (F 77), .ref 41020]) 5 rfl ?_
        obtain ⟨A8, hA8, hD⟩ := Option.bind_eq_some_iff.mp hD
        refine k_stI 60 rfl rfl (fun _ => rfl) hA8 ?_
        refine k_runB (pc' := 68) (loc' := [(0, .ref 40960), (1, .int x1), (2, .int x2), (3, .int x3)]) (st' := [.int ((F 77) + 1), .ref 40960]) 5 rfl ?_
        obtain ⟨F9, hF9, hD⟩ := Option.bind_eq_some_iff.mp hD
        refine k_ptI rfl (ht 77) rfl rfl hF9 ?_
        refine k_runB (pc' := 77) (loc' := [(0, .ref 40960), (1, .int x1), (2, .int x2), (3, .int x3)]) (st' := [.int ((F9 77) - 1)]) 4 rfl ?_
        cases hD
        exact k_iret rfl rfl
      · rw [c26_4, cond_false] at hD
        refine k_runB (pc' := 30) (loc' := [(0, .ref 40960), (1, .int x1), (2, .int x2), (3, .int x3)]) (st' := [.int ((-1))]) 1 rfl ?_
        cases hD
        exact k_iret rfl rfl
def d_read_322 : Nat → (Nat → Int32) → (Nat → Nat → Int32) → (Nat → Nat → Int64) → Int32 → Option (Int32 × (Nat → Int32) × (Nat → Nat → Int32) × (Nat → Nat → Int64))
  | 0, _, _, _, _ => none
  | n + 1, F, A, J, x1 => cond (g_cnd .ge x1 3)
    (some (0, F, A, J))
    ((m_st A 61 3 x1 (vp_nar .boolean 0)).bind fun A48 =>
    (d_read_322 n) F A48 J (x1 + 1))
theorem t_d_read_322 (ht : ∀ k, t.1 12 k = k_ty 12 k) {n : Nat}  {F : Nat → Int32} {A : Nat → Nat → Int32} {J : Nat → Nat → Int64} {x1 : Int32} {w : Int32 × (Nat → Int32) × (Nat → Nat → Int32) × (Nat → Nat → Int64)} : d_read_322 n F A J x1 = some w → k_run t lg (d + 7) 155 322 [(0, .ref 40960), (1, .int x1)] [] (m_h c B F A J) (some (.int w.1), m_h c B w.2.1 w.2.2.1 w.2.2.2) := by
  induction n generalizing F A J x1 w with
  | zero => intro hD; cases hD
  | succ n ih =>
    intro hD
    have hK322 : ∀ (F : Nat → Int32) (A : Nat → Nat → Int32) (J : Nat → Nat → Int64) (x1 : Int32) (w : Int32 × (Nat → Int32) × (Nat → Nat → Int32) × (Nat → Nat → Int64)), d_read_322 n F A J x1 = some w → k_run t lg (d + 7) 155 322 [(0, .ref 40960), (1, .int x1)] [] (m_h c B F A J) (some (.int w.1), m_h c B w.2.1 w.2.2.1 w.2.2.2) := fun _ _ _ _ _ h => ih h
    unfold d_read_322 at hD
    refine k_runB (pc' := 324) (loc' := [(0, .ref 40960), (1, .int x1)]) (st' := [.int 3, .int x1]) 2 rfl ?_
    refine k_ic rfl (fun c324_46 => ?_) (fun c324_46 => ?_)
    · rw [c324_46, cond_true] at hD
      refine k_runB (pc' := 341) (loc' := [(0, .ref 40960), (1, .int x1)]) (st' := [.int 0]) 1 rfl ?_
      cases hD
      exact k_iret rfl rfl
    · rw [c324_46, cond_false] at hD
      refine k_runB (pc' := 333) (loc' := [(0, .ref 40960), (1, .int x1)]) (st' := [.int 0, .int x1, .ref 41021]) 4 rfl ?_
      obtain ⟨A48, hA48, hD⟩ := Option.bind_eq_some_iff.mp hD
      refine k_stZ 61 rfl rfl (fun _ => rfl) hA48 ?_
      refine k_runB (pc' := 322) (loc' := [(0, .ref 40960), (1, .int (x1 + 1))]) (st' := []) 2 rfl ?_
      refine k_wk [0, 1] (loc' := [(0, .ref 40960), (1, .int (x1 + 1))]) rfl rfl ?_
      exact hK322 _ _ _ _ _ hD
def d_read_271 (n : Nat) (F : Nat → Int32) (A : Nat → Nat → Int32) (J : Nat → Nat → Int64) (s1 : Int32) : Option (Int32 × (Nat → Int32) × (Nat → Nat → Int32) × (Nat → Nat → Int64)) :=
    (m_pf F 17 s1).bind fun F37 =>
    cond (g_cnd .le (F37 13) 0)
    (cond (g_cnd .le (F37 15) 0)
    ((m_pf F37 18 (F37 19)).bind fun F40 =>
    (d_begins n F40 A J).bind fun (_, F42, A43, J44) =>
    (m_pf F42 74 0).bind fun F45 =>
    (m_pf F45 77 0).bind fun F46 =>
    d_read_322 n F46 A43 J44 0)
    (some (F37 15, F37, A, J)))
    (some (F37 13, F37, A, J))
theorem t_d_read_271 (ht : ∀ k, t.1 12 k = k_ty 12 k) {n : Nat}  {F : Nat → Int32} {A : Nat → Nat → Int32} {J : Nat → Nat → Int64} {s1 : Int32} {w : Int32 × (Nat → Int32) × (Nat → Nat → Int32) × (Nat → Nat → Int64)} : d_read_271 n F A J s1 = some w → k_run t lg (d + 7) 155 271 [(0, .ref 40960)] [.int s1, .ref 40960] (m_h c B F A J) (some (.int w.1), m_h c B w.2.1 w.2.2.1 w.2.2.2) := by
  intro hD
  unfold d_read_271 at hD
  obtain ⟨F37, hF37, hD⟩ := Option.bind_eq_some_iff.mp hD
  refine k_ptI rfl (ht 17) rfl rfl hF37 ?_
  refine k_runB (pc' := 278) (loc' := [(0, .ref 40960)]) (st' := [.int (F37 13)]) 2 rfl ?_
  refine k_if rfl (fun c278_37 => ?_) (fun c278_37 => ?_)
  · rw [c278_37, cond_true] at hD
    refine k_runB (pc' := 290) (loc' := [(0, .ref 40960)]) (st' := [.int (F37 15)]) 2 rfl ?_
    refine k_if rfl (fun c290_38 => ?_) (fun c290_38 => ?_)
    · rw [c290_38, cond_true] at hD
      refine k_runB (pc' := 303) (loc' := [(0, .ref 40960)]) (st' := [.int (F37 19), .ref 40960]) 3 rfl ?_
      obtain ⟨F40, hF40, hD⟩ := Option.bind_eq_some_iff.mp hD
      refine k_ptI rfl (ht 18) rfl rfl hF40 ?_
      refine k_runB (pc' := 307) (loc' := [(0, .ref 40960)]) (st' := [.ref 40960]) 1 rfl ?_
      obtain ⟨⟨v41, F42, A43, J44⟩, hv41, hD⟩ := Option.bind_eq_some_iff.mp hD
      dsimp only at hD
      refine k_runC rfl rfl rfl rfl (t_d_begins (d := d + 5) hv41) ?_
      refine k_runB (pc' := 312) (loc' := [(0, .ref 40960)]) (st' := [.int 0, .ref 40960]) 2 rfl ?_
      obtain ⟨F45, hF45, hD⟩ := Option.bind_eq_some_iff.mp hD
      refine k_ptI rfl (ht 74) rfl rfl hF45 ?_
      refine k_runB (pc' := 317) (loc' := [(0, .ref 40960)]) (st' := [.int 0, .ref 40960]) 2 rfl ?_
      obtain ⟨F46, hF46, hD⟩ := Option.bind_eq_some_iff.mp hD
      refine k_ptI rfl (ht 77) rfl rfl hF46 ?_
      refine k_runB (pc' := 322) (loc' := [(0, .ref 40960), (1, .int 0)]) (st' := []) 2 rfl ?_
      refine k_wk [0, 1] (loc' := [(0, .ref 40960), (1, .int 0)]) rfl rfl ?_
      exact t_d_read_322 ht  hD
    · rw [c290_38, cond_false] at hD
      refine k_runB (pc' := 297) (loc' := [(0, .ref 40960)]) (st' := [.int (F37 15)]) 2 rfl ?_
      cases hD
      exact k_iret rfl rfl
  · rw [c278_37, cond_false] at hD
    refine k_runB (pc' := 285) (loc' := [(0, .ref 40960)]) (st' := [.int (F37 13)]) 2 rfl ?_
    cases hD
    exact k_iret rfl rfl
def d_read_241 (n : Nat) (F : Nat → Int32) (A : Nat → Nat → Int32) (J : Nat → Nat → Int64) : Option (Int32 × (Nat → Int32) × (Nat → Nat → Int32) × (Nat → Nat → Int64)) :=
    cond (g_cnd .le (F 13) 0)
    (cond (g_cnd .le (F 15) 0)
    (d_read_271 n F A J ((-1)))
    (d_read_271 n F A J (F 16)))
    (d_read_271 n F A J (F 14))
theorem t_d_read_241 (ht : ∀ k, t.1 12 k = k_ty 12 k) {n : Nat}  {F : Nat → Int32} {A : Nat → Nat → Int32} {J : Nat → Nat → Int64}  {w : Int32 × (Nat → Int32) × (Nat → Nat → Int32) × (Nat → Nat → Int64)} : d_read_241 n F A J = some w → k_run t lg (d + 7) 155 241 [(0, .ref 40960)] [] (m_h c B F A J) (some (.int w.1), m_h c B w.2.1 w.2.2.1 w.2.2.2) := by
  intro hD
  unfold d_read_241 at hD
  refine k_runB (pc' := 246) (loc' := [(0, .ref 40960)]) (st' := [.int (F 13), .ref 40960]) 3 rfl ?_
  refine k_if rfl (fun c246_34 => ?_) (fun c246_34 => ?_)
  · rw [c246_34, cond_true] at hD
    refine k_runB (pc' := 260) (loc' := [(0, .ref 40960)]) (st' := [.int (F 15), .ref 40960]) 2 rfl ?_
    refine k_if rfl (fun c260_35 => ?_) (fun c260_35 => ?_)
    · rw [c260_35, cond_true] at hD
      refine k_runB (pc' := 271) (loc' := [(0, .ref 40960)]) (st' := [.int ((-1)), .ref 40960]) 1 rfl ?_
      refine k_wk [0] (loc' := [(0, .ref 40960)]) rfl rfl ?_
      exact t_d_read_271 ht  hD
    · rw [c260_35, cond_false] at hD
      refine k_runB (pc' := 271) (loc' := [(0, .ref 40960)]) (st' := [.int (F 16), .ref 40960]) 3 rfl ?_
      refine k_wk [0] (loc' := [(0, .ref 40960)]) rfl rfl ?_
      exact t_d_read_271 ht  hD
  · rw [c246_34, cond_false] at hD
    refine k_runB (pc' := 271) (loc' := [(0, .ref 40960)]) (st' := [.int (F 14), .ref 40960]) 3 rfl ?_
    refine k_wk [0] (loc' := [(0, .ref 40960)]) rfl rfl ?_
    exact t_d_read_271 ht  hD
def d_read_219 : Nat → (Nat → Int32) → (Nat → Nat → Int32) → (Nat → Nat → Int64) → Option (Int32 × (Nat → Int32) × (Nat → Nat → Int32) × (Nat → Nat → Int64))
  | 0, _, _, _ => none
  | n + 1, F, A, J => cond (g_cnd .ne (F 13) 0)
    (d_read_241 n F A J)
    ((d_is F A J 0).bind fun v29 =>
    cond (g_cnd .ne v29 0)
    (d_read_241 n F A J)
    ((d_tell0 n F A J).bind fun (_, F32, A33, J34) =>
    (d_read_219 n) F32 A33 J34))
theorem t_d_read_219 (ht : ∀ k, t.1 12 k = k_ty 12 k) {n : Nat}  {F : Nat → Int32} {A : Nat → Nat → Int32} {J : Nat → Nat → Int64}  {w : Int32 × (Nat → Int32) × (Nat → Nat → Int32) × (Nat → Nat → Int64)} : d_read_219 n F A J = some w → k_run t lg (d + 7) 155 219 [(0, .ref 40960)] [] (m_h c B F A J) (some (.int w.1), m_h c B w.2.1 w.2.2.1 w.2.2.2) := by
  induction n generalizing F A J  w with
  | zero => intro hD; cases hD
  | succ n ih =>
    intro hD
    have hK219 : ∀ (F : Nat → Int32) (A : Nat → Nat → Int32) (J : Nat → Nat → Int64) (w : Int32 × (Nat → Int32) × (Nat → Nat → Int32) × (Nat → Nat → Int64)), d_read_219 n F A J = some w → k_run t lg (d + 7) 155 219 [(0, .ref 40960)] [] (m_h c B F A J) (some (.int w.1), m_h c B w.2.1 w.2.2.1 w.2.2.2) := fun _ _ _  _ h => ih h
    unfold d_read_219 at hD
    refine k_runB (pc' := 223) (loc' := [(0, .ref 40960)]) (st' := [.int (F 13)]) 2 rfl ?_
    refine k_if rfl (fun c223_27 => ?_) (fun c223_27 => ?_)
    · rw [c223_27, cond_true] at hD
      refine k_wk [0] (loc' := [(0, .ref 40960)]) rfl rfl ?_
      exact t_d_read_241 ht  hD
    · rw [c223_27, cond_false] at hD
      refine k_runB (pc' := 228) (loc' := [(0, .ref 40960)]) (st' := [.int 0, .ref 40960]) 2 rfl ?_
      obtain ⟨v29, hv29, hD⟩ := Option.bind_eq_some_iff.mp hD
      refine k_runC rfl rfl rfl rfl (t_d_is (d := d + 6) hv29) ?_
      refine k_if rfl (fun c231_29 => ?_) (fun c231_29 => ?_)
      · rw [c231_29, cond_true] at hD
        refine k_wk [0] (loc' := [(0, .ref 40960)]) rfl rfl ?_
        exact t_d_read_241 ht  hD
      · rw [c231_29, cond_false] at hD
        refine k_runB (pc' := 235) (loc' := [(0, .ref 40960)]) (st' := [.ref 40960]) 1 rfl ?_
        obtain ⟨⟨v31, F32, A33, J34⟩, hv31, hD⟩ := Option.bind_eq_some_iff.mp hD
        dsimp only at hD
        refine k_runC rfl rfl rfl rfl (t_d_tell0 (d := d) ht hv31) ?_
        refine k_runB (pc' := 219) (loc' := [(0, .ref 40960)]) (st' := []) 1 rfl ?_
        refine k_wk [0] (loc' := [(0, .ref 40960)]) rfl rfl ?_
        exact hK219 _ _ _  _ hD
def d_read_177 : Nat → (Nat → Int32) → (Nat → Nat → Int32) → (Nat → Nat → Int64) → Int32 → Option (Int32 × (Nat → Int32) × (Nat → Nat → Int32) × (Nat → Nat → Int64))
  | 0, _, _, _, _ => none
  | n + 1, F, A, J, x1 => cond (g_cnd .ge x1 6)
    (d_read_219 n F A J)
    ((m_st A 34 12 ((6 * (F 19)) + x1) 0).bind fun A26 =>
    (m_st A26 35 12 ((6 * (F 19)) + x1) 0).bind fun A27 =>
    (d_read_177 n) F A27 J (x1 + 1))
theorem t_d_read_177 (ht : ∀ k, t.1 12 k = k_ty 12 k) {n : Nat}  {F : Nat → Int32} {A : Nat → Nat → Int32} {J : Nat → Nat → Int64} {x1 : Int32} {w : Int32 × (Nat → Int32) × (Nat → Nat → Int32) × (Nat → Nat → Int64)} : d_read_177 n F A J x1 = some w → k_run t lg (d + 7) 155 177 [(0, .ref 40960), (1, .int x1)] [] (m_h c B F A J) (some (.int w.1), m_h c B w.2.1 w.2.2.1 w.2.2.2) := by
  induction n generalizing F A J x1 w with
  | zero => intro hD; cases hD
  | succ n ih =>
    intro hD
    have hK177 : ∀ (F : Nat → Int32) (A : Nat → Nat → Int32) (J : Nat → Nat → Int64) (x1 : Int32) (w : Int32 × (Nat → Int32) × (Nat → Nat → Int32) × (Nat → Nat → Int64)), d_read_177 n F A J x1 = some w → k_run t lg (d + 7) 155 177 [(0, .ref 40960), (1, .int x1)] [] (m_h c B F A J) (some (.int w.1), m_h c B w.2.1 w.2.2.1 w.2.2.2) := fun _ _ _ _ _ h => ih h
    unfold d_read_177 at hD
    refine k_runB (pc' := 180) (loc' := [(0, .ref 40960), (1, .int x1)]) (st' := [.int 6, .int x1]) 2 rfl ?_
    refine k_ic rfl (fun c180_24 => ?_) (fun c180_24 => ?_)
    · rw [c180_24, cond_true] at hD
      refine k_wk [0] (loc' := [(0, .ref 40960)]) rfl rfl ?_
      exact t_d_read_219 ht  hD
    · rw [c180_24, cond_false] at hD
      refine k_runB (pc' := 197) (loc' := [(0, .ref 40960), (1, .int x1)]) (st' := [.int 0, .int ((6 * (F 19)) + x1), .ref 40994]) 9 rfl ?_
      obtain ⟨A26, hA26, hD⟩ := Option.bind_eq_some_iff.mp hD
      refine k_stI 34 rfl rfl (fun _ => rfl) hA26 ?_
      refine k_runB (pc' := 212) (loc' := [(0, .ref 40960), (1, .int x1)]) (st' := [.int 0, .int ((6 * (F 19)) + x1), .ref 40995]) 9 rfl ?_
      obtain ⟨A27, hA27, hD⟩ := Option.bind_eq_some_iff.mp hD
      refine k_stI 35 rfl rfl (fun _ => rfl) hA27 ?_
      refine k_runB (pc' := 177) (loc' := [(0, .ref 40960), (1, .int (x1 + 1))]) (st' := []) 2 rfl ?_
      refine k_wk [0, 1] (loc' := [(0, .ref 40960), (1, .int (x1 + 1))]) rfl rfl ?_
      exact hK177 _ _ _ _ _ hD
def d_read_10 : Nat → (Nat → Int32) → (Nat → Nat → Int32) → (Nat → Nat → Int64) → Int32 → Option (Int32 × (Nat → Int32) × (Nat → Nat → Int32) × (Nat → Nat → Int64))
  | 0, _, _, _, _ => none
  | n + 1, F, A, J, x1 => cond (g_cnd .ge x1 (F 4))
    ((m_pf F 2 0).bind fun F3 =>
    (d_cut n F3 A J).bind fun (_, F5, A6, J7) =>
    (m_pf F5 11 0).bind fun F8 =>
    (m_pf F8 12 0).bind fun F9 =>
    (m_pf F9 13 0).bind fun F10 =>
    (m_pf F10 15 0).bind fun F11 =>
    (m_pf F11 19 (1 - (F11 18))).bind fun F12 =>
    (m_pf F12 20 0).bind fun F13 =>
    (m_st A6 11 2 (F13 19) 0).bind fun A14 =>
    (m_st A14 12 2 (F13 19) 0).bind fun A15 =>
    (m_st A15 17 2 (F13 19) 0).bind fun A16 =>
    (m_st A16 19 2 (F13 19) 0).bind fun A17 =>
    (m_st A17 29 2 (F13 19) 0).bind fun A18 =>
    (m_st A18 33 2 (F13 19) 0).bind fun A19 =>
    (m_st A19 41 2 (F13 19) 480).bind fun A20 =>
    (m_pf F13 49 (50 * (F13 19))).bind fun F21 =>
    (m_pf F21 56 (420 * (F21 19))).bind fun F22 =>
    d_read_177 n F22 A20 J7 0)
    ((m_ld (A 1) 2000 x1).bind fun v23 =>
    (m_st A 2 2000 x1 (vp_nar .byte v23)).bind fun A24 =>
    (d_read_10 n) F A24 J (x1 + 1))
theorem t_d_read_10 (ht : ∀ k, t.1 12 k = k_ty 12 k) {n : Nat}  {F : Nat → Int32} {A : Nat → Nat → Int32} {J : Nat → Nat → Int64} {x1 : Int32} {w : Int32 × (Nat → Int32) × (Nat → Nat → Int32) × (Nat → Nat → Int64)} : d_read_10 n F A J x1 = some w → k_run t lg (d + 7) 155 10 [(0, .ref 40960), (1, .int x1)] [] (m_h c B F A J) (some (.int w.1), m_h c B w.2.1 w.2.2.1 w.2.2.2) := by
  induction n generalizing F A J x1 w with
  | zero => intro hD; cases hD
  | succ n ih =>
    intro hD
    have hK10 : ∀ (F : Nat → Int32) (A : Nat → Nat → Int32) (J : Nat → Nat → Int64) (x1 : Int32) (w : Int32 × (Nat → Int32) × (Nat → Nat → Int32) × (Nat → Nat → Int64)), d_read_10 n F A J x1 = some w → k_run t lg (d + 7) 155 10 [(0, .ref 40960), (1, .int x1)] [] (m_h c B F A J) (some (.int w.1), m_h c B w.2.1 w.2.2.1 w.2.2.2) := fun _ _ _ _ _ h => ih h
    unfold d_read_10 at hD
    refine k_runB (pc' := 15) (loc' := [(0, .ref 40960), (1, .int x1)]) (st' := [.int (F 4), .int x1]) 3 rfl ?_
    refine k_ic rfl (fun c15_1 => ?_) (fun c15_1 => ?_)
    · rw [c15_1, cond_true] at hD
      refine k_runB (pc' := 38) (loc' := [(0, .ref 40960), (1, .int x1)]) (st' := [.int 0, .ref 40960]) 2 rfl ?_
      obtain ⟨F3, hF3, hD⟩ := Option.bind_eq_some_iff.mp hD
      refine k_ptI rfl (ht 2) rfl rfl hF3 ?_
      refine k_runB (pc' := 42) (loc' := [(0, .ref 40960), (1, .int x1)]) (st' := [.ref 40960]) 1 rfl ?_
      obtain ⟨⟨v4, F5, A6, J7⟩, hv4, hD⟩ := Option.bind_eq_some_iff.mp hD
      dsimp only at hD
      refine k_runC rfl rfl rfl rfl (t_d_cut (d := d + 4) ht hv4) ?_
      refine k_runB (pc' := 47) (loc' := [(0, .ref 40960), (1, .int x1)]) (st' := [.int 0, .ref 40960]) 2 rfl ?_
      obtain ⟨F8, hF8, hD⟩ := Option.bind_eq_some_iff.mp hD
      refine k_ptI rfl (ht 11) rfl rfl hF8 ?_
      refine k_runB (pc' := 52) (loc' := [(0, .ref 40960), (1, .int x1)]) (st' := [.int 0, .ref 40960]) 2 rfl ?_
      obtain ⟨F9, hF9, hD⟩ := Option.bind_eq_some_iff.mp hD
      refine k_ptI rfl (ht 12) rfl rfl hF9 ?_
      refine k_runB (pc' := 57) (loc' := [(0, .ref 40960), (1, .int x1)]) (st' := [.int 0, .ref 40960]) 2 rfl ?_
      obtain ⟨F10, hF10, hD⟩ := Option.bind_eq_some_iff.mp hD
      refine k_ptI rfl (ht 13) rfl rfl hF10 ?_
      refine k_runB (pc' := 62) (loc' := [(0, .ref 40960), (1, .int x1)]) (st' := [.int 0, .ref 40960]) 2 rfl ?_
      obtain ⟨F11, hF11, hD⟩ := Option.bind_eq_some_iff.mp hD
      refine k_ptI rfl (ht 15) rfl rfl hF11 ?_
      refine k_runB (pc' := 72) (loc' := [(0, .ref 40960), (1, .int x1)]) (st' := [.int (1 - (F11 18)), .ref 40960]) 5 rfl ?_
      obtain ⟨F12, hF12, hD⟩ := Option.bind_eq_some_iff.mp hD
      refine k_ptI rfl (ht 19) rfl rfl hF12 ?_
      refine k_runB (pc' := 77) (loc' := [(0, .ref 40960), (1, .int x1)]) (st' := [.int 0, .ref 40960]) 2 rfl ?_
      obtain ⟨F13, hF13, hD⟩ := Option.bind_eq_some_iff.mp hD
      refine k_ptI rfl (ht 20) rfl rfl hF13 ?_
      refine k_runB (pc' := 89) (loc' := [(0, .ref 40960), (1, .int x1)]) (st' := [.int 0, .int (F13 19), .ref 40971]) 5 rfl ?_
      obtain ⟨A14, hA14, hD⟩ := Option.bind_eq_some_iff.mp hD
      refine k_stI 11 rfl rfl (fun _ => rfl) hA14 ?_
      refine k_runB (pc' := 99) (loc' := [(0, .ref 40960), (1, .int x1)]) (st' := [.int 0, .int (F13 19), .ref 40972]) 5 rfl ?_
      obtain ⟨A15, hA15, hD⟩ := Option.bind_eq_some_iff.mp hD
      refine k_stI 12 rfl rfl (fun _ => rfl) hA15 ?_
      refine k_runB (pc' := 109) (loc' := [(0, .ref 40960), (1, .int x1)]) (st' := [.int 0, .int (F13 19), .ref 40977]) 5 rfl ?_
      obtain ⟨A16, hA16, hD⟩ := Option.bind_eq_some_iff.mp hD
      refine k_stI 17 rfl rfl (fun _ => rfl) hA16 ?_
      refine k_runB (pc' := 119) (loc' := [(0, .ref 40960), (1, .int x1)]) (st' := [.int 0, .int (F13 19), .ref 40979]) 5 rfl ?_
      obtain ⟨A17, hA17, hD⟩ := Option.bind_eq_some_iff.mp hD
      refine k_stI 19 rfl rfl (fun _ => rfl) hA17 ?_
      refine k_runB (pc' := 129) (loc' := [(0, .ref 40960), (1, .int x1)]) (st' := [.int 0, .int (F13 19), .ref 40989]) 5 rfl ?_
      obtain ⟨A18, hA18, hD⟩ := Option.bind_eq_some_iff.mp hD
      refine k_stI 29 rfl rfl (fun _ => rfl) hA18 ?_
      refine k_runB (pc' := 139) (loc' := [(0, .ref 40960), (1, .int x1)]) (st' := [.int 0, .int (F13 19), .ref 40993]) 5 rfl ?_
      obtain ⟨A19, hA19, hD⟩ := Option.bind_eq_some_iff.mp hD
      refine k_stI 33 rfl rfl (fun _ => rfl) hA19 ?_
      refine k_runB (pc' := 151) (loc' := [(0, .ref 40960), (1, .int x1)]) (st' := [.int 480, .int (F13 19), .ref 41001]) 5 rfl ?_
      obtain ⟨A20, hA20, hD⟩ := Option.bind_eq_some_iff.mp hD
      refine k_stI 41 rfl rfl (fun _ => rfl) hA20 ?_
      refine k_runB (pc' := 160) (loc' := [(0, .ref 40960), (1, .int x1)]) (st' := [.int (50 * (F13 19)), .ref 40960]) 5 rfl ?_
      obtain ⟨F21, hF21, hD⟩ := Option.bind_eq_some_iff.mp hD
      refine k_ptI rfl (ht 49) rfl rfl hF21 ?_
      refine k_runB (pc' := 172) (loc' := [(0, .ref 40960), (1, .int x1)]) (st' := [.int (420 * (F21 19)), .ref 40960]) 5 rfl ?_
      obtain ⟨F22, hF22, hD⟩ := Option.bind_eq_some_iff.mp hD
      refine k_ptI rfl (ht 56) rfl rfl hF22 ?_
      refine k_runB (pc' := 177) (loc' := [(0, .ref 40960), (1, .int 0)]) (st' := []) 2 rfl ?_
      refine k_wk [0, 1] (loc' := [(0, .ref 40960), (1, .int 0)]) rfl rfl ?_
      exact t_d_read_177 ht  hD
    · rw [c15_1, cond_false] at hD
      refine k_runB (pc' := 28) (loc' := [(0, .ref 40960), (1, .int x1)]) (st' := [.int x1, .ref 40961, .int x1, .ref 40962]) 6 rfl ?_
      obtain ⟨v23, hv23, hD⟩ := Option.bind_eq_some_iff.mp hD
      refine k_ldB rfl rfl hv23 ?_
      obtain ⟨A24, hA24, hD⟩ := Option.bind_eq_some_iff.mp hD
      refine k_stB 2 rfl rfl (fun _ => rfl) hA24 ?_
      refine k_runB (pc' := 10) (loc' := [(0, .ref 40960), (1, .int (x1 + 1))]) (st' := []) 2 rfl ?_
      refine k_wk [0, 1] (loc' := [(0, .ref 40960), (1, .int (x1 + 1))]) rfl rfl ?_
      exact hK10 _ _ _ _ _ hD
/-- SleepWorkModel.read()I -/
def d_read (n : Nat) (F : Nat → Int32) (A : Nat → Nat → Int32) (J : Nat → Nat → Int64) : Option (Int32 × (Nat → Int32) × (Nat → Nat → Int32) × (Nat → Nat → Int64)) :=
  (m_pf F 4 (F 2)).bind fun F1 =>
  d_read_10 n F1 A J 0
theorem t_d_read (ht : ∀ k, t.1 12 k = k_ty 12 k) {n : Nat} {r : Int32} {F' : Nat → Int32} {A' : Nat → Nat → Int32} {J' : Nat → Nat → Int64} : d_read n F A J = some (r, F', A', J') → k_run t lg (d + 7) 155 0 [(0, .ref 40960)] [] (m_h c B F A J) (some (.int r), m_h c B F' A' J') := by
  intro hD
  unfold d_read at hD
  refine k_runB (pc' := 5) (loc' := [(0, .ref 40960)]) (st' := [.int (F 2), .ref 40960]) 3 rfl ?_
  obtain ⟨F1, hF1, hD⟩ := Option.bind_eq_some_iff.mp hD
  refine k_ptI rfl (ht 4) rfl rfl hF1 ?_
  refine k_runB (pc' := 10) (loc' := [(0, .ref 40960), (1, .int 0)]) (st' := []) 2 rfl ?_
  refine k_wk [0, 1] (loc' := [(0, .ref 40960), (1, .int 0)]) rfl rfl ?_
  exact t_d_read_10 ht  hD
end MD
