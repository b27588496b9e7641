/-! the class's methods as functions (printed by wip/dec2.py) -/
section MC
variable {t : gT} {lg : Nat → Nat} {d : Nat} {c : Nat × Nat} {B : Nat → List gE}
/-- SleepWork$Reader.readIf()V  -/
def e_Reader_readIf (n : Nat) (P : Nat → Nat → Nat) (F : Nat → Nat → Int32) (A : Nat → Nat → Nat → Int32) (J : Nat → Nat → Nat → Int64) : Option (Unit × (Nat → Nat → Nat) × (Nat → Nat → Int32) × (Nat → Nat → Nat → Int32) × (Nat → Nat → Nat → Int64)) :=
  (e_Reader_take P F A J 12).bind fun (v1, P2, F3, A4, J5) =>
  (e_Reader_readSum 8 n P2 F3 A4 J5 0).bind fun (_, P7, F8, A9, J10) =>
  (e_Reader_take P7 F8 A9 J10 60).bind fun (v11, P12, F13, A14, J15) =>
  (e_Reader_readSum 8 n P12 F13 A14 J15 0).bind fun (_, P17, F18, A19, J20) =>
  (c_chk 6 (P17 37 5)).bind fun q21 =>
  (e_Laws_add P17 F18 A19 J20 q21 60 0).bind fun (v22, P23, F24, A25, J26) =>
  (e_Reader_take P23 F24 A25 J26 13).bind fun (v27, P28, F29, A30, J31) =>
  (e_Reader_readSum 8 n P28 F29 A30 J31 0).bind fun (_, P33, F34, A35, J36) =>
  (c_chk 6 (P33 37 5)).bind fun q37 =>
  (e_Laws_add P33 F34 A35 J36 q37 0 0).bind fun (v38, P39, F40, A41, J42) =>
  (e_Reader_take P39 F40 A41 J42 14).bind fun (v43, P44, F45, A46, J47) =>
  (c_chk 6 (P44 37 5)).bind fun q48 =>
  (e_Laws_aimHere P44 F45 A46 J47 q48 v22).bind fun (_, P50, F51, A52, J53) =>
  some ((), P50, F51, A52, J53)
set_option maxRecDepth 10000 in
theorem t_e_Reader_readIf (ht : ∀ ci k, t.1 ci k = k_ty ci k) {n : Nat} {P : Nat → Nat → Nat} {F : Nat → Nat → Int32} {A : Nat → Nat → Nat → Int32} {J : Nat → Nat → Nat → Int64}   {w : Unit × (Nat → Nat → Nat) × (Nat → Nat → Int32) × (Nat → Nat → Nat → Int32) × (Nat → Nat → Nat → Int64)} : e_Reader_readIf n P F A J = some w → k_run t lg (d + 21) 61 0 [(0, .ref (37 * 1024))] [] (c_h c B P F A J) (none, c_h c B w.2.1 w.2.2.1 w.2.2.2.1 w.2.2.2.2) := by
  intro hD
  unfold e_Reader_readIf at hD
  refine k_runB (pc' := 3) (loc' := [(0, .ref (37 * 1024))]) (st' := [.int 12, .ref (37 * 1024)]) 2 rfl ?_
  obtain ⟨⟨v1, P2, F3, A4, J5⟩, hv1, hD⟩ := Option.bind_eq_some_iff.mp hD
  dsimp only at hD
  refine k_runV rfl rfl rfl (c_get (r := 37) (o := 0) (K := 11) rfl (by decide)) rfl rfl (t_e_Reader_take (d := d + 19) ht hv1) ?_
  refine k_runB (pc' := 9) (loc' := [(0, .ref (37 * 1024))]) (st' := [.int 0, .ref (37 * 1024)]) 3 rfl ?_
  obtain ⟨⟨v6, P7, F8, A9, J10⟩, hv6, hD⟩ := Option.bind_eq_some_iff.mp hD
  dsimp only at hD
  refine k_runV rfl rfl rfl (c_get (r := 37) (o := 0) (K := 11) rfl (by decide)) rfl rfl (t_e_Reader_readSum (d := d) ht (m := 8) hv6) ?_
  refine k_runB (pc' := 15) (loc' := [(0, .ref (37 * 1024))]) (st' := [.int 60, .ref (37 * 1024)]) 2 rfl ?_
  obtain ⟨⟨v11, P12, F13, A14, J15⟩, hv11, hD⟩ := Option.bind_eq_some_iff.mp hD
  dsimp only at hD
  refine k_runV rfl rfl rfl (c_get (r := 37) (o := 0) (K := 11) rfl (by decide)) rfl rfl (t_e_Reader_take (d := d + 19) ht hv11) ?_
  refine k_runB (pc' := 21) (loc' := [(0, .ref (37 * 1024))]) (st' := [.int 0, .ref (37 * 1024)]) 3 rfl ?_
  obtain ⟨⟨v16, P17, F18, A19, J20⟩, hv16, hD⟩ := Option.bind_eq_some_iff.mp hD
  dsimp only at hD
  refine k_runV rfl rfl rfl (c_get (r := 37) (o := 0) (K := 11) rfl (by decide)) rfl rfl (t_e_Reader_readSum (d := d) ht (m := 8) hv16) ?_
  refine k_runB (pc' := 25) (loc' := [(0, .ref (37 * 1024))]) (st' := [.ref (37 * 1024)]) 1 rfl ?_
  obtain ⟨q21, hq21, hD⟩ := Option.bind_eq_some_iff.mp hD
  refine k_gq 37 0 (K := 11) (K2 := 6) (key := 5) rfl rfl rfl rfl rfl hq21 (fun kq21 => ?_)
  refine k_gf q21 0 (K := 6) kq21 rfl rfl rfl rfl ?_
  refine k_runB (pc' := 34) (loc' := [(0, .ref (37 * 1024))]) (st' := [.int 0, .int 60, .ref (q21 * 1024 + 13)]) 2 rfl ?_
  obtain ⟨⟨v22, P23, F24, A25, J26⟩, hv22, hD⟩ := Option.bind_eq_some_iff.mp hD
  dsimp only at hD
  refine k_runV rfl rfl rfl (c_get (r := q21) (o := 13) (K := 6) kq21 (by decide)) rfl rfl (t_e_Laws_add (d := d + 20) ht kq21 hv22) ?_
  refine k_runB (pc' := 41) (loc' := [(0, .ref (37 * 1024)), (1, .int v22)]) (st' := [.int 13, .ref (37 * 1024)]) 3 rfl ?_
  obtain ⟨⟨v27, P28, F29, A30, J31⟩, hv27, hD⟩ := Option.bind_eq_some_iff.mp hD
  dsimp only at hD
  refine k_runV rfl rfl rfl (c_get (r := 37) (o := 0) (K := 11) rfl (by decide)) rfl rfl (t_e_Reader_take (d := d + 19) ht hv27) ?_
  refine k_runB (pc' := 47) (loc' := [(0, .ref (37 * 1024)), (1, .int v22)]) (st' := [.int 0, .ref (37 * 1024)]) 3 rfl ?_
  obtain ⟨⟨v32, P33, F34, A35, J36⟩, hv32, hD⟩ := Option.bind_eq_some_iff.mp hD
  dsimp only at hD
  refine k_runV rfl rfl rfl (c_get (r := 37) (o := 0) (K := 11) rfl (by decide)) rfl rfl (t_e_Reader_readSum (d := d) ht (m := 8) hv32) ?_
  refine k_runB (pc' := 51) (loc' := [(0, .ref (37 * 1024)), (1, .int v22)]) (st' := [.ref (37 * 1024)]) 1 rfl ?_
  obtain ⟨q37, hq37, hD⟩ := Option.bind_eq_some_iff.mp hD
  refine k_gq 37 0 (K := 11) (K2 := 6) (key := 5) rfl rfl rfl rfl rfl hq37 (fun kq37 => ?_)
  refine k_gf q37 0 (K := 6) kq37 rfl rfl rfl rfl ?_
  refine k_runB (pc' := 59) (loc' := [(0, .ref (37 * 1024)), (1, .int v22)]) (st' := [.int 0, .int 0, .ref (q37 * 1024 + 13)]) 2 rfl ?_
  obtain ⟨⟨v38, P39, F40, A41, J42⟩, hv38, hD⟩ := Option.bind_eq_some_iff.mp hD
  dsimp only at hD
  refine k_runV rfl rfl rfl (c_get (r := q37) (o := 13) (K := 6) kq37 (by decide)) rfl rfl (t_e_Laws_add (d := d + 20) ht kq37 hv38) ?_
  refine k_runB (pc' := 66) (loc' := [(0, .ref (37 * 1024)), (1, .int v22)]) (st' := [.int 14, .ref (37 * 1024)]) 3 rfl ?_
  obtain ⟨⟨v43, P44, F45, A46, J47⟩, hv43, hD⟩ := Option.bind_eq_some_iff.mp hD
  dsimp only at hD
  refine k_runV rfl rfl rfl (c_get (r := 37) (o := 0) (K := 11) rfl (by decide)) rfl rfl (t_e_Reader_take (d := d + 19) ht hv43) ?_
  refine k_runB (pc' := 71) (loc' := [(0, .ref (37 * 1024)), (1, .int v22)]) (st' := [.ref (37 * 1024)]) 2 rfl ?_
  obtain ⟨q48, hq48, hD⟩ := Option.bind_eq_some_iff.mp hD
  refine k_gq 37 0 (K := 11) (K2 := 6) (key := 5) rfl rfl rfl rfl rfl hq48 (fun kq48 => ?_)
  refine k_gf q48 0 (K := 6) kq48 rfl rfl rfl rfl ?_
  refine k_runB (pc' := 78) (loc' := [(0, .ref (37 * 1024)), (1, .int v22)]) (st' := [.int v22, .ref (q48 * 1024 + 13)]) 1 rfl ?_
  obtain ⟨⟨v49, P50, F51, A52, J53⟩, hv49, hD⟩ := Option.bind_eq_some_iff.mp hD
  dsimp only at hD
  refine k_runV rfl rfl rfl (c_get (r := q48) (o := 13) (K := 6) kq48 (by decide)) rfl rfl (t_e_Laws_aimHere (d := d + 20) kq48 hv49) ?_
  cases hD
  exact k_vret rfl rfl
def e_Reader_readLaw_94 (n : Nat) (P : Nat → Nat → Nat) (F : Nat → Nat → Int32) (A : Nat → Nat → Nat → Int32) (J : Nat → Nat → Nat → Int64) (x1 : Int32) (x2 : Int32) : Option (Unit × (Nat → Nat → Nat) × (Nat → Nat → Int32) × (Nat → Nat → Nat → Int32) × (Nat → Nat → Nat → Int64)) :=
    (e_Reader_readSum 8 n P F A J 0).bind fun (_, P34, F35, A36, J37) =>
    (c_chk 6 (P34 37 5)).bind fun q38 =>
    (e_Laws_add P34 F35 A36 J37 q38 0 0).bind fun (v39, P40, F41, A42, J43) =>
    (e_Reader_take P40 F41 A42 J43 59).bind fun (v44, P45, F46, A47, J48) =>
    cond (g_cnd .eq v44 0)
    (some ((), P45, F46, A47, J48))
    ((c_pf F46 37 9 ((F46 37 9) + 1)).bind fun F50 =>
    cond (g_cnd .lt x1 0)
    (some ((), P45, F50, A47, J48))
    ((c_chk 6 (P45 37 5)).bind fun q52 =>
    (c_st A47 q52 14 6 x1 x2).bind fun A53 =>
    some ((), P45, F50, A53, J48)))
set_option maxRecDepth 10000 in
theorem t_e_Reader_readLaw_94 (ht : ∀ ci k, t.1 ci k = k_ty ci k) {n : Nat}  {P : Nat → Nat → Nat} {F : Nat → Nat → Int32} {A : Nat → Nat → Nat → Int32} {J : Nat → Nat → Nat → Int64} {x1 : Int32} {x2 : Int32}  {w : Unit × (Nat → Nat → Nat) × (Nat → Nat → Int32) × (Nat → Nat → Nat → Int32) × (Nat → Nat → Nat → Int64)} : e_Reader_readLaw_94 n P F A J x1 x2 = some w → k_run t lg (d + 22) 60 94 [(0, .ref (37 * 1024)), (1, .int x1), (2, .int x2)] [] (c_h c B P F A J) (none, c_h c B w.2.1 w.2.2.1 w.2.2.2.1 w.2.2.2.2) := by
  intro hD
  unfold e_Reader_readLaw_94 at hD
  refine k_runB (pc' := 96) (loc' := [(0, .ref (37 * 1024)), (1, .int x1), (2, .int x2)]) (st' := [.int 0, .ref (37 * 1024)]) 2 rfl ?_
  obtain ⟨⟨v33, P34, F35, A36, J37⟩, hv33, hD⟩ := Option.bind_eq_some_iff.mp hD
  dsimp only at hD
  refine k_runV rfl rfl rfl (c_get (r := 37) (o := 0) (K := 11) rfl (by decide)) rfl rfl (t_e_Reader_readSum (d := d + 1) ht (m := 8) hv33) ?_
  refine k_runB (pc' := 100) (loc' := [(0, .ref (37 * 1024)), (1, .int x1), (2, .int x2)]) (st' := [.ref (37 * 1024)]) 1 rfl ?_
  obtain ⟨q38, hq38, hD⟩ := Option.bind_eq_some_iff.mp hD
  refine k_gq 37 0 (K := 11) (K2 := 6) (key := 5) rfl rfl rfl rfl rfl hq38 (fun kq38 => ?_)
  refine k_gf q38 0 (K := 6) kq38 rfl rfl rfl rfl ?_
  refine k_runB (pc' := 108) (loc' := [(0, .ref (37 * 1024)), (1, .int x1), (2, .int x2)]) (st' := [.int 0, .int 0, .ref (q38 * 1024 + 13)]) 2 rfl ?_
  obtain ⟨⟨v39, P40, F41, A42, J43⟩, hv39, hD⟩ := Option.bind_eq_some_iff.mp hD
  dsimp only at hD
  refine k_runV rfl rfl rfl (c_get (r := q38) (o := 13) (K := 6) kq38 (by decide)) rfl rfl (t_e_Laws_add (d := d + 21) ht kq38 hv39) ?_
  refine k_runB (pc' := 115) (loc' := [(0, .ref (37 * 1024)), (1, .int x1), (2, .int x2)]) (st' := [.int 59, .ref (37 * 1024)]) 3 rfl ?_
  obtain ⟨⟨v44, P45, F46, A47, J48⟩, hv44, hD⟩ := Option.bind_eq_some_iff.mp hD
  dsimp only at hD
  refine k_runV rfl rfl rfl (c_get (r := 37) (o := 0) (K := 11) rfl (by decide)) rfl rfl (t_e_Reader_take (d := d + 20) ht hv44) ?_
  refine k_if rfl (fun c118_48 => ?_) (fun c118_48 => ?_)
  · rw [c118_48, cond_true] at hD
    cases hD
    exact k_vret rfl rfl
  · rw [c118_48, cond_false] at hD
    refine k_runB (pc' := 123) (loc' := [(0, .ref (37 * 1024)), (1, .int x1), (2, .int x2)]) (st' := [.ref (37 * 1024), .ref (37 * 1024)]) 2 rfl ?_
    refine k_gf 37 0 (K := 11) rfl rfl rfl rfl rfl ?_
    refine k_runB (pc' := 128) (loc' := [(0, .ref (37 * 1024)), (1, .int x1), (2, .int x2)]) (st' := [.int ((F46 37 9) + 1), .ref (37 * 1024)]) 2 rfl ?_
    obtain ⟨F50, hF50, hD⟩ := Option.bind_eq_some_iff.mp hD
    refine k_cpt 37 0 (K := 11) (key := 9) rfl rfl (ht 4 9) rfl rfl rfl hF50 ?_
    refine k_runB (pc' := 132) (loc' := [(0, .ref (37 * 1024)), (1, .int x1), (2, .int x2)]) (st' := [.int x1]) 1 rfl ?_
    refine k_if rfl (fun c132_50 => ?_) (fun c132_50 => ?_)
    · rw [c132_50, cond_true] at hD
      cases hD
      exact k_vret rfl rfl
    · rw [c132_50, cond_false] at hD
      refine k_runB (pc' := 136) (loc' := [(0, .ref (37 * 1024)), (1, .int x1), (2, .int x2)]) (st' := [.ref (37 * 1024)]) 1 rfl ?_
      obtain ⟨q52, hq52, hD⟩ := Option.bind_eq_some_iff.mp hD
      refine k_gq 37 0 (K := 11) (K2 := 6) (key := 5) rfl rfl rfl rfl rfl hq52 (fun kq52 => ?_)
      refine k_gf q52 0 (K := 6) kq52 rfl rfl rfl rfl ?_
      refine k_gf q52 13 (K := 6) kq52 rfl rfl rfl rfl ?_
      refine k_runB (pc' := 147) (loc' := [(0, .ref (37 * 1024)), (1, .int x1), (2, .int x2)]) (st' := [.int x2, .int x1, .ref (q52 * 1024 + 14)]) 2 rfl ?_
      obtain ⟨A53, hA53, hD⟩ := Option.bind_eq_some_iff.mp hD
      refine k_cstI q52 14 (K := 6) kq52 rfl rfl rfl (fun _ => rfl) hA53 ?_
      cases hD
      exact k_vret rfl rfl
def e_Reader_readLaw_84 (K48 : (Nat → Nat → Nat) → (Nat → Nat → Int32) → (Nat → Nat → Nat → Int32) → (Nat → Nat → Nat → Int64) → Int32 → Int32 → Int32 → Option (Unit × (Nat → Nat → Nat) × (Nat → Nat → Int32) × (Nat → Nat → Nat → Int32) × (Nat → Nat → Nat → Int64))) (n : Nat) (P : Nat → Nat → Nat) (F : Nat → Nat → Int32) (A : Nat → Nat → Nat → Int32) (J : Nat → Nat → Nat → Int64) (x1 : Int32) (x2 : Int32) (x3 : Int32) : Option (Unit × (Nat → Nat → Nat) × (Nat → Nat → Int32) × (Nat → Nat → Nat → Int32) × (Nat → Nat → Nat → Int64)) :=
    (e_Reader_readIf n P F A J).bind fun (_, P55, F56, A57, J58) =>
    K48 P55 F56 A57 J58 x1 x2 (x3 + 1)
set_option maxRecDepth 10000 in
theorem t_e_Reader_readLaw_84 (ht : ∀ ci k, t.1 ci k = k_ty ci k) {n : Nat} {K48 : (Nat → Nat → Nat) → (Nat → Nat → Int32) → (Nat → Nat → Nat → Int32) → (Nat → Nat → Nat → Int64) → Int32 → Int32 → Int32 → Option (Unit × (Nat → Nat → Nat) × (Nat → Nat → Int32) × (Nat → Nat → Nat → Int32) × (Nat → Nat → Nat → Int64))} (hK48 : ∀ (P : Nat → Nat → Nat) (F : Nat → Nat → Int32) (A : Nat → Nat → Nat → Int32) (J : Nat → Nat → Nat → Int64) (x1 : Int32) (x2 : Int32) (x3 : Int32) (w : Unit × (Nat → Nat → Nat) × (Nat → Nat → Int32) × (Nat → Nat → Nat → Int32) × (Nat → Nat → Nat → Int64)), K48 P F A J x1 x2 x3 = some w → k_run t lg (d + 22) 60 48 [(0, .ref (37 * 1024)), (1, .int x1), (2, .int x2), (3, .int x3)] [] (c_h c B P F A J) (none, c_h c B w.2.1 w.2.2.1 w.2.2.2.1 w.2.2.2.2)) {P : Nat → Nat → Nat} {F : Nat → Nat → Int32} {A : Nat → Nat → Nat → Int32} {J : Nat → Nat → Nat → Int64} {x1 : Int32} {x2 : Int32} {x3 : Int32}  {w : Unit × (Nat → Nat → Nat) × (Nat → Nat → Int32) × (Nat → Nat → Nat → Int32) × (Nat → Nat → Nat → Int64)} : e_Reader_readLaw_84 K48 n P F A J x1 x2 x3 = some w → k_run t lg (d + 22) 60 84 [(0, .ref (37 * 1024)), (1, .int x1), (2, .int x2), (3, .int x3)] [] (c_h c B P F A J) (none, c_h c B w.2.1 w.2.2.1 w.2.2.2.1 w.2.2.2.2) := by
  intro hD
  unfold e_Reader_readLaw_84 at hD
  refine k_runB (pc' := 85) (loc' := [(0, .ref (37 * 1024)), (1, .int x1), (2, .int x2), (3, .int x3)]) (st' := [.ref (37 * 1024)]) 1 rfl ?_
  obtain ⟨⟨v54, P55, F56, A57, J58⟩, hv54, hD⟩ := Option.bind_eq_some_iff.mp hD
  dsimp only at hD
  refine k_runV rfl rfl rfl (c_get (r := 37) (o := 0) (K := 11) rfl (by decide)) rfl rfl (t_e_Reader_readIf (d := d) ht hv54) ?_
  refine k_runB (pc' := 48) (loc' := [(0, .ref (37 * 1024)), (1, .int x1), (2, .int x2), (3, .int (x3 + 1))]) (st' := []) 2 rfl ?_
  refine k_wk [0, 1, 2, 3] (loc' := [(0, .ref (37 * 1024)), (1, .int x1), (2, .int x2), (3, .int (x3 + 1))]) rfl rfl ?_
  exact hK48 _ _ _ _ _ _ _ _  hD
def e_Reader_readLaw_48 : Nat → (Nat → Nat → Nat) → (Nat → Nat → Int32) → (Nat → Nat → Nat → Int32) → (Nat → Nat → Nat → Int64) → Int32 → Int32 → Int32 → Option (Unit × (Nat → Nat → Nat) × (Nat → Nat → Int32) × (Nat → Nat → Nat → Int32) × (Nat → Nat → Nat → Int64))
  | 0, _, _, _, _, _, _, _ => none
  | n + 1, P, F, A, J, x1, x2, x3 => cond (g_cnd .gt x3 4)
    (e_Reader_readLaw_94 n P F A J x1 x2)
    ((e_Reader_isNext P F A J 12).bind fun v19 =>
    cond (g_cnd .eq v19 0)
    (e_Reader_readLaw_94 n P F A J x1 x2)
    (cond (g_cnd .ne x3 4)
    (e_Reader_readLaw_84 (e_Reader_readLaw_48 n) n P F A J x1 x2 x3)
    ((m_ld (A 37 3) 401 (F 37 7)).bind fun v22 =>
    (e_Reader_fail P F A J 2 v22).bind fun (_, P24, F25, A26, J27) =>
    (e_Reader_readIf n P24 F25 A26 J27).bind fun (_, P29, F30, A31, J32) =>
    (e_Reader_readLaw_48 n) P29 F30 A31 J32 x1 x2 (x3 + 1))))
set_option maxRecDepth 10000 in
theorem t_e_Reader_readLaw_48 (ht : ∀ ci k, t.1 ci k = k_ty ci k) {n : Nat}  {P : Nat → Nat → Nat} {F : Nat → Nat → Int32} {A : Nat → Nat → Nat → Int32} {J : Nat → Nat → Nat → Int64} {x1 : Int32} {x2 : Int32} {x3 : Int32}  {w : Unit × (Nat → Nat → Nat) × (Nat → Nat → Int32) × (Nat → Nat → Nat → Int32) × (Nat → Nat → Nat → Int64)} : e_Reader_readLaw_48 n P F A J x1 x2 x3 = some w → k_run t lg (d + 22) 60 48 [(0, .ref (37 * 1024)), (1, .int x1), (2, .int x2), (3, .int x3)] [] (c_h c B P F A J) (none, c_h c B w.2.1 w.2.2.1 w.2.2.2.1 w.2.2.2.2) := by
  induction n generalizing P F A J x1 x2 x3 w with
  | zero => intro hD; cases hD
  | succ n ih =>
    intro hD
    have hK48 : ∀ (P : Nat → Nat → Nat) (F : Nat → Nat → Int32) (A : Nat → Nat → Nat → Int32) (J : Nat → Nat → Nat → Int64) (x1 : Int32) (x2 : Int32) (x3 : Int32) (w : Unit × (Nat → Nat → Nat) × (Nat → Nat → Int32) × (Nat → Nat → Nat → Int32) × (Nat → Nat → Nat → Int64)), e_Reader_readLaw_48 n P F A J x1 x2 x3 = some w → k_run t lg (d + 22) 60 48 [(0, .ref (37 * 1024)), (1, .int x1), (2, .int x2), (3, .int x3)] [] (c_h c B P F A J) (none, c_h c B w.2.1 w.2.2.1 w.2.2.2.1 w.2.2.2.2) := fun _ _ _ _ _ _ _ _  h => ih  h
    unfold e_Reader_readLaw_48 at hD
    refine k_runB (pc' := 50) (loc' := [(0, .ref (37 * 1024)), (1, .int x1), (2, .int x2), (3, .int x3)]) (st' := [.int 4, .int x3]) 2 rfl ?_
    refine k_ic rfl (fun c50_17 => ?_) (fun c50_17 => ?_)
    · rw [c50_17, cond_true] at hD
      refine k_wk [0, 1, 2] (loc' := [(0, .ref (37 * 1024)), (1, .int x1), (2, .int x2)]) rfl rfl ?_
      exact t_e_Reader_readLaw_94 ht   hD
    · rw [c50_17, cond_false] at hD
      refine k_runB (pc' := 56) (loc' := [(0, .ref (37 * 1024)), (1, .int x1), (2, .int x2), (3, .int x3)]) (st' := [.int 12, .ref (37 * 1024)]) 2 rfl ?_
      obtain ⟨v19, hv19, hD⟩ := Option.bind_eq_some_iff.mp hD
      refine k_runV rfl rfl rfl (c_get (r := 37) (o := 0) (K := 11) rfl (by decide)) rfl rfl (t_e_Reader_isNext (d := d + 21) hv19) ?_
      refine k_if rfl (fun c59_19 => ?_) (fun c59_19 => ?_)
      · rw [c59_19, cond_true] at hD
        refine k_wk [0, 1, 2] (loc' := [(0, .ref (37 * 1024)), (1, .int x1), (2, .int x2)]) rfl rfl ?_
        exact t_e_Reader_readLaw_94 ht   hD
      · rw [c59_19, cond_false] at hD
        refine k_runB (pc' := 64) (loc' := [(0, .ref (37 * 1024)), (1, .int x1), (2, .int x2), (3, .int x3)]) (st' := [.int 4, .int x3]) 2 rfl ?_
        refine k_ic rfl (fun c64_20 => ?_) (fun c64_20 => ?_)
        · rw [c64_20, cond_true] at hD
          refine k_wk [0, 1, 2, 3] (loc' := [(0, .ref (37 * 1024)), (1, .int x1), (2, .int x2), (3, .int x3)]) rfl rfl ?_
          exact t_e_Reader_readLaw_84 ht hK48  hD
        · rw [c64_20, cond_false] at hD
          refine k_runB (pc' := 70) (loc' := [(0, .ref (37 * 1024)), (1, .int x1), (2, .int x2), (3, .int x3)]) (st' := [.ref (37 * 1024), .int 2, .ref (37 * 1024)]) 3 rfl ?_
          refine k_gf 37 0 (K := 11) rfl rfl rfl rfl rfl ?_
          refine k_gf 37 1 (K := 11) rfl rfl rfl rfl rfl ?_
          refine k_runB (pc' := 77) (loc' := [(0, .ref (37 * 1024)), (1, .int x1), (2, .int x2), (3, .int x3)]) (st' := [.ref (37 * 1024), .ref (37 * 1024 + 3), .int 2, .ref (37 * 1024)]) 1 rfl ?_
          refine k_gf 37 0 (K := 11) rfl rfl rfl rfl rfl ?_
          obtain ⟨v22, hv22, hD⟩ := Option.bind_eq_some_iff.mp hD
          refine k_ldI rfl (c_get (r := 37) (o := 3) (K := 11) rfl (by decide)) hv22 ?_
          obtain ⟨⟨v23, P24, F25, A26, J27⟩, hv23, hD⟩ := Option.bind_eq_some_iff.mp hD
          dsimp only at hD
          refine k_runV rfl rfl rfl (c_get (r := 37) (o := 0) (K := 11) rfl (by decide)) rfl rfl (t_e_Reader_fail (d := d + 21) ht hv23) ?_
          refine k_runB (pc' := 85) (loc' := [(0, .ref (37 * 1024)), (1, .int x1), (2, .int x2), (3, .int x3)]) (st' := [.ref (37 * 1024)]) 1 rfl ?_
          obtain ⟨⟨v28, P29, F30, A31, J32⟩, hv28, hD⟩ := Option.bind_eq_some_iff.mp hD
          dsimp only at hD
          refine k_runV rfl rfl rfl (c_get (r := 37) (o := 0) (K := 11) rfl (by decide)) rfl rfl (t_e_Reader_readIf (d := d) ht hv28) ?_
          refine k_runB (pc' := 48) (loc' := [(0, .ref (37 * 1024)), (1, .int x1), (2, .int x2), (3, .int (x3 + 1))]) (st' := []) 2 rfl ?_
          refine k_wk [0, 1, 2, 3] (loc' := [(0, .ref (37 * 1024)), (1, .int x1), (2, .int x2), (3, .int (x3 + 1))]) rfl rfl ?_
          exact hK48 _ _ _ _ _ _ _ _  hD
/-- SleepWork$Reader.readLaw()V  -/
def e_Reader_readLaw (n : Nat) (P : Nat → Nat → Nat) (F : Nat → Nat → Int32) (A : Nat → Nat → Nat → Int32) (J : Nat → Nat → Nat → Int64) : Option (Unit × (Nat → Nat → Nat) × (Nat → Nat → Int32) × (Nat → Nat → Nat → Int32) × (Nat → Nat → Nat → Int64)) :=
  (e_Reader_takeFirst P F A J 6 (F 37 9) 8).bind fun (_, P2, F3, A4, J5) =>
  (c_chk 6 (P2 37 5)).bind fun q6 =>
  (e_Reader_takeKnownName_v3 n P2 F3 A4 J5 (F3 q6 17)).bind fun (v7, P8, F9, A10, J11) =>
  (c_chk 6 (P8 37 5)).bind fun q12 =>
  (e_Reader_take P8 F9 A10 J11 61).bind fun (v13, P14, F15, A16, J17) =>
  e_Reader_readLaw_48 n P14 F15 A16 J17 v7 (F9 q12 1304) 0
set_option maxRecDepth 10000 in
theorem t_e_Reader_readLaw (ht : ∀ ci k, t.1 ci k = k_ty ci k) {n : Nat} {P : Nat → Nat → Nat} {F : Nat → Nat → Int32} {A : Nat → Nat → Nat → Int32} {J : Nat → Nat → Nat → Int64}   {w : Unit × (Nat → Nat → Nat) × (Nat → Nat → Int32) × (Nat → Nat → Nat → Int32) × (Nat → Nat → Nat → Int64)} : e_Reader_readLaw n P F A J = some w → k_run t lg (d + 22) 60 0 [(0, .ref (37 * 1024))] [] (c_h c B P F A J) (none, c_h c B w.2.1 w.2.2.1 w.2.2.2.1 w.2.2.2.2) := by
  intro hD
  unfold e_Reader_readLaw at hD
  refine k_runB (pc' := 4) (loc' := [(0, .ref (37 * 1024))]) (st' := [.ref (37 * 1024), .int 6, .ref (37 * 1024)]) 3 rfl ?_
  refine k_gf 37 0 (K := 11) rfl rfl rfl rfl rfl ?_
  refine k_runB (pc' := 9) (loc' := [(0, .ref (37 * 1024))]) (st' := [.int 8, .int (F 37 9), .int 6, .ref (37 * 1024)]) 1 rfl ?_
  obtain ⟨⟨v1, P2, F3, A4, J5⟩, hv1, hD⟩ := Option.bind_eq_some_iff.mp hD
  dsimp only at hD
  refine k_runV rfl rfl rfl (c_get (r := 37) (o := 0) (K := 11) rfl (by decide)) rfl rfl (t_e_Reader_takeFirst (d := d + 19) ht hv1) ?_
  refine k_runB (pc' := 14) (loc' := [(0, .ref (37 * 1024))]) (st' := [.ref (37 * 1024), .ref (37 * 1024)]) 2 rfl ?_
  refine k_gf 37 0 (K := 11) rfl rfl rfl rfl rfl ?_
  refine k_runB (pc' := 18) (loc' := [(0, .ref (37 * 1024))]) (st' := [.ref (37 * 1024), .ref (37 * 1024 + 10), .ref (37 * 1024)]) 1 rfl ?_
  obtain ⟨q6, hq6, hD⟩ := Option.bind_eq_some_iff.mp hD
  refine k_gq 37 0 (K := 11) (K2 := 6) (key := 5) rfl rfl rfl rfl rfl hq6 (fun kq6 => ?_)
  refine k_gf q6 0 (K := 6) kq6 rfl rfl rfl rfl ?_
  obtain ⟨⟨v7, P8, F9, A10, J11⟩, hv7, hD⟩ := Option.bind_eq_some_iff.mp hD
  dsimp only at hD
  refine k_runV rfl rfl rfl (c_get (r := 37) (o := 0) (K := 11) rfl (by decide)) rfl rfl (t_e_Reader_takeKnownName_v3 (d := d + 19) ht hv7) ?_
  refine k_runB (pc' := 29) (loc' := [(0, .ref (37 * 1024)), (1, .int v7)]) (st' := [.ref (37 * 1024)]) 2 rfl ?_
  obtain ⟨q12, hq12, hD⟩ := Option.bind_eq_some_iff.mp hD
  refine k_gq 37 0 (K := 11) (K2 := 6) (key := 5) rfl rfl rfl rfl rfl hq12 (fun kq12 => ?_)
  refine k_gf q12 0 (K := 6) kq12 rfl rfl rfl rfl ?_
  refine k_gf q12 13 (K := 6) kq12 rfl rfl rfl rfl ?_
  refine k_runB (pc' := 42) (loc' := [(0, .ref (37 * 1024)), (1, .int v7), (2, .int (F9 q12 1304))]) (st' := [.int 61, .ref (37 * 1024)]) 3 rfl ?_
  obtain ⟨⟨v13, P14, F15, A16, J17⟩, hv13, hD⟩ := Option.bind_eq_some_iff.mp hD
  dsimp only at hD
  refine k_runV rfl rfl rfl (c_get (r := 37) (o := 0) (K := 11) rfl (by decide)) rfl rfl (t_e_Reader_take (d := d + 20) ht hv13) ?_
  refine k_runB (pc' := 48) (loc' := [(0, .ref (37 * 1024)), (1, .int v7), (2, .int (F9 q12 1304)), (3, .int 0)]) (st' := []) 3 rfl ?_
  refine k_wk [0, 1, 2, 3] (loc' := [(0, .ref (37 * 1024)), (1, .int v7), (2, .int (F9 q12 1304)), (3, .int 0)]) rfl rfl ?_
  exact t_e_Reader_readLaw_48 ht   hD
/-- SleepWork$Reader.readNight()V  -/
def e_Reader_readNight (P : Nat → Nat → Nat) (F : Nat → Nat → Int32) (A : Nat → Nat → Nat → Int32) (J : Nat → Nat → Nat → Int64) : Option (Unit × (Nat → Nat → Nat) × (Nat → Nat → Int32) × (Nat → Nat → Nat → Int32) × (Nat → Nat → Nat → Int64)) :=
  (e_Reader_take P F A J 7).bind fun (v1, P2, F3, A4, J5) =>
  (c_chk 6 (P2 37 5)).bind fun q6 =>
  (e_Reader_takeNumber P2 F3 A4 J5 1 600).bind fun (v7, P8, F9, A10, J11) =>
  (c_pf F9 q6 18 v7).bind fun F12 =>
  (e_Reader_take P8 F12 A10 J11 59).bind fun (v13, P14, F15, A16, J17) =>
  some ((), P14, F15, A16, J17)
set_option maxRecDepth 10000 in
theorem t_e_Reader_readNight (ht : ∀ ci k, t.1 ci k = k_ty ci k) {P : Nat → Nat → Nat} {F : Nat → Nat → Int32} {A : Nat → Nat → Nat → Int32} {J : Nat → Nat → Nat → Int64}   {w : Unit × (Nat → Nat → Nat) × (Nat → Nat → Int32) × (Nat → Nat → Nat → Int32) × (Nat → Nat → Nat → Int64)} : e_Reader_readNight P F A J = some w → k_run t lg (d + 3) 59 0 [(0, .ref (37 * 1024))] [] (c_h c B P F A J) (none, c_h c B w.2.1 w.2.2.1 w.2.2.2.1 w.2.2.2.2) := by
  intro hD
  unfold e_Reader_readNight at hD
  refine k_runB (pc' := 3) (loc' := [(0, .ref (37 * 1024))]) (st' := [.int 7, .ref (37 * 1024)]) 2 rfl ?_
  obtain ⟨⟨v1, P2, F3, A4, J5⟩, hv1, hD⟩ := Option.bind_eq_some_iff.mp hD
  dsimp only at hD
  refine k_runV rfl rfl rfl (c_get (r := 37) (o := 0) (K := 11) rfl (by decide)) rfl rfl (t_e_Reader_take (d := d + 1) ht hv1) ?_
  refine k_runB (pc' := 8) (loc' := [(0, .ref (37 * 1024))]) (st' := [.ref (37 * 1024)]) 2 rfl ?_
  obtain ⟨q6, hq6, hD⟩ := Option.bind_eq_some_iff.mp hD
  refine k_gq 37 0 (K := 11) (K2 := 6) (key := 5) rfl rfl rfl rfl rfl hq6 (fun kq6 => ?_)
  refine k_runB (pc' := 16) (loc' := [(0, .ref (37 * 1024))]) (st' := [.int 600, .int 1, .ref (37 * 1024), .ref (q6 * 1024)]) 3 rfl ?_
  obtain ⟨⟨v7, P8, F9, A10, J11⟩, hv7, hD⟩ := Option.bind_eq_some_iff.mp hD
  dsimp only at hD
  refine k_runV rfl rfl rfl (c_get (r := 37) (o := 0) (K := 11) rfl (by decide)) rfl rfl (t_e_Reader_takeNumber (d := d) ht hv7) ?_
  obtain ⟨F12, hF12, hD⟩ := Option.bind_eq_some_iff.mp hD
  refine k_cpt q6 0 (K := 6) (key := 18) kq6 rfl (ht 1 18) rfl rfl rfl hF12 ?_
  refine k_runB (pc' := 25) (loc' := [(0, .ref (37 * 1024))]) (st' := [.int 59, .ref (37 * 1024)]) 2 rfl ?_
  obtain ⟨⟨v13, P14, F15, A16, J17⟩, hv13, hD⟩ := Option.bind_eq_some_iff.mp hD
  dsimp only at hD
  refine k_runV rfl rfl rfl (c_get (r := 37) (o := 0) (K := 11) rfl (by decide)) rfl rfl (t_e_Reader_take (d := d + 1) ht hv13) ?_
  refine k_runB (pc' := 29) (loc' := [(0, .ref (37 * 1024))]) (st' := []) 1 rfl ?_
  cases hD
  exact k_vret rfl rfl
def e_Reader_readText_171 (n : Nat) (P : Nat → Nat → Nat) (F : Nat → Nat → Int32) (A : Nat → Nat → Nat → Int32) (J : Nat → Nat → Nat → Int64) : Option (Int32 × (Nat → Nat → Nat) × (Nat → Nat → Int32) × (Nat → Nat → Nat → Int32) × (Nat → Nat → Nat → Int64)) :=
    cond (g_cnd .ne (F 37 10) 0)
    (some (F 37 10, P, F, A, J))
    ((c_pf F 37 10 (F 37 12)).bind fun F59 =>
    (c_pf F59 37 11 (F59 37 13)).bind fun F60 =>
    some (F60 37 10, P, F60, A, J))
set_option maxRecDepth 10000 in
theorem t_e_Reader_readText_171 (ht : ∀ ci k, t.1 ci k = k_ty ci k) {n : Nat}  {P : Nat → Nat → Nat} {F : Nat → Nat → Int32} {A : Nat → Nat → Nat → Int32} {J : Nat → Nat → Nat → Int64}   {w : Int32 × (Nat → Nat → Nat) × (Nat → Nat → Int32) × (Nat → Nat → Nat → Int32) × (Nat → Nat → Nat → Int64)} : e_Reader_readText_171 n P F A J = some w → k_run t lg (d + 23) 39 171 [(0, .ref (37 * 1024))] [] (c_h c B P F A J) (some (.int w.1), c_h c B w.2.1 w.2.2.1 w.2.2.2.1 w.2.2.2.2) := by
  intro hD
  unfold e_Reader_readText_171 at hD
  refine k_runB (pc' := 172) (loc' := [(0, .ref (37 * 1024))]) (st' := [.ref (37 * 1024)]) 1 rfl ?_
  refine k_gf 37 0 (K := 11) rfl rfl rfl rfl rfl ?_
  refine k_if rfl (fun c175_57 => ?_) (fun c175_57 => ?_)
  · rw [c175_57, cond_true] at hD
    refine k_runB (pc' := 195) (loc' := [(0, .ref (37 * 1024))]) (st' := [.ref (37 * 1024)]) 1 rfl ?_
    refine k_gf 37 0 (K := 11) rfl rfl rfl rfl rfl ?_
    cases hD
    exact k_iret rfl rfl
  · rw [c175_57, cond_false] at hD
    refine k_runB (pc' := 180) (loc' := [(0, .ref (37 * 1024))]) (st' := [.ref (37 * 1024), .ref (37 * 1024)]) 2 rfl ?_
    refine k_gf 37 0 (K := 11) rfl rfl rfl rfl rfl ?_
    obtain ⟨F59, hF59, hD⟩ := Option.bind_eq_some_iff.mp hD
    refine k_cpt 37 0 (K := 11) (key := 10) rfl rfl (ht 4 10) rfl rfl rfl hF59 ?_
    refine k_runB (pc' := 188) (loc' := [(0, .ref (37 * 1024))]) (st' := [.ref (37 * 1024), .ref (37 * 1024)]) 2 rfl ?_
    refine k_gf 37 0 (K := 11) rfl rfl rfl rfl rfl ?_
    obtain ⟨F60, hF60, hD⟩ := Option.bind_eq_some_iff.mp hD
    refine k_cpt 37 0 (K := 11) (key := 11) rfl rfl (ht 4 11) rfl rfl rfl hF60 ?_
    refine k_runB (pc' := 195) (loc' := [(0, .ref (37 * 1024))]) (st' := [.ref (37 * 1024)]) 1 rfl ?_
    refine k_gf 37 0 (K := 11) rfl rfl rfl rfl rfl ?_
    cases hD
    exact k_iret rfl rfl
def e_Reader_readText_165 (K10 : (Nat → Nat → Nat) → (Nat → Nat → Int32) → (Nat → Nat → Nat → Int32) → (Nat → Nat → Nat → Int64) → Int32 → Option (Int32 × (Nat → Nat → Nat) × (Nat → Nat → Int32) × (Nat → Nat → Nat → Int32) × (Nat → Nat → Nat → Int64))) (n : Nat) (P : Nat → Nat → Nat) (F : Nat → Nat → Int32) (A : Nat → Nat → Nat → Int32) (J : Nat → Nat → Nat → Int64) (x4 : Int32) : Option (Int32 × (Nat → Nat → Nat) × (Nat → Nat → Int32) × (Nat → Nat → Nat → Int32) × (Nat → Nat → Nat → Int64)) :=
    K10 P F A J (x4 + 1)
set_option maxRecDepth 10000 in
theorem t_e_Reader_readText_165 (ht : ∀ ci k, t.1 ci k = k_ty ci k) {n : Nat} {K10 : (Nat → Nat → Nat) → (Nat → Nat → Int32) → (Nat → Nat → Nat → Int32) → (Nat → Nat → Nat → Int64) → Int32 → Option (Int32 × (Nat → Nat → Nat) × (Nat → Nat → Int32) × (Nat → Nat → Nat → Int32) × (Nat → Nat → Nat → Int64))} (hK10 : ∀ (P : Nat → Nat → Nat) (F : Nat → Nat → Int32) (A : Nat → Nat → Nat → Int32) (J : Nat → Nat → Nat → Int64) (x4 : Int32) (w : Int32 × (Nat → Nat → Nat) × (Nat → Nat → Int32) × (Nat → Nat → Nat → Int32) × (Nat → Nat → Nat → Int64)), K10 P F A J x4 = some w → k_run t lg (d + 23) 39 10 [(0, .ref (37 * 1024)), (4, .int x4)] [] (c_h c B P F A J) (some (.int w.1), c_h c B w.2.1 w.2.2.1 w.2.2.2.1 w.2.2.2.2)) {P : Nat → Nat → Nat} {F : Nat → Nat → Int32} {A : Nat → Nat → Nat → Int32} {J : Nat → Nat → Nat → Int64} {x4 : Int32}  {w : Int32 × (Nat → Nat → Nat) × (Nat → Nat → Int32) × (Nat → Nat → Nat → Int32) × (Nat → Nat → Nat → Int64)} : e_Reader_readText_165 K10 n P F A J x4 = some w → k_run t lg (d + 23) 39 165 [(0, .ref (37 * 1024)), (4, .int x4)] [] (c_h c B P F A J) (some (.int w.1), c_h c B w.2.1 w.2.2.1 w.2.2.2.1 w.2.2.2.2) := by
  intro hD
  unfold e_Reader_readText_165 at hD
  refine k_runB (pc' := 10) (loc' := [(0, .ref (37 * 1024)), (4, .int (x4 + 1))]) (st' := []) 2 rfl ?_
  refine k_wk [0, 4] (loc' := [(0, .ref (37 * 1024)), (4, .int (x4 + 1))]) rfl rfl ?_
  exact hK10 _ _ _ _ _ _  hD
def e_Reader_readText_10 : Nat → (Nat → Nat → Nat) → (Nat → Nat → Int32) → (Nat → Nat → Nat → Int32) → (Nat → Nat → Nat → Int64) → Int32 → Option (Int32 × (Nat → Nat → Nat) × (Nat → Nat → Int32) × (Nat → Nat → Nat → Int32) × (Nat → Nat → Nat → Int64))
  | 0, _, _, _, _, _ => none
  | n + 1, P, F, A, J, x4 => cond (g_cnd .gt x4 400)
    (e_Reader_readText_171 n P F A J)
    (cond (g_cnd .ne (F 37 10) 0)
    (e_Reader_readText_171 n P F A J)
    ((e_Reader_isNext P F A J 102).bind fun v8 =>
    cond (g_cnd .ne v8 0)
    (e_Reader_readText_171 n P F A J)
    ((m_ld (A 37 2) 401 (F 37 7)).bind fun v10 =>
    cond (decide (v10 = 0))
    ((e_Reader_readRoom n P F A J).bind fun (_, P13, F14, A15, J16) =>
    e_Reader_readText_165 (e_Reader_readText_10 n) n P13 F14 A15 J16 x4)
    (cond (decide (v10 = 1))
    ((e_Reader_readDoor n P F A J).bind fun (_, P18, F19, A20, J21) =>
    e_Reader_readText_165 (e_Reader_readText_10 n) n P18 F19 A20 J21 x4)
    (cond (decide (v10 = 2))
    ((e_Reader_readTool n P F A J).bind fun (_, P23, F24, A25, J26) =>
    e_Reader_readText_165 (e_Reader_readText_10 n) n P23 F24 A25 J26 x4)
    (cond (decide (v10 = 3))
    ((e_Reader_readTask n P F A J).bind fun (_, P28, F29, A30, J31) =>
    e_Reader_readText_165 (e_Reader_readText_10 n) n P28 F29 A30 J31 x4)
    (cond (decide (v10 = 4))
    ((e_Reader_readStep n P F A J).bind fun (_, P33, F34, A35, J36) =>
    e_Reader_readText_165 (e_Reader_readText_10 n) n P33 F34 A35 J36 x4)
    (cond (decide (v10 = 5))
    ((e_Reader_readMan n P F A J).bind fun (_, P38, F39, A40, J41) =>
    e_Reader_readText_165 (e_Reader_readText_10 n) n P38 F39 A40 J41 x4)
    (cond (decide (v10 = 6))
    ((e_Reader_readLaw n P F A J).bind fun (_, P43, F44, A45, J46) =>
    e_Reader_readText_165 (e_Reader_readText_10 n) n P43 F44 A45 J46 x4)
    (cond (decide (v10 = 7))
    ((e_Reader_readNight P F A J).bind fun (_, P48, F49, A50, J51) =>
    e_Reader_readText_165 (e_Reader_readText_10 n) n P48 F49 A50 J51 x4)
    ((m_ld (A 37 3) 401 (F 37 7)).bind fun v52 =>
    (e_Reader_fail P F A J 1 v52).bind fun (_, P54, F55, A56, J57) =>
    (e_Reader_readText_10 n) P54 F55 A56 J57 (x4 + 1))))))))))))
set_option maxRecDepth 10000 in
theorem t_e_Reader_readText_10 (ht : ∀ ci k, t.1 ci k = k_ty ci k) {n : Nat}  {P : Nat → Nat → Nat} {F : Nat → Nat → Int32} {A : Nat → Nat → Nat → Int32} {J : Nat → Nat → Nat → Int64} {x4 : Int32}  {w : Int32 × (Nat → Nat → Nat) × (Nat → Nat → Int32) × (Nat → Nat → Nat → Int32) × (Nat → Nat → Nat → Int64)} : e_Reader_readText_10 n P F A J x4 = some w → k_run t lg (d + 23) 39 10 [(0, .ref (37 * 1024)), (4, .int x4)] [] (c_h c B P F A J) (some (.int w.1), c_h c B w.2.1 w.2.2.1 w.2.2.2.1 w.2.2.2.2) := by
  induction n generalizing P F A J x4 w with
  | zero => intro hD; cases hD
  | succ n ih =>
    intro hD
    have hK10 : ∀ (P : Nat → Nat → Nat) (F : Nat → Nat → Int32) (A : Nat → Nat → Nat → Int32) (J : Nat → Nat → Nat → Int64) (x4 : Int32) (w : Int32 × (Nat → Nat → Nat) × (Nat → Nat → Int32) × (Nat → Nat → Nat → Int32) × (Nat → Nat → Nat → Int64)), e_Reader_readText_10 n P F A J x4 = some w → k_run t lg (d + 23) 39 10 [(0, .ref (37 * 1024)), (4, .int x4)] [] (c_h c B P F A J) (some (.int w.1), c_h c B w.2.1 w.2.2.1 w.2.2.2.1 w.2.2.2.2) := fun _ _ _ _ _ _  h => ih  h
    unfold e_Reader_readText_10 at hD
    refine k_runB (pc' := 15) (loc' := [(0, .ref (37 * 1024)), (4, .int x4)]) (st' := [.int 400, .int x4]) 2 rfl ?_
    refine k_ic rfl (fun c15_5 => ?_) (fun c15_5 => ?_)
    · rw [c15_5, cond_true] at hD
      refine k_wk [0] (loc' := [(0, .ref (37 * 1024))]) rfl rfl ?_
      exact t_e_Reader_readText_171 ht   hD
    · rw [c15_5, cond_false] at hD
      refine k_runB (pc' := 19) (loc' := [(0, .ref (37 * 1024)), (4, .int x4)]) (st' := [.ref (37 * 1024)]) 1 rfl ?_
      refine k_gf 37 0 (K := 11) rfl rfl rfl rfl rfl ?_
      refine k_if rfl (fun c22_6 => ?_) (fun c22_6 => ?_)
      · rw [c22_6, cond_true] at hD
        refine k_wk [0] (loc' := [(0, .ref (37 * 1024))]) rfl rfl ?_
        exact t_e_Reader_readText_171 ht   hD
      · rw [c22_6, cond_false] at hD
        refine k_runB (pc' := 28) (loc' := [(0, .ref (37 * 1024)), (4, .int x4)]) (st' := [.int 102, .ref (37 * 1024)]) 2 rfl ?_
        obtain ⟨v8, hv8, hD⟩ := Option.bind_eq_some_iff.mp hD
        refine k_runV rfl rfl rfl (c_get (r := 37) (o := 0) (K := 11) rfl (by decide)) rfl rfl (t_e_Reader_isNext (d := d + 22) hv8) ?_
        refine k_if rfl (fun c31_8 => ?_) (fun c31_8 => ?_)
        · rw [c31_8, cond_true] at hD
          refine k_wk [0] (loc' := [(0, .ref (37 * 1024))]) rfl rfl ?_
          exact t_e_Reader_readText_171 ht   hD
        · rw [c31_8, cond_false] at hD
          refine k_runB (pc' := 35) (loc' := [(0, .ref (37 * 1024)), (4, .int x4)]) (st' := [.ref (37 * 1024)]) 1 rfl ?_
          refine k_gf 37 0 (K := 11) rfl rfl rfl rfl rfl ?_
          refine k_gf 37 1 (K := 11) rfl rfl rfl rfl rfl ?_
          refine k_runB (pc' := 42) (loc' := [(0, .ref (37 * 1024)), (4, .int x4)]) (st' := [.ref (37 * 1024), .ref (37 * 1024 + 2)]) 1 rfl ?_
          refine k_gf 37 0 (K := 11) rfl rfl rfl rfl rfl ?_
          obtain ⟨v10, hv10, hD⟩ := Option.bind_eq_some_iff.mp hD
          refine k_ldI rfl (c_get (r := 37) (o := 2) (K := 11) rfl (by decide)) hv10 ?_
          cases c46_10_0 : decide (v10 = 0) with
          | true =>
            rw [c46_10_0, cond_true] at hD
            refine k_tab (tgt := 92) rfl (by rw [of_decide_eq_true c46_10_0]; decide) ?_
            refine k_runB (pc' := 93) (loc' := [(0, .ref (37 * 1024)), (4, .int x4)]) (st' := [.ref (37 * 1024)]) 1 rfl ?_
            obtain ⟨⟨v12, P13, F14, A15, J16⟩, hv12, hD⟩ := Option.bind_eq_some_iff.mp hD
            dsimp only at hD
            refine k_runV rfl rfl rfl (c_get (r := 37) (o := 0) (K := 11) rfl (by decide)) rfl rfl (t_e_Reader_readRoom (d := d + 19) ht hv12) ?_
            refine k_runB (pc' := 165) (loc' := [(0, .ref (37 * 1024)), (4, .int x4)]) (st' := []) 1 rfl ?_
            refine k_wk [0, 4] (loc' := [(0, .ref (37 * 1024)), (4, .int x4)]) rfl rfl ?_
            exact t_e_Reader_readText_165 ht hK10  hD
          | false =>
            rw [c46_10_0, cond_false] at hD
            cases c46_10_1 : decide (v10 = 1) with
            | true =>
              rw [c46_10_1, cond_true] at hD
              refine k_tab (tgt := 99) rfl (by rw [of_decide_eq_true c46_10_1]; decide) ?_
              refine k_runB (pc' := 100) (loc' := [(0, .ref (37 * 1024)), (4, .int x4)]) (st' := [.ref (37 * 1024)]) 1 rfl ?_
              obtain ⟨⟨v17, P18, F19, A20, J21⟩, hv17, hD⟩ := Option.bind_eq_some_iff.mp hD
              dsimp only at hD
              refine k_runV rfl rfl rfl (c_get (r := 37) (o := 0) (K := 11) rfl (by decide)) rfl rfl (t_e_Reader_readDoor (d := d + 19) ht hv17) ?_
              refine k_runB (pc' := 165) (loc' := [(0, .ref (37 * 1024)), (4, .int x4)]) (st' := []) 1 rfl ?_
              refine k_wk [0, 4] (loc' := [(0, .ref (37 * 1024)), (4, .int x4)]) rfl rfl ?_
              exact t_e_Reader_readText_165 ht hK10  hD
            | false =>
              rw [c46_10_1, cond_false] at hD
              cases c46_10_2 : decide (v10 = 2) with
              | true =>
                rw [c46_10_2, cond_true] at hD
                refine k_tab (tgt := 106) rfl (by rw [of_decide_eq_true c46_10_2]; decide) ?_
                refine k_runB (pc' := 107) (loc' := [(0, .ref (37 * 1024)), (4, .int x4)]) (st' := [.ref (37 * 1024)]) 1 rfl ?_
                obtain ⟨⟨v22, P23, F24, A25, J26⟩, hv22, hD⟩ := Option.bind_eq_some_iff.mp hD
                dsimp only at hD
                refine k_runV rfl rfl rfl (c_get (r := 37) (o := 0) (K := 11) rfl (by decide)) rfl rfl (t_e_Reader_readTool (d := d + 19) ht hv22) ?_
                refine k_runB (pc' := 165) (loc' := [(0, .ref (37 * 1024)), (4, .int x4)]) (st' := []) 1 rfl ?_
                refine k_wk [0, 4] (loc' := [(0, .ref (37 * 1024)), (4, .int x4)]) rfl rfl ?_
                exact t_e_Reader_readText_165 ht hK10  hD
              | false =>
                rw [c46_10_2, cond_false] at hD
                cases c46_10_3 : decide (v10 = 3) with
                | true =>
                  rw [c46_10_3, cond_true] at hD
                  refine k_tab (tgt := 113) rfl (by rw [of_decide_eq_true c46_10_3]; decide) ?_
                  refine k_runB (pc' := 114) (loc' := [(0, .ref (37 * 1024)), (4, .int x4)]) (st' := [.ref (37 * 1024)]) 1 rfl ?_
                  obtain ⟨⟨v27, P28, F29, A30, J31⟩, hv27, hD⟩ := Option.bind_eq_some_iff.mp hD
                  dsimp only at hD
                  refine k_runV rfl rfl rfl (c_get (r := 37) (o := 0) (K := 11) rfl (by decide)) rfl rfl (t_e_Reader_readTask (d := d + 19) ht hv27) ?_
                  refine k_runB (pc' := 165) (loc' := [(0, .ref (37 * 1024)), (4, .int x4)]) (st' := []) 1 rfl ?_
                  refine k_wk [0, 4] (loc' := [(0, .ref (37 * 1024)), (4, .int x4)]) rfl rfl ?_
                  exact t_e_Reader_readText_165 ht hK10  hD
                | false =>
                  rw [c46_10_3, cond_false] at hD
                  cases c46_10_4 : decide (v10 = 4) with
                  | true =>
                    rw [c46_10_4, cond_true] at hD
                    refine k_tab (tgt := 120) rfl (by rw [of_decide_eq_true c46_10_4]; decide) ?_
                    refine k_runB (pc' := 121) (loc' := [(0, .ref (37 * 1024)), (4, .int x4)]) (st' := [.ref (37 * 1024)]) 1 rfl ?_
                    obtain ⟨⟨v32, P33, F34, A35, J36⟩, hv32, hD⟩ := Option.bind_eq_some_iff.mp hD
                    dsimp only at hD
                    refine k_runV rfl rfl rfl (c_get (r := 37) (o := 0) (K := 11) rfl (by decide)) rfl rfl (t_e_Reader_readStep (d := d + 18) ht hv32) ?_
                    refine k_runB (pc' := 165) (loc' := [(0, .ref (37 * 1024)), (4, .int x4)]) (st' := []) 1 rfl ?_
                    refine k_wk [0, 4] (loc' := [(0, .ref (37 * 1024)), (4, .int x4)]) rfl rfl ?_
                    exact t_e_Reader_readText_165 ht hK10  hD
                  | false =>
                    rw [c46_10_4, cond_false] at hD
                    cases c46_10_5 : decide (v10 = 5) with
                    | true =>
                      rw [c46_10_5, cond_true] at hD
                      refine k_tab (tgt := 127) rfl (by rw [of_decide_eq_true c46_10_5]; decide) ?_
                      refine k_runB (pc' := 128) (loc' := [(0, .ref (37 * 1024)), (4, .int x4)]) (st' := [.ref (37 * 1024)]) 1 rfl ?_
                      obtain ⟨⟨v37, P38, F39, A40, J41⟩, hv37, hD⟩ := Option.bind_eq_some_iff.mp hD
                      dsimp only at hD
                      refine k_runV rfl rfl rfl (c_get (r := 37) (o := 0) (K := 11) rfl (by decide)) rfl rfl (t_e_Reader_readMan (d := d + 18) ht hv37) ?_
                      refine k_runB (pc' := 165) (loc' := [(0, .ref (37 * 1024)), (4, .int x4)]) (st' := []) 1 rfl ?_
                      refine k_wk [0, 4] (loc' := [(0, .ref (37 * 1024)), (4, .int x4)]) rfl rfl ?_
                      exact t_e_Reader_readText_165 ht hK10  hD
                    | false =>
                      rw [c46_10_5, cond_false] at hD
                      cases c46_10_6 : decide (v10 = 6) with
                      | true =>
                        rw [c46_10_6, cond_true] at hD
                        refine k_tab (tgt := 134) rfl (by rw [of_decide_eq_true c46_10_6]; decide) ?_
                        refine k_runB (pc' := 135) (loc' := [(0, .ref (37 * 1024)), (4, .int x4)]) (st' := [.ref (37 * 1024)]) 1 rfl ?_
                        obtain ⟨⟨v42, P43, F44, A45, J46⟩, hv42, hD⟩ := Option.bind_eq_some_iff.mp hD
                        dsimp only at hD
                        refine k_runV rfl rfl rfl (c_get (r := 37) (o := 0) (K := 11) rfl (by decide)) rfl rfl (t_e_Reader_readLaw (d := d) ht hv42) ?_
                        refine k_runB (pc' := 165) (loc' := [(0, .ref (37 * 1024)), (4, .int x4)]) (st' := []) 1 rfl ?_
                        refine k_wk [0, 4] (loc' := [(0, .ref (37 * 1024)), (4, .int x4)]) rfl rfl ?_
                        exact t_e_Reader_readText_165 ht hK10  hD
                      | false =>
                        rw [c46_10_6, cond_false] at hD
                        cases c46_10_7 : decide (v10 = 7) with
                        | true =>
                          rw [c46_10_7, cond_true] at hD
                          refine k_tab (tgt := 141) rfl (by rw [of_decide_eq_true c46_10_7]; decide) ?_
                          refine k_runB (pc' := 142) (loc' := [(0, .ref (37 * 1024)), (4, .int x4)]) (st' := [.ref (37 * 1024)]) 1 rfl ?_
                          obtain ⟨⟨v47, P48, F49, A50, J51⟩, hv47, hD⟩ := Option.bind_eq_some_iff.mp hD
                          dsimp only at hD
                          refine k_runV rfl rfl rfl (c_get (r := 37) (o := 0) (K := 11) rfl (by decide)) rfl rfl (t_e_Reader_readNight (d := d + 19) ht hv47) ?_
                          refine k_runB (pc' := 165) (loc' := [(0, .ref (37 * 1024)), (4, .int x4)]) (st' := []) 1 rfl ?_
                          refine k_wk [0, 4] (loc' := [(0, .ref (37 * 1024)), (4, .int x4)]) rfl rfl ?_
                          exact t_e_Reader_readText_165 ht hK10  hD
                        | false =>
                          rw [c46_10_7, cond_false] at hD
                          refine k_tab (tgt := 148) rfl (by rw [if_pos (m_out (lo := 0) (hi := 7) [0, 1, 2, 3, 4, 5, 6, 7] (by decide) (by decide) (List.forall_mem_cons.mpr ⟨of_decide_eq_false c46_10_0, List.forall_mem_cons.mpr ⟨of_decide_eq_false c46_10_1, List.forall_mem_cons.mpr ⟨of_decide_eq_false c46_10_2, List.forall_mem_cons.mpr ⟨of_decide_eq_false c46_10_3, List.forall_mem_cons.mpr ⟨of_decide_eq_false c46_10_4, List.forall_mem_cons.mpr ⟨of_decide_eq_false c46_10_5, List.forall_mem_cons.mpr ⟨of_decide_eq_false c46_10_6, List.forall_mem_cons.mpr ⟨of_decide_eq_false c46_10_7, fun _ h => absurd h List.not_mem_nil⟩⟩⟩⟩⟩⟩⟩⟩))]; rfl) ?_
                          refine k_runB (pc' := 151) (loc' := [(0, .ref (37 * 1024)), (4, .int x4)]) (st' := [.ref (37 * 1024), .int 1, .ref (37 * 1024)]) 3 rfl ?_
                          refine k_gf 37 0 (K := 11) rfl rfl rfl rfl rfl ?_
                          refine k_gf 37 1 (K := 11) rfl rfl rfl rfl rfl ?_
                          refine k_runB (pc' := 158) (loc' := [(0, .ref (37 * 1024)), (4, .int x4)]) (st' := [.ref (37 * 1024), .ref (37 * 1024 + 3), .int 1, .ref (37 * 1024)]) 1 rfl ?_
                          refine k_gf 37 0 (K := 11) rfl rfl rfl rfl rfl ?_
                          obtain ⟨v52, hv52, hD⟩ := Option.bind_eq_some_iff.mp hD
                          refine k_ldI rfl (c_get (r := 37) (o := 3) (K := 11) rfl (by decide)) hv52 ?_
                          obtain ⟨⟨v53, P54, F55, A56, J57⟩, hv53, hD⟩ := Option.bind_eq_some_iff.mp hD
                          dsimp only at hD
                          refine k_runV rfl rfl rfl (c_get (r := 37) (o := 0) (K := 11) rfl (by decide)) rfl rfl (t_e_Reader_fail (d := d + 22) ht hv53) ?_
                          refine k_runB (pc' := 10) (loc' := [(0, .ref (37 * 1024)), (4, .int (x4 + 1))]) (st' := []) 2 rfl ?_
                          refine k_wk [0, 4] (loc' := [(0, .ref (37 * 1024)), (4, .int (x4 + 1))]) rfl rfl ?_
                          exact hK10 _ _ _ _ _ _  hD
/-- SleepWork$Reader.readText(LSleepWork$Tape;LSleepWork$House;LSleepWork$State;)I  -/
def e_Reader_readText (n : Nat) (P : Nat → Nat → Nat) (F : Nat → Nat → Int32) (A : Nat → Nat → Nat → Int32) (J : Nat → Nat → Nat → Int64) (r2 : Nat) (r3 : Nat) : Option (Int32 × (Nat → Nat → Nat) × (Nat → Nat → Int32) × (Nat → Nat → Nat → Int32) × (Nat → Nat → Nat → Int64)) :=
  (e_Reader_open n P F A J r2 r3).bind fun (_, P2, F3, A4, J5) =>
  e_Reader_readText_10 n P2 F3 A4 J5 0
set_option maxRecDepth 10000 in
theorem t_e_Reader_readText (ht : ∀ ci k, t.1 ci k = k_ty ci k) {n : Nat} {P : Nat → Nat → Nat} {F : Nat → Nat → Int32} {A : Nat → Nat → Nat → Int32} {J : Nat → Nat → Nat → Int64} {r2 : Nat} {r3 : Nat} (hr2 : c_kind r2 = 6) (hr3 : c_kind r3 = 2) {w : Int32 × (Nat → Nat → Nat) × (Nat → Nat → Int32) × (Nat → Nat → Nat → Int32) × (Nat → Nat → Nat → Int64)} : e_Reader_readText n P F A J r2 r3 = some w → k_run t lg (d + 23) 39 0 [(0, .ref (37 * 1024)), (1, .ref (1 * 1024)), (2, .ref (r2 * 1024)), (3, .ref (r3 * 1024))] [] (c_h c B P F A J) (some (.int w.1), c_h c B w.2.1 w.2.2.1 w.2.2.2.1 w.2.2.2.2) := by
  intro hD
  unfold e_Reader_readText at hD
  refine k_runB (pc' := 4) (loc' := [(0, .ref (37 * 1024)), (1, .ref (1 * 1024)), (2, .ref (r2 * 1024)), (3, .ref (r3 * 1024))]) (st' := [.ref (r3 * 1024), .ref (r2 * 1024), .ref (1 * 1024), .ref (37 * 1024)]) 4 rfl ?_
  obtain ⟨⟨v1, P2, F3, A4, J5⟩, hv1, hD⟩ := Option.bind_eq_some_iff.mp hD
  dsimp only at hD
  refine k_runV rfl rfl rfl (c_get (r := 37) (o := 0) (K := 11) rfl (by decide)) rfl rfl (t_e_Reader_open (d := d + 16) ht hr2 hr3 hv1) ?_
  refine k_runB (pc' := 10) (loc' := [(0, .ref (37 * 1024)), (1, .ref (1 * 1024)), (2, .ref (r2 * 1024)), (3, .ref (r3 * 1024)), (4, .int 0)]) (st' := []) 2 rfl ?_
  refine k_wk [0, 4] (loc' := [(0, .ref (37 * 1024)), (4, .int 0)]) rfl rfl ?_
  exact t_e_Reader_readText_10 ht   hD
/-- SleepWork$Reader.placeOfFault()I  -/
def e_Reader_placeOfFault (P : Nat → Nat → Nat) (F : Nat → Nat → Int32) (A : Nat → Nat → Nat → Int32) (J : Nat → Nat → Nat → Int64) : Option (Int32) :=
  cond (g_cnd .ne (F 37 10) 0)
  (some (F 37 11))
  (some ((-1)))
set_option maxRecDepth 10000 in
theorem t_e_Reader_placeOfFault {P : Nat → Nat → Nat} {F : Nat → Nat → Int32} {A : Nat → Nat → Nat → Int32} {J : Nat → Nat → Nat → Int64}   {w : Int32} : e_Reader_placeOfFault P F A J = some w → k_run t lg (d) 40 0 [(0, .ref (37 * 1024))] [] (c_h c B P F A J) (some (.int w), c_h c B P F A J) := by
  intro hD
  unfold e_Reader_placeOfFault at hD
  refine k_runB (pc' := 1) (loc' := [(0, .ref (37 * 1024))]) (st' := [.ref (37 * 1024)]) 1 rfl ?_
  refine k_gf 37 0 (K := 11) rfl rfl rfl rfl rfl ?_
  refine k_if rfl (fun c4_0 => ?_) (fun c4_0 => ?_)
  · rw [c4_0, cond_true] at hD
    refine k_runB (pc' := 12) (loc' := [(0, .ref (37 * 1024))]) (st' := [.ref (37 * 1024)]) 1 rfl ?_
    refine k_gf 37 0 (K := 11) rfl rfl rfl rfl rfl ?_
    cases hD
    exact k_iret rfl rfl
  · rw [c4_0, cond_false] at hD
    refine k_runB (pc' := 15) (loc' := [(0, .ref (37 * 1024))]) (st' := [.int ((-1))]) 2 rfl ?_
    cases hD
    exact k_iret rfl rfl
/-- SleepWork$Tape.hasSpace()Z  -/
def e_Tape_hasSpace (P : Nat → Nat → Nat) (F : Nat → Nat → Int32) (A : Nat → Nat → Nat → Int32) (J : Nat → Nat → Nat → Int64) : Option (Int32) :=
  cond (g_cnd .gt ((F 1 1) + 20) 2000)
  (some (0))
  (some (1))
set_option maxRecDepth 10000 in
theorem t_e_Tape_hasSpace {P : Nat → Nat → Nat} {F : Nat → Nat → Int32} {A : Nat → Nat → Nat → Int32} {J : Nat → Nat → Nat → Int64}   {w : Int32} : e_Tape_hasSpace P F A J = some w → k_run t lg (d) 87 0 [(0, .ref (1 * 1024))] [] (c_h c B P F A J) (some (.int w), c_h c B P F A J) := by
  intro hD
  unfold e_Tape_hasSpace at hD
  refine k_runB (pc' := 1) (loc' := [(0, .ref (1 * 1024))]) (st' := [.ref (1 * 1024)]) 1 rfl ?_
  refine k_gf 1 0 (K := 1) rfl rfl rfl rfl rfl ?_
  refine k_runB (pc' := 10) (loc' := [(0, .ref (1 * 1024))]) (st' := [.int 2000, .int ((F 1 1) + 20)]) 3 rfl ?_
  refine k_ic rfl (fun c10_0 => ?_) (fun c10_0 => ?_)
  · rw [c10_0, cond_true] at hD
    refine k_runB (pc' := 18) (loc' := [(0, .ref (1 * 1024))]) (st' := [.int 0]) 1 rfl ?_
    cases hD
    exact k_zret rfl rfl (Or.inl rfl)
  · rw [c10_0, cond_false] at hD
    refine k_runB (pc' := 18) (loc' := [(0, .ref (1 * 1024))]) (st' := [.int 1]) 2 rfl ?_
    cases hD
    exact k_zret rfl rfl (Or.inr rfl)
def e_Tape_addWord_3 : Nat → (Nat → Nat → Nat) → (Nat → Nat → Int32) → (Nat → Nat → Nat → Int32) → (Nat → Nat → Nat → Int64) → Int32 → Int32 → Option (Unit × (Nat → Nat → Nat) × (Nat → Nat → Int32) × (Nat → Nat → Nat → Int32) × (Nat → Nat → Nat → Int64))
  | 0, _, _, _, _, _, _ => none
  | n + 1, P, F, A, J, x1, x2 => cond (g_cnd .lt x2 0)
    (some ((), P, F, A, J))
    (cond (g_cnd .ge (F 1 1) 2000)
    (some ((), P, F, A, J))
    ((c_st A 1 1 2000 (F 1 1) (vp_nar .byte ((x1 >>> (x2 &&& 31)).toInt8.toInt32))).bind fun A3 =>
    (c_pf F 1 1 ((F 1 1) + 1)).bind fun F4 =>
    (e_Tape_addWord_3 n) P F4 A3 J x1 (x2 + (-8))))
set_option maxRecDepth 10000 in
theorem t_e_Tape_addWord_3 (ht : ∀ ci k, t.1 ci k = k_ty ci k) {n : Nat}  {P : Nat → Nat → Nat} {F : Nat → Nat → Int32} {A : Nat → Nat → Nat → Int32} {J : Nat → Nat → Nat → Int64} {x1 : Int32} {x2 : Int32}  {w : Unit × (Nat → Nat → Nat) × (Nat → Nat → Int32) × (Nat → Nat → Nat → Int32) × (Nat → Nat → Nat → Int64)} : e_Tape_addWord_3 n P F A J x1 x2 = some w → k_run t lg (d) 88 3 [(0, .ref (1 * 1024)), (1, .int x1), (2, .int x2)] [] (c_h c B P F A J) (none, c_h c B w.2.1 w.2.2.1 w.2.2.2.1 w.2.2.2.2) := by
  induction n generalizing P F A J x1 x2 w with
  | zero => intro hD; cases hD
  | succ n ih =>
    intro hD
    have hK3 : ∀ (P : Nat → Nat → Nat) (F : Nat → Nat → Int32) (A : Nat → Nat → Nat → Int32) (J : Nat → Nat → Nat → Int64) (x1 : Int32) (x2 : Int32) (w : Unit × (Nat → Nat → Nat) × (Nat → Nat → Int32) × (Nat → Nat → Nat → Int32) × (Nat → Nat → Nat → Int64)), e_Tape_addWord_3 n P F A J x1 x2 = some w → k_run t lg (d) 88 3 [(0, .ref (1 * 1024)), (1, .int x1), (2, .int x2)] [] (c_h c B P F A J) (none, c_h c B w.2.1 w.2.2.1 w.2.2.2.1 w.2.2.2.2) := fun _ _ _ _ _ _ _  h => ih  h
    unfold e_Tape_addWord_3 at hD
    refine k_runB (pc' := 4) (loc' := [(0, .ref (1 * 1024)), (1, .int x1), (2, .int x2)]) (st' := [.int x2]) 1 rfl ?_
    refine k_if rfl (fun c4_0 => ?_) (fun c4_0 => ?_)
    · rw [c4_0, cond_true] at hD
      cases hD
      exact k_vret rfl rfl
    · rw [c4_0, cond_false] at hD
      refine k_runB (pc' := 8) (loc' := [(0, .ref (1 * 1024)), (1, .int x1), (2, .int x2)]) (st' := [.ref (1 * 1024)]) 1 rfl ?_
      refine k_gf 1 0 (K := 1) rfl rfl rfl rfl rfl ?_
      refine k_runB (pc' := 14) (loc' := [(0, .ref (1 * 1024)), (1, .int x1), (2, .int x2)]) (st' := [.int 2000, .int (F 1 1)]) 1 rfl ?_
      refine k_ic rfl (fun c14_1 => ?_) (fun c14_1 => ?_)
      · rw [c14_1, cond_true] at hD
        cases hD
        exact k_vret rfl rfl
      · rw [c14_1, cond_false] at hD
        refine k_runB (pc' := 18) (loc' := [(0, .ref (1 * 1024)), (1, .int x1), (2, .int x2)]) (st' := [.ref (1 * 1024)]) 1 rfl ?_
        refine k_gf 1 0 (K := 1) rfl rfl rfl rfl rfl ?_
        refine k_runB (pc' := 22) (loc' := [(0, .ref (1 * 1024)), (1, .int x1), (2, .int x2)]) (st' := [.ref (1 * 1024), .ref (1 * 1024 + 1)]) 1 rfl ?_
        refine k_gf 1 0 (K := 1) rfl rfl rfl rfl rfl ?_
        refine k_runB (pc' := 29) (loc' := [(0, .ref (1 * 1024)), (1, .int x1), (2, .int x2)]) (st' := [.int ((x1 >>> (x2 &&& 31)).toInt8.toInt32), .int (F 1 1), .ref (1 * 1024 + 1)]) 4 rfl ?_
        obtain ⟨A3, hA3, hD⟩ := Option.bind_eq_some_iff.mp hD
        refine k_cstB 1 1 (K := 1) rfl rfl rfl rfl (fun _ => rfl) hA3 ?_
        refine k_runB (pc' := 32) (loc' := [(0, .ref (1 * 1024)), (1, .int x1), (2, .int x2)]) (st' := [.ref (1 * 1024), .ref (1 * 1024)]) 2 rfl ?_
        refine k_gf 1 0 (K := 1) rfl rfl rfl rfl rfl ?_
        refine k_runB (pc' := 37) (loc' := [(0, .ref (1 * 1024)), (1, .int x1), (2, .int x2)]) (st' := [.int ((F 1 1) + 1), .ref (1 * 1024)]) 2 rfl ?_
        obtain ⟨F4, hF4, hD⟩ := Option.bind_eq_some_iff.mp hD
        refine k_cpt 1 0 (K := 1) (key := 1) rfl rfl (ht 8 1) rfl rfl rfl hF4 ?_
        refine k_runB (pc' := 3) (loc' := [(0, .ref (1 * 1024)), (1, .int x1), (2, .int (x2 + (-8)))]) (st' := []) 2 rfl ?_
        refine k_wk [0, 1, 2] (loc' := [(0, .ref (1 * 1024)), (1, .int x1), (2, .int (x2 + (-8)))]) rfl rfl ?_
        exact hK3 _ _ _ _ _ _ _  hD
/-- SleepWork$Tape.addWord(I)V  -/
def e_Tape_addWord (n : Nat) (P : Nat → Nat → Nat) (F : Nat → Nat → Int32) (A : Nat → Nat → Nat → Int32) (J : Nat → Nat → Nat → Int64) (x1 : Int32) : Option (Unit × (Nat → Nat → Nat) × (Nat → Nat → Int32) × (Nat → Nat → Nat → Int32) × (Nat → Nat → Nat → Int64)) :=
  e_Tape_addWord_3 n P F A J x1 24
set_option maxRecDepth 10000 in
theorem t_e_Tape_addWord (ht : ∀ ci k, t.1 ci k = k_ty ci k) {n : Nat} {P : Nat → Nat → Nat} {F : Nat → Nat → Int32} {A : Nat → Nat → Nat → Int32} {J : Nat → Nat → Nat → Int64} {x1 : Int32}  {w : Unit × (Nat → Nat → Nat) × (Nat → Nat → Int32) × (Nat → Nat → Nat → Int32) × (Nat → Nat → Nat → Int64)} : e_Tape_addWord n P F A J x1 = some w → k_run t lg (d) 88 0 [(0, .ref (1 * 1024)), (1, .int x1)] [] (c_h c B P F A J) (none, c_h c B w.2.1 w.2.2.1 w.2.2.2.1 w.2.2.2.2) := by
  intro hD
  unfold e_Tape_addWord at hD
  refine k_runB (pc' := 3) (loc' := [(0, .ref (1 * 1024)), (1, .int x1), (2, .int 24)]) (st' := []) 2 rfl ?_
  refine k_wk [0, 1, 2] (loc' := [(0, .ref (1 * 1024)), (1, .int x1), (2, .int 24)]) rfl rfl ?_
  exact t_e_Tape_addWord_3 ht   hD
end MC
