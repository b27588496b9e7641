/-! the class's methods as functions (printed by wip/dec2.py) -/
section MC
variable {t : gT} {lg : Nat → Nat} {d : Nat} {c : Nat × Nat} {B : Nat → List gE}
def e_Reader_readStep_107 (n : Nat) (P : Nat → Nat → Nat) (F : Nat → Nat → Int32) (A : Nat → Nat → Nat → Int32) (J : Nat → Nat → Nat → Int64) (x1 : Int32) (x2 : Int32) (x3 : Int32) (x4 : Int32) (x5 : Int32) (x6 : Int32) (x7 : Int32) : Option (Unit × (Nat → Nat → Nat) × (Nat → Nat → Int32) × (Nat → Nat → Nat → Int32) × (Nat → Nat → Nat → Int64)) :=
    (e_Reader_take P F A J 59).bind fun (v53, P54, F55, A56, J57) =>
    cond (g_cnd .eq v53 0)
    (some ((), P54, F55, A56, J57))
    (cond (g_cnd .lt x1 0)
    (some ((), P54, F55, A56, J57))
    ((c_chk 6 (P54 37 5)).bind fun q60 =>
    (m_ld (A56 q60 5) 6 x1).bind fun v61 =>
    (c_chk 6 (P54 37 5)).bind fun q62 =>
    (c_st A56 q62 6 36 ((x1 * 6) + v61) x2).bind fun A63 =>
    (c_chk 6 (P54 37 5)).bind fun q64 =>
    (c_st A63 q64 7 36 ((x1 * 6) + v61) x3).bind fun A65 =>
    (c_chk 6 (P54 37 5)).bind fun q66 =>
    (c_st A65 q66 8 36 ((x1 * 6) + v61) x4).bind fun A67 =>
    (c_chk 6 (P54 37 5)).bind fun q68 =>
    (c_st A67 q68 9 36 ((x1 * 6) + v61) x5).bind fun A69 =>
    (c_chk 6 (P54 37 5)).bind fun q70 =>
    (c_st A69 q70 10 36 ((x1 * 6) + v61) x6).bind fun A71 =>
    (c_chk 6 (P54 37 5)).bind fun q72 =>
    (c_st A71 q72 11 36 ((x1 * 6) + v61) x7).bind fun A73 =>
    (c_chk 6 (P54 37 5)).bind fun q74 =>
    (m_ld (A73 q74 5) 6 x1).bind fun v75 =>
    (c_st A73 q74 5 6 x1 (v75 + 1)).bind fun A76 =>
    some ((), P54, F55, A76, J57)))
set_option maxRecDepth 10000 in
theorem t_e_Reader_readStep_107 (ht : ∀ ci k, t.1 ci k = k_ty ci k) {n : Nat}  {P : Nat → Nat → Nat} {F : Nat → Nat → Int32} {A : Nat → Nat → Nat → Int32} {J : Nat → Nat → Nat → Int64} {x1 : Int32} {x2 : Int32} {x3 : Int32} {x4 : Int32} {x5 : Int32} {x6 : Int32} {x7 : Int32}  {w : Unit × (Nat → Nat → Nat) × (Nat → Nat → Int32) × (Nat → Nat → Nat → Int32) × (Nat → Nat → Nat → Int64)} : e_Reader_readStep_107 n P F A J x1 x2 x3 x4 x5 x6 x7 = some w → k_run t lg (d + 4) 56 107 [(0, .ref (37 * 1024)), (1, .int x1), (2, .int x2), (3, .int x3), (4, .int x4), (5, .int x5), (6, .int x6), (7, .int x7)] [] (c_h c B P F A J) (none, c_h c B w.2.1 w.2.2.1 w.2.2.2.1 w.2.2.2.2) := by
  intro hD
  unfold e_Reader_readStep_107 at hD
  refine k_runB (pc' := 110) (loc' := [(0, .ref (37 * 1024)), (1, .int x1), (2, .int x2), (3, .int x3), (4, .int x4), (5, .int x5), (6, .int x6), (7, .int x7)]) (st' := [.int 59, .ref (37 * 1024)]) 2 rfl ?_
  obtain ⟨⟨v53, P54, F55, A56, J57⟩, hv53, hD⟩ := Option.bind_eq_some_iff.mp hD
  dsimp only at hD
  refine k_runV rfl rfl rfl (c_get (r := 37) (o := 0) (K := 11) rfl (by decide)) rfl rfl (t_e_Reader_take (d := d + 2) ht hv53) ?_
  refine k_if rfl (fun c113_57 => ?_) (fun c113_57 => ?_)
  · rw [c113_57, cond_true] at hD
    cases hD
    exact k_vret rfl rfl
  · rw [c113_57, cond_false] at hD
    refine k_runB (pc' := 117) (loc' := [(0, .ref (37 * 1024)), (1, .int x1), (2, .int x2), (3, .int x3), (4, .int x4), (5, .int x5), (6, .int x6), (7, .int x7)]) (st' := [.int x1]) 1 rfl ?_
    refine k_if rfl (fun c117_58 => ?_) (fun c117_58 => ?_)
    · rw [c117_58, cond_true] at hD
      cases hD
      exact k_vret rfl rfl
    · rw [c117_58, cond_false] at hD
      refine k_runB (pc' := 125) (loc' := [(0, .ref (37 * 1024)), (1, .int x1), (2, .int x2), (3, .int x3), (4, .int x4), (5, .int x5), (6, .int x6), (7, .int x7)]) (st' := [.ref (37 * 1024), .int (x1 * 6)]) 4 rfl ?_
      obtain ⟨q60, hq60, hD⟩ := Option.bind_eq_some_iff.mp hD
      refine k_gq 37 0 (K := 11) (K2 := 6) (key := 5) rfl rfl rfl rfl rfl hq60 (fun kq60 => ?_)
      refine k_gf q60 0 (K := 6) kq60 rfl rfl rfl rfl ?_
      refine k_runB (pc' := 132) (loc' := [(0, .ref (37 * 1024)), (1, .int x1), (2, .int x2), (3, .int x3), (4, .int x4), (5, .int x5), (6, .int x6), (7, .int x7)]) (st' := [.int x1, .ref (q60 * 1024 + 5), .int (x1 * 6)]) 1 rfl ?_
      obtain ⟨v61, hv61, hD⟩ := Option.bind_eq_some_iff.mp hD
      refine k_ldI rfl (c_get (r := q60) (o := 5) (K := 6) kq60 (by decide)) hv61 ?_
      refine k_runB (pc' := 137) (loc' := [(0, .ref (37 * 1024)), (1, .int x1), (2, .int x2), (3, .int x3), (4, .int x4), (5, .int x5), (6, .int x6), (7, .int x7), (8, .int ((x1 * 6) + v61))]) (st' := [.ref (37 * 1024)]) 3 rfl ?_
      obtain ⟨q62, hq62, hD⟩ := Option.bind_eq_some_iff.mp hD
      refine k_gq 37 0 (K := 11) (K2 := 6) (key := 5) rfl rfl rfl rfl rfl hq62 (fun kq62 => ?_)
      refine k_gf q62 0 (K := 6) kq62 rfl rfl rfl rfl ?_
      refine k_runB (pc' := 146) (loc' := [(0, .ref (37 * 1024)), (1, .int x1), (2, .int x2), (3, .int x3), (4, .int x4), (5, .int x5), (6, .int x6), (7, .int x7), (8, .int ((x1 * 6) + v61))]) (st' := [.int x2, .int ((x1 * 6) + v61), .ref (q62 * 1024 + 6)]) 2 rfl ?_
      obtain ⟨A63, hA63, hD⟩ := Option.bind_eq_some_iff.mp hD
      refine k_cstI q62 6 (K := 6) kq62 rfl rfl rfl (fun _ => rfl) hA63 ?_
      refine k_runB (pc' := 148) (loc' := [(0, .ref (37 * 1024)), (1, .int x1), (2, .int x2), (3, .int x3), (4, .int x4), (5, .int x5), (6, .int x6), (7, .int x7), (8, .int ((x1 * 6) + v61))]) (st' := [.ref (37 * 1024)]) 1 rfl ?_
      obtain ⟨q64, hq64, hD⟩ := Option.bind_eq_some_iff.mp hD
      refine k_gq 37 0 (K := 11) (K2 := 6) (key := 5) rfl rfl rfl rfl rfl hq64 (fun kq64 => ?_)
      refine k_gf q64 0 (K := 6) kq64 rfl rfl rfl rfl ?_
      refine k_runB (pc' := 157) (loc' := [(0, .ref (37 * 1024)), (1, .int x1), (2, .int x2), (3, .int x3), (4, .int x4), (5, .int x5), (6, .int x6), (7, .int x7), (8, .int ((x1 * 6) + v61))]) (st' := [.int x3, .int ((x1 * 6) + v61), .ref (q64 * 1024 + 7)]) 2 rfl ?_
      obtain ⟨A65, hA65, hD⟩ := Option.bind_eq_some_iff.mp hD
      refine k_cstI q64 7 (K := 6) kq64 rfl rfl rfl (fun _ => rfl) hA65 ?_
      refine k_runB (pc' := 159) (loc' := [(0, .ref (37 * 1024)), (1, .int x1), (2, .int x2), (3, .int x3), (4, .int x4), (5, .int x5), (6, .int x6), (7, .int x7), (8, .int ((x1 * 6) + v61))]) (st' := [.ref (37 * 1024)]) 1 rfl ?_
      obtain ⟨q66, hq66, hD⟩ := Option.bind_eq_some_iff.mp hD
      refine k_gq 37 0 (K := 11) (K2 := 6) (key := 5) rfl rfl rfl rfl rfl hq66 (fun kq66 => ?_)
      refine k_gf q66 0 (K := 6) kq66 rfl rfl rfl rfl ?_
      refine k_runB (pc' := 169) (loc' := [(0, .ref (37 * 1024)), (1, .int x1), (2, .int x2), (3, .int x3), (4, .int x4), (5, .int x5), (6, .int x6), (7, .int x7), (8, .int ((x1 * 6) + v61))]) (st' := [.int x4, .int ((x1 * 6) + v61), .ref (q66 * 1024 + 8)]) 2 rfl ?_
      obtain ⟨A67, hA67, hD⟩ := Option.bind_eq_some_iff.mp hD
      refine k_cstI q66 8 (K := 6) kq66 rfl rfl rfl (fun _ => rfl) hA67 ?_
      refine k_runB (pc' := 171) (loc' := [(0, .ref (37 * 1024)), (1, .int x1), (2, .int x2), (3, .int x3), (4, .int x4), (5, .int x5), (6, .int x6), (7, .int x7), (8, .int ((x1 * 6) + v61))]) (st' := [.ref (37 * 1024)]) 1 rfl ?_
      obtain ⟨q68, hq68, hD⟩ := Option.bind_eq_some_iff.mp hD
      refine k_gq 37 0 (K := 11) (K2 := 6) (key := 5) rfl rfl rfl rfl rfl hq68 (fun kq68 => ?_)
      refine k_gf q68 0 (K := 6) kq68 rfl rfl rfl rfl ?_
      refine k_runB (pc' := 181) (loc' := [(0, .ref (37 * 1024)), (1, .int x1), (2, .int x2), (3, .int x3), (4, .int x4), (5, .int x5), (6, .int x6), (7, .int x7), (8, .int ((x1 * 6) + v61))]) (st' := [.int x5, .int ((x1 * 6) + v61), .ref (q68 * 1024 + 9)]) 2 rfl ?_
      obtain ⟨A69, hA69, hD⟩ := Option.bind_eq_some_iff.mp hD
      refine k_cstI q68 9 (K := 6) kq68 rfl rfl rfl (fun _ => rfl) hA69 ?_
      refine k_runB (pc' := 183) (loc' := [(0, .ref (37 * 1024)), (1, .int x1), (2, .int x2), (3, .int x3), (4, .int x4), (5, .int x5), (6, .int x6), (7, .int x7), (8, .int ((x1 * 6) + v61))]) (st' := [.ref (37 * 1024)]) 1 rfl ?_
      obtain ⟨q70, hq70, hD⟩ := Option.bind_eq_some_iff.mp hD
      refine k_gq 37 0 (K := 11) (K2 := 6) (key := 5) rfl rfl rfl rfl rfl hq70 (fun kq70 => ?_)
      refine k_gf q70 0 (K := 6) kq70 rfl rfl rfl rfl ?_
      refine k_runB (pc' := 193) (loc' := [(0, .ref (37 * 1024)), (1, .int x1), (2, .int x2), (3, .int x3), (4, .int x4), (5, .int x5), (6, .int x6), (7, .int x7), (8, .int ((x1 * 6) + v61))]) (st' := [.int x6, .int ((x1 * 6) + v61), .ref (q70 * 1024 + 10)]) 2 rfl ?_
      obtain ⟨A71, hA71, hD⟩ := Option.bind_eq_some_iff.mp hD
      refine k_cstI q70 10 (K := 6) kq70 rfl rfl rfl (fun _ => rfl) hA71 ?_
      refine k_runB (pc' := 195) (loc' := [(0, .ref (37 * 1024)), (1, .int x1), (2, .int x2), (3, .int x3), (4, .int x4), (5, .int x5), (6, .int x6), (7, .int x7), (8, .int ((x1 * 6) + v61))]) (st' := [.ref (37 * 1024)]) 1 rfl ?_
      obtain ⟨q72, hq72, hD⟩ := Option.bind_eq_some_iff.mp hD
      refine k_gq 37 0 (K := 11) (K2 := 6) (key := 5) rfl rfl rfl rfl rfl hq72 (fun kq72 => ?_)
      refine k_gf q72 0 (K := 6) kq72 rfl rfl rfl rfl ?_
      refine k_runB (pc' := 205) (loc' := [(0, .ref (37 * 1024)), (1, .int x1), (2, .int x2), (3, .int x3), (4, .int x4), (5, .int x5), (6, .int x6), (7, .int x7), (8, .int ((x1 * 6) + v61))]) (st' := [.int x7, .int ((x1 * 6) + v61), .ref (q72 * 1024 + 11)]) 2 rfl ?_
      obtain ⟨A73, hA73, hD⟩ := Option.bind_eq_some_iff.mp hD
      refine k_cstI q72 11 (K := 6) kq72 rfl rfl rfl (fun _ => rfl) hA73 ?_
      refine k_runB (pc' := 207) (loc' := [(0, .ref (37 * 1024)), (1, .int x1), (2, .int x2), (3, .int x3), (4, .int x4), (5, .int x5), (6, .int x6), (7, .int x7), (8, .int ((x1 * 6) + v61))]) (st' := [.ref (37 * 1024)]) 1 rfl ?_
      obtain ⟨q74, hq74, hD⟩ := Option.bind_eq_some_iff.mp hD
      refine k_gq 37 0 (K := 11) (K2 := 6) (key := 5) rfl rfl rfl rfl rfl hq74 (fun kq74 => ?_)
      refine k_gf q74 0 (K := 6) kq74 rfl rfl rfl rfl ?_
      refine k_runB (pc' := 215) (loc' := [(0, .ref (37 * 1024)), (1, .int x1), (2, .int x2), (3, .int x3), (4, .int x4), (5, .int x5), (6, .int x6), (7, .int x7), (8, .int ((x1 * 6) + v61))]) (st' := [.int x1, .ref (q74 * 1024 + 5), .int x1, .ref (q74 * 1024 + 5)]) 2 rfl ?_
      obtain ⟨v75, hv75, hD⟩ := Option.bind_eq_some_iff.mp hD
      refine k_ldI rfl (c_get (r := q74) (o := 5) (K := 6) kq74 (by decide)) hv75 ?_
      refine k_runB (pc' := 218) (loc' := [(0, .ref (37 * 1024)), (1, .int x1), (2, .int x2), (3, .int x3), (4, .int x4), (5, .int x5), (6, .int x6), (7, .int x7), (8, .int ((x1 * 6) + v61))]) (st' := [.int (v75 + 1), .int x1, .ref (q74 * 1024 + 5)]) 2 rfl ?_
      obtain ⟨A76, hA76, hD⟩ := Option.bind_eq_some_iff.mp hD
      refine k_cstI q74 5 (K := 6) kq74 rfl rfl rfl (fun _ => rfl) hA76 ?_
      cases hD
      exact k_vret rfl rfl
def e_Reader_readStep_78 (n : Nat) (P : Nat → Nat → Nat) (F : Nat → Nat → Int32) (A : Nat → Nat → Nat → Int32) (J : Nat → Nat → Nat → Int64) (x1 : Int32) (x2 : Int32) (x3 : Int32) (x4 : Int32) (x5 : Int32) (x6 : Int32) : Option (Unit × (Nat → Nat → Nat) × (Nat → Nat → Int32) × (Nat → Nat → Nat → Int32) × (Nat → Nat → Nat → Int64)) :=
    (e_Reader_isNext P F A J 10).bind fun v40 =>
    cond (g_cnd .eq v40 0)
    (e_Reader_readStep_107 n P F A J x1 x2 x3 x4 x5 x6 ((-2)))
    ((e_Reader_take P F A J 10).bind fun (v42, P43, F44, A45, J46) =>
    cond (g_cnd .eq v42 0)
    (e_Reader_readStep_107 n P43 F44 A45 J46 x1 x2 x3 x4 x5 x6 ((-2)))
    ((e_Reader_takeStepNumber P43 F44 A45 J46 x1).bind fun (v48, P49, F50, A51, J52) =>
    e_Reader_readStep_107 n P49 F50 A51 J52 x1 x2 x3 x4 x5 x6 v48))
set_option maxRecDepth 10000 in
theorem t_e_Reader_readStep_78 (ht : ∀ ci k, t.1 ci k = k_ty ci k) {n : Nat}  {P : Nat → Nat → Nat} {F : Nat → Nat → Int32} {A : Nat → Nat → Nat → Int32} {J : Nat → Nat → Nat → Int64} {x1 : Int32} {x2 : Int32} {x3 : Int32} {x4 : Int32} {x5 : Int32} {x6 : Int32}  {w : Unit × (Nat → Nat → Nat) × (Nat → Nat → Int32) × (Nat → Nat → Nat → Int32) × (Nat → Nat → Nat → Int64)} : e_Reader_readStep_78 n P F A J x1 x2 x3 x4 x5 x6 = some w → k_run t lg (d + 4) 56 78 [(0, .ref (37 * 1024)), (1, .int x1), (2, .int x2), (3, .int x3), (4, .int x4), (5, .int x5), (6, .int x6)] [] (c_h c B P F A J) (none, c_h c B w.2.1 w.2.2.1 w.2.2.2.1 w.2.2.2.2) := by
  intro hD
  unfold e_Reader_readStep_78 at hD
  refine k_runB (pc' := 85) (loc' := [(0, .ref (37 * 1024)), (1, .int x1), (2, .int x2), (3, .int x3), (4, .int x4), (5, .int x5), (6, .int x6), (7, .int ((-2)))]) (st' := [.int 10, .ref (37 * 1024)]) 4 rfl ?_
  obtain ⟨v40, hv40, hD⟩ := Option.bind_eq_some_iff.mp hD
  refine k_runV rfl rfl rfl (c_get (r := 37) (o := 0) (K := 11) rfl (by decide)) rfl rfl (t_e_Reader_isNext (d := d + 3) hv40) ?_
  refine k_if rfl (fun c88_40 => ?_) (fun c88_40 => ?_)
  · rw [c88_40, cond_true] at hD
    refine k_wk [0, 1, 2, 3, 4, 5, 6, 7] (loc' := [(0, .ref (37 * 1024)), (1, .int x1), (2, .int x2), (3, .int x3), (4, .int x4), (5, .int x5), (6, .int x6), (7, .int ((-2)))]) rfl rfl ?_
    exact t_e_Reader_readStep_107 ht   hD
  · rw [c88_40, cond_false] at hD
    refine k_runB (pc' := 94) (loc' := [(0, .ref (37 * 1024)), (1, .int x1), (2, .int x2), (3, .int x3), (4, .int x4), (5, .int x5), (6, .int x6), (7, .int ((-2)))]) (st' := [.int 10, .ref (37 * 1024)]) 2 rfl ?_
    obtain ⟨⟨v42, P43, F44, A45, J46⟩, hv42, hD⟩ := Option.bind_eq_some_iff.mp hD
    dsimp only at hD
    refine k_runV rfl rfl rfl (c_get (r := 37) (o := 0) (K := 11) rfl (by decide)) rfl rfl (t_e_Reader_take (d := d + 2) ht hv42) ?_
    refine k_if rfl (fun c97_46 => ?_) (fun c97_46 => ?_)
    · rw [c97_46, cond_true] at hD
      refine k_wk [0, 1, 2, 3, 4, 5, 6, 7] (loc' := [(0, .ref (37 * 1024)), (1, .int x1), (2, .int x2), (3, .int x3), (4, .int x4), (5, .int x5), (6, .int x6), (7, .int ((-2)))]) rfl rfl ?_
      exact t_e_Reader_readStep_107 ht   hD
    · rw [c97_46, cond_false] at hD
      refine k_runB (pc' := 102) (loc' := [(0, .ref (37 * 1024)), (1, .int x1), (2, .int x2), (3, .int x3), (4, .int x4), (5, .int x5), (6, .int x6), (7, .int ((-2)))]) (st' := [.int x1, .ref (37 * 1024)]) 2 rfl ?_
      obtain ⟨⟨v48, P49, F50, A51, J52⟩, hv48, hD⟩ := Option.bind_eq_some_iff.mp hD
      dsimp only at hD
      refine k_runV rfl rfl rfl (c_get (r := 37) (o := 0) (K := 11) rfl (by decide)) rfl rfl (t_e_Reader_takeStepNumber (d := d) ht hv48) ?_
      refine k_runB (pc' := 107) (loc' := [(0, .ref (37 * 1024)), (1, .int x1), (2, .int x2), (3, .int x3), (4, .int x4), (5, .int x5), (6, .int x6), (7, .int v48)]) (st' := []) 1 rfl ?_
      refine k_wk [0, 1, 2, 3, 4, 5, 6, 7] (loc' := [(0, .ref (37 * 1024)), (1, .int x1), (2, .int x2), (3, .int x3), (4, .int x4), (5, .int x5), (6, .int x6), (7, .int v48)]) rfl rfl ?_
      exact t_e_Reader_readStep_107 ht   hD
/-- SleepWork$Reader.readStep()V  -/
def e_Reader_readStep (n : Nat) (P : Nat → Nat → Nat) (F : Nat → Nat → Int32) (A : Nat → Nat → Nat → Int32) (J : Nat → Nat → Nat → Int64) : Option (Unit × (Nat → Nat → Nat) × (Nat → Nat → Int32) × (Nat → Nat → Nat → Int32) × (Nat → Nat → Nat → Int64)) :=
  (e_Reader_takeTaskOfStep n P F A J).bind fun (v1, P2, F3, A4, J5) =>
  (e_Reader_takeNumber P2 F3 A4 J5 1 120).bind fun (v6, P7, F8, A9, J10) =>
  (e_Reader_takeNumber P7 F8 A9 J10 0 99).bind fun (v11, P12, F13, A14, J15) =>
  (e_Reader_takeNumber P12 F13 A14 J15 0 99).bind fun (v16, P17, F18, A19, J20) =>
  (e_Reader_takeNumber P17 F18 A19 J20 0 99).bind fun (v21, P22, F23, A24, J25) =>
  (e_Reader_isNext P22 F23 A24 J25 9).bind fun v26 =>
  cond (g_cnd .eq v26 0)
  (e_Reader_readStep_78 n P22 F23 A24 J25 v1 v6 v11 v16 v21 ((-2)))
  ((e_Reader_take P22 F23 A24 J25 9).bind fun (v28, P29, F30, A31, J32) =>
  cond (g_cnd .eq v28 0)
  (e_Reader_readStep_78 n P29 F30 A31 J32 v1 v6 v11 v16 v21 ((-2)))
  ((c_chk 6 (P29 37 5)).bind fun q34 =>
  (e_Reader_takeKnownName_v2 n P29 F30 A31 J32 (F30 q34 15)).bind fun (v35, P36, F37, A38, J39) =>
  e_Reader_readStep_78 n P36 F37 A38 J39 v1 v6 v11 v16 v21 v35))
set_option maxRecDepth 10000 in
theorem t_e_Reader_readStep (ht : ∀ ci k, t.1 ci k = k_ty ci k) {n : Nat} {P : Nat → Nat → Nat} {F : Nat → Nat → Int32} {A : Nat → Nat → Nat → Int32} {J : Nat → Nat → Nat → Int64}   {w : Unit × (Nat → Nat → Nat) × (Nat → Nat → Int32) × (Nat → Nat → Nat → Int32) × (Nat → Nat → Nat → Int64)} : e_Reader_readStep n P F A J = some w → k_run t lg (d + 4) 56 0 [(0, .ref (37 * 1024))] [] (c_h c B P F A J) (none, c_h c B w.2.1 w.2.2.1 w.2.2.2.1 w.2.2.2.2) := by
  intro hD
  unfold e_Reader_readStep at hD
  refine k_runB (pc' := 1) (loc' := [(0, .ref (37 * 1024))]) (st' := [.ref (37 * 1024)]) 1 rfl ?_
  obtain ⟨⟨v1, P2, F3, A4, J5⟩, hv1, hD⟩ := Option.bind_eq_some_iff.mp hD
  dsimp only at hD
  refine k_runV rfl rfl rfl (c_get (r := 37) (o := 0) (K := 11) rfl (by decide)) rfl rfl (t_e_Reader_takeTaskOfStep (d := d) ht hv1) ?_
  refine k_runB (pc' := 9) (loc' := [(0, .ref (37 * 1024)), (1, .int v1)]) (st' := [.int 120, .int 1, .ref (37 * 1024)]) 4 rfl ?_
  obtain ⟨⟨v6, P7, F8, A9, J10⟩, hv6, hD⟩ := Option.bind_eq_some_iff.mp hD
  dsimp only at hD
  refine k_runV rfl rfl rfl (c_get (r := 37) (o := 0) (K := 11) rfl (by decide)) rfl rfl (t_e_Reader_takeNumber (d := d + 1) ht hv6) ?_
  refine k_runB (pc' := 17) (loc' := [(0, .ref (37 * 1024)), (1, .int v1), (2, .int v6)]) (st' := [.int 99, .int 0, .ref (37 * 1024)]) 4 rfl ?_
  obtain ⟨⟨v11, P12, F13, A14, J15⟩, hv11, hD⟩ := Option.bind_eq_some_iff.mp hD
  dsimp only at hD
  refine k_runV rfl rfl rfl (c_get (r := 37) (o := 0) (K := 11) rfl (by decide)) rfl rfl (t_e_Reader_takeNumber (d := d + 1) ht hv11) ?_
  refine k_runB (pc' := 25) (loc' := [(0, .ref (37 * 1024)), (1, .int v1), (2, .int v6), (3, .int v11)]) (st' := [.int 99, .int 0, .ref (37 * 1024)]) 4 rfl ?_
  obtain ⟨⟨v16, P17, F18, A19, J20⟩, hv16, hD⟩ := Option.bind_eq_some_iff.mp hD
  dsimp only at hD
  refine k_runV rfl rfl rfl (c_get (r := 37) (o := 0) (K := 11) rfl (by decide)) rfl rfl (t_e_Reader_takeNumber (d := d + 1) ht hv16) ?_
  refine k_runB (pc' := 34) (loc' := [(0, .ref (37 * 1024)), (1, .int v1), (2, .int v6), (3, .int v11), (4, .int v16)]) (st' := [.int 99, .int 0, .ref (37 * 1024)]) 4 rfl ?_
  obtain ⟨⟨v21, P22, F23, A24, J25⟩, hv21, hD⟩ := Option.bind_eq_some_iff.mp hD
  dsimp only at hD
  refine k_runV rfl rfl rfl (c_get (r := 37) (o := 0) (K := 11) rfl (by decide)) rfl rfl (t_e_Reader_takeNumber (d := d + 1) ht hv21) ?_
  refine k_runB (pc' := 46) (loc' := [(0, .ref (37 * 1024)), (1, .int v1), (2, .int v6), (3, .int v11), (4, .int v16), (5, .int v21), (6, .int ((-2)))]) (st' := [.int 9, .ref (37 * 1024)]) 5 rfl ?_
  obtain ⟨v26, hv26, hD⟩ := Option.bind_eq_some_iff.mp hD
  refine k_runV rfl rfl rfl (c_get (r := 37) (o := 0) (K := 11) rfl (by decide)) rfl rfl (t_e_Reader_isNext (d := d + 3) hv26) ?_
  refine k_if rfl (fun c49_26 => ?_) (fun c49_26 => ?_)
  · rw [c49_26, cond_true] at hD
    refine k_wk [0, 1, 2, 3, 4, 5, 6] (loc' := [(0, .ref (37 * 1024)), (1, .int v1), (2, .int v6), (3, .int v11), (4, .int v16), (5, .int v21), (6, .int ((-2)))]) rfl rfl ?_
    exact t_e_Reader_readStep_78 ht   hD
  · rw [c49_26, cond_false] at hD
    refine k_runB (pc' := 55) (loc' := [(0, .ref (37 * 1024)), (1, .int v1), (2, .int v6), (3, .int v11), (4, .int v16), (5, .int v21), (6, .int ((-2)))]) (st' := [.int 9, .ref (37 * 1024)]) 2 rfl ?_
    obtain ⟨⟨v28, P29, F30, A31, J32⟩, hv28, hD⟩ := Option.bind_eq_some_iff.mp hD
    dsimp only at hD
    refine k_runV rfl rfl rfl (c_get (r := 37) (o := 0) (K := 11) rfl (by decide)) rfl rfl (t_e_Reader_take (d := d + 2) ht hv28) ?_
    refine k_if rfl (fun c58_32 => ?_) (fun c58_32 => ?_)
    · rw [c58_32, cond_true] at hD
      refine k_wk [0, 1, 2, 3, 4, 5, 6] (loc' := [(0, .ref (37 * 1024)), (1, .int v1), (2, .int v6), (3, .int v11), (4, .int v16), (5, .int v21), (6, .int ((-2)))]) rfl rfl ?_
      exact t_e_Reader_readStep_78 ht   hD
    · rw [c58_32, cond_false] at hD
      refine k_runB (pc' := 63) (loc' := [(0, .ref (37 * 1024)), (1, .int v1), (2, .int v6), (3, .int v11), (4, .int v16), (5, .int v21), (6, .int ((-2)))]) (st' := [.ref (37 * 1024), .ref (37 * 1024)]) 2 rfl ?_
      refine k_gf 37 0 (K := 11) rfl rfl rfl rfl rfl ?_
      refine k_runB (pc' := 67) (loc' := [(0, .ref (37 * 1024)), (1, .int v1), (2, .int v6), (3, .int v11), (4, .int v16), (5, .int v21), (6, .int ((-2)))]) (st' := [.ref (37 * 1024), .ref (37 * 1024 + 8), .ref (37 * 1024)]) 1 rfl ?_
      obtain ⟨q34, hq34, hD⟩ := Option.bind_eq_some_iff.mp hD
      refine k_gq 37 0 (K := 11) (K2 := 6) (key := 5) rfl rfl rfl rfl rfl hq34 (fun kq34 => ?_)
      refine k_gf q34 0 (K := 6) kq34 rfl rfl rfl rfl ?_
      obtain ⟨⟨v35, P36, F37, A38, J39⟩, hv35, hD⟩ := Option.bind_eq_some_iff.mp hD
      dsimp only at hD
      refine k_runV rfl rfl rfl (c_get (r := 37) (o := 0) (K := 11) rfl (by decide)) rfl rfl (t_e_Reader_takeKnownName_v2 (d := d + 1) ht hv35) ?_
      refine k_runB (pc' := 78) (loc' := [(0, .ref (37 * 1024)), (1, .int v1), (2, .int v6), (3, .int v11), (4, .int v16), (5, .int v21), (6, .int v35)]) (st' := []) 1 rfl ?_
      refine k_wk [0, 1, 2, 3, 4, 5, 6] (loc' := [(0, .ref (37 * 1024)), (1, .int v1), (2, .int v6), (3, .int v11), (4, .int v16), (5, .int v21), (6, .int v35)]) rfl rfl ?_
      exact t_e_Reader_readStep_78 ht   hD
def e_Reader_takeNewName_v3_106 (n : Nat) (P : Nat → Nat → Nat) (F : Nat → Nat → Int32) (A : Nat → Nat → Nat → Int32) (J : Nat → Nat → Nat → Int64) (x2 : Int32) (x3 : Int64) : Option (Unit × (Nat → Nat → Nat) × (Nat → Nat → Int32) × (Nat → Nat → Nat → Int32) × (Nat → Nat → Nat → Int64)) :=
    (c_stJ J 37 10 6 x2 x3).bind fun J27 =>
    some ((), P, F, A, J27)
set_option maxRecDepth 10000 in
theorem t_e_Reader_takeNewName_v3_106 (ht : ∀ ci k, t.1 ci k = k_ty ci k) {n : Nat}  {P : Nat → Nat → Nat} {F : Nat → Nat → Int32} {A : Nat → Nat → Nat → Int32} {J : Nat → Nat → Nat → Int64} {x2 : Int32} {x3 : Int64}  {w : Unit × (Nat → Nat → Nat) × (Nat → Nat → Int32) × (Nat → Nat → Nat → Int32) × (Nat → Nat → Nat → Int64)} : e_Reader_takeNewName_v3_106 n P F A J x2 x3 = some w → k_run t lg (d + 2) 47 106 [(0, .ref (37 * 1024)), (1, .ref (37 * 1024 + 10)), (2, .int x2), (3, .long (x3))] [] (c_h c B P F A J) (none, c_h c B w.2.1 w.2.2.1 w.2.2.2.1 w.2.2.2.2) := by
  intro hD
  unfold e_Reader_takeNewName_v3_106 at hD
  refine k_runB (pc' := 109) (loc' := [(0, .ref (37 * 1024)), (1, .ref (37 * 1024 + 10)), (2, .int x2), (3, .long (x3))]) (st' := [.long (x3), .int x2, .ref (37 * 1024 + 10)]) 3 rfl ?_
  obtain ⟨J27, hJ27, hD⟩ := Option.bind_eq_some_iff.mp hD
  refine k_cstL 37 10 (K := 11) rfl rfl rfl rfl (fun _ => rfl) hJ27 ?_
  cases hD
  exact k_vret rfl rfl
def e_Reader_takeNewName_v3_101 (n : Nat) (P : Nat → Nat → Nat) (F : Nat → Nat → Int32) (A : Nat → Nat → Nat → Int32) (J : Nat → Nat → Nat → Int64) (x2 : Int32) (x3 : Int64) : Option (Unit × (Nat → Nat → Nat) × (Nat → Nat → Int32) × (Nat → Nat → Nat → Int32) × (Nat → Nat → Nat → Int64)) :=
    (e_Reader_failLate P F A J 3).bind fun (_, P22, F23, A24, J25) =>
    (c_stJ J25 37 10 6 x2 x3).bind fun J26 =>
    some ((), P22, F23, A24, J26)
set_option maxRecDepth 10000 in
theorem t_e_Reader_takeNewName_v3_101 (ht : ∀ ci k, t.1 ci k = k_ty ci k) {n : Nat}  {P : Nat → Nat → Nat} {F : Nat → Nat → Int32} {A : Nat → Nat → Nat → Int32} {J : Nat → Nat → Nat → Int64} {x2 : Int32} {x3 : Int64}  {w : Unit × (Nat → Nat → Nat) × (Nat → Nat → Int32) × (Nat → Nat → Nat → Int32) × (Nat → Nat → Nat → Int64)} : e_Reader_takeNewName_v3_101 n P F A J x2 x3 = some w → k_run t lg (d + 2) 47 101 [(0, .ref (37 * 1024)), (1, .ref (37 * 1024 + 10)), (2, .int x2), (3, .long (x3))] [] (c_h c B P F A J) (none, c_h c B w.2.1 w.2.2.1 w.2.2.2.1 w.2.2.2.2) := by
  intro hD
  unfold e_Reader_takeNewName_v3_101 at hD
  refine k_runB (pc' := 103) (loc' := [(0, .ref (37 * 1024)), (1, .ref (37 * 1024 + 10)), (2, .int x2), (3, .long (x3))]) (st' := [.int 3, .ref (37 * 1024)]) 2 rfl ?_
  obtain ⟨⟨v21, P22, F23, A24, J25⟩, hv21, hD⟩ := Option.bind_eq_some_iff.mp hD
  dsimp only at hD
  refine k_runV rfl rfl rfl (c_get (r := 37) (o := 0) (K := 11) rfl (by decide)) rfl rfl (t_e_Reader_failLate (d := d + 1) ht hv21) ?_
  refine k_runB (pc' := 109) (loc' := [(0, .ref (37 * 1024)), (1, .ref (37 * 1024 + 10)), (2, .int x2), (3, .long (x3))]) (st' := [.long (x3), .int x2, .ref (37 * 1024 + 10)]) 3 rfl ?_
  obtain ⟨J26, hJ26, hD⟩ := Option.bind_eq_some_iff.mp hD
  refine k_cstL 37 10 (K := 11) rfl rfl rfl rfl (fun _ => rfl) hJ26 ?_
  cases hD
  exact k_vret rfl rfl
/-- SleepWork$Reader.takeNewName([JI)V  -/
def e_Reader_takeNewName_v3 (n : Nat) (P : Nat → Nat → Nat) (F : Nat → Nat → Int32) (A : Nat → Nat → Nat → Int32) (J : Nat → Nat → Nat → Int64) (x2 : Int32) : Option (Unit × (Nat → Nat → Nat) × (Nat → Nat → Int32) × (Nat → Nat → Nat → Int32) × (Nat → Nat → Nat → Int64)) :=
  (e_Reader_take P F A J 100).bind fun (v1, P2, F3, A4, J5) =>
  cond (g_cnd .eq v1 0)
  (some ((), P2, F3, A4, J5))
  (cond (g_cnd .lt x2 (Int32.ofNat 6))
  ((m_ldJ (J5 37 5) 401 (F3 37 8)).bind fun v8 =>
  (c_chk 6 (P2 37 5)).bind fun q9 =>
  (e_Reader_find n P2 F3 A4 J5 v8 (F3 q9 13)).bind fun v10 =>
  cond (g_cnd .ge v10 0)
  (e_Reader_takeNewName_v3_101 n P2 F3 A4 J5 x2 v8)
  ((c_chk 6 (P2 37 5)).bind fun q12 =>
  (e_Reader_find_v1 n P2 F3 A4 J5 v8 (F3 q12 15)).bind fun v13 =>
  cond (g_cnd .ge v13 0)
  (e_Reader_takeNewName_v3_101 n P2 F3 A4 J5 x2 v8)
  ((c_chk 6 (P2 37 5)).bind fun q15 =>
  (e_Reader_find_v2 n P2 F3 A4 J5 v8 (F3 q15 16)).bind fun v16 =>
  cond (g_cnd .ge v16 0)
  (e_Reader_takeNewName_v3_101 n P2 F3 A4 J5 x2 v8)
  ((c_chk 6 (P2 37 5)).bind fun q18 =>
  (e_Reader_find_v3 n P2 F3 A4 J5 v8 (F3 q18 17)).bind fun v19 =>
  cond (g_cnd .lt v19 0)
  (e_Reader_takeNewName_v3_106 n P2 F3 A4 J5 x2 v8)
  (e_Reader_takeNewName_v3_101 n P2 F3 A4 J5 x2 v8)))))
  (some ((), P2, F3, A4, J5)))
set_option maxRecDepth 10000 in
theorem t_e_Reader_takeNewName_v3 (ht : ∀ ci k, t.1 ci k = k_ty ci k) {n : Nat} {P : Nat → Nat → Nat} {F : Nat → Nat → Int32} {A : Nat → Nat → Nat → Int32} {J : Nat → Nat → Nat → Int64} {x2 : Int32}  {w : Unit × (Nat → Nat → Nat) × (Nat → Nat → Int32) × (Nat → Nat → Nat → Int32) × (Nat → Nat → Nat → Int64)} : e_Reader_takeNewName_v3 n P F A J x2 = some w → k_run t lg (d + 2) 47 0 [(0, .ref (37 * 1024)), (1, .ref (37 * 1024 + 10)), (2, .int x2)] [] (c_h c B P F A J) (none, c_h c B w.2.1 w.2.2.1 w.2.2.2.1 w.2.2.2.2) := by
  intro hD
  unfold e_Reader_takeNewName_v3 at hD
  refine k_runB (pc' := 3) (loc' := [(0, .ref (37 * 1024)), (1, .ref (37 * 1024 + 10)), (2, .int x2)]) (st' := [.int 100, .ref (37 * 1024)]) 2 rfl ?_
  obtain ⟨⟨v1, P2, F3, A4, J5⟩, hv1, hD⟩ := Option.bind_eq_some_iff.mp hD
  dsimp only at hD
  refine k_runV rfl rfl rfl (c_get (r := 37) (o := 0) (K := 11) rfl (by decide)) rfl rfl (t_e_Reader_take (d := d) ht hv1) ?_
  refine k_if rfl (fun c6_5 => ?_) (fun c6_5 => ?_)
  · rw [c6_5, cond_true] at hD
    cases hD
    exact k_vret rfl rfl
  · rw [c6_5, cond_false] at hD
    refine k_runB (pc' := 11) (loc' := [(0, .ref (37 * 1024)), (1, .ref (37 * 1024 + 10)), (2, .int x2)]) (st' := [.ref (37 * 1024 + 10), .int x2]) 2 rfl ?_
    refine k_cln 37 10 (K := 11) rfl rfl rfl rfl ?_
    refine k_ic rfl (fun c12_6 => ?_) (fun c12_6 => ?_)
    · rw [c12_6, cond_true] at hD
      refine k_runB (pc' := 17) (loc' := [(0, .ref (37 * 1024)), (1, .ref (37 * 1024 + 10)), (2, .int x2)]) (st' := [.ref (37 * 1024)]) 1 rfl ?_
      refine k_gf 37 0 (K := 11) rfl rfl rfl rfl rfl ?_
      refine k_gf 37 1 (K := 11) rfl rfl rfl rfl rfl ?_
      refine k_runB (pc' := 24) (loc' := [(0, .ref (37 * 1024)), (1, .ref (37 * 1024 + 10)), (2, .int x2)]) (st' := [.ref (37 * 1024), .ref (37 * 1024 + 5)]) 1 rfl ?_
      refine k_gf 37 0 (K := 11) rfl rfl rfl rfl rfl ?_
      obtain ⟨v8, hv8, hD⟩ := Option.bind_eq_some_iff.mp hD
      refine k_ldL rfl (c_get (r := 37) (o := 5) (K := 11) rfl (by decide)) hv8 ?_
      refine k_runB (pc' := 31) (loc' := [(0, .ref (37 * 1024)), (1, .ref (37 * 1024 + 10)), (2, .int x2), (3, .long (v8))]) (st' := [.ref (37 * 1024), .long (v8)]) 3 rfl ?_
      refine k_gf 37 0 (K := 11) rfl rfl rfl rfl rfl ?_
      refine k_runB (pc' := 35) (loc' := [(0, .ref (37 * 1024)), (1, .ref (37 * 1024 + 10)), (2, .int x2), (3, .long (v8))]) (st' := [.ref (37 * 1024), .ref (37 * 1024 + 7), .long (v8)]) 1 rfl ?_
      obtain ⟨q9, hq9, hD⟩ := Option.bind_eq_some_iff.mp hD
      refine k_gq 37 0 (K := 11) (K2 := 6) (key := 5) rfl rfl rfl rfl rfl hq9 (fun kq9 => ?_)
      refine k_gf q9 0 (K := 6) kq9 rfl rfl rfl rfl ?_
      obtain ⟨v10, hv10, hD⟩ := Option.bind_eq_some_iff.mp hD
      refine k_runC rfl rfl rfl rfl (t_e_Reader_find (d := d + 1) hv10) ?_
      refine k_if rfl (fun c44_10 => ?_) (fun c44_10 => ?_)
      · rw [c44_10, cond_true] at hD
        refine k_wk [0, 1, 2, 3] (loc' := [(0, .ref (37 * 1024)), (1, .ref (37 * 1024 + 10)), (2, .int x2), (3, .long (v8))]) rfl rfl ?_
        exact t_e_Reader_takeNewName_v3_101 ht   hD
      · rw [c44_10, cond_false] at hD
        refine k_runB (pc' := 49) (loc' := [(0, .ref (37 * 1024)), (1, .ref (37 * 1024 + 10)), (2, .int x2), (3, .long (v8))]) (st' := [.ref (37 * 1024), .long (v8)]) 2 rfl ?_
        refine k_gf 37 0 (K := 11) rfl rfl rfl rfl rfl ?_
        refine k_runB (pc' := 53) (loc' := [(0, .ref (37 * 1024)), (1, .ref (37 * 1024 + 10)), (2, .int x2), (3, .long (v8))]) (st' := [.ref (37 * 1024), .ref (37 * 1024 + 8), .long (v8)]) 1 rfl ?_
        obtain ⟨q12, hq12, hD⟩ := Option.bind_eq_some_iff.mp hD
        refine k_gq 37 0 (K := 11) (K2 := 6) (key := 5) rfl rfl rfl rfl rfl hq12 (fun kq12 => ?_)
        refine k_gf q12 0 (K := 6) kq12 rfl rfl rfl rfl ?_
        obtain ⟨v13, hv13, hD⟩ := Option.bind_eq_some_iff.mp hD
        refine k_runC rfl rfl rfl rfl (t_e_Reader_find_v1 (d := d + 1) hv13) ?_
        refine k_if rfl (fun c62_13 => ?_) (fun c62_13 => ?_)
        · rw [c62_13, cond_true] at hD
          refine k_wk [0, 1, 2, 3] (loc' := [(0, .ref (37 * 1024)), (1, .ref (37 * 1024 + 10)), (2, .int x2), (3, .long (v8))]) rfl rfl ?_
          exact t_e_Reader_takeNewName_v3_101 ht   hD
        · rw [c62_13, cond_false] at hD
          refine k_runB (pc' := 67) (loc' := [(0, .ref (37 * 1024)), (1, .ref (37 * 1024 + 10)), (2, .int x2), (3, .long (v8))]) (st' := [.ref (37 * 1024), .long (v8)]) 2 rfl ?_
          refine k_gf 37 0 (K := 11) rfl rfl rfl rfl rfl ?_
          refine k_runB (pc' := 71) (loc' := [(0, .ref (37 * 1024)), (1, .ref (37 * 1024 + 10)), (2, .int x2), (3, .long (v8))]) (st' := [.ref (37 * 1024), .ref (37 * 1024 + 9), .long (v8)]) 1 rfl ?_
          obtain ⟨q15, hq15, hD⟩ := Option.bind_eq_some_iff.mp hD
          refine k_gq 37 0 (K := 11) (K2 := 6) (key := 5) rfl rfl rfl rfl rfl hq15 (fun kq15 => ?_)
          refine k_gf q15 0 (K := 6) kq15 rfl rfl rfl rfl ?_
          obtain ⟨v16, hv16, hD⟩ := Option.bind_eq_some_iff.mp hD
          refine k_runC rfl rfl rfl rfl (t_e_Reader_find_v2 (d := d + 1) hv16) ?_
          refine k_if rfl (fun c80_16 => ?_) (fun c80_16 => ?_)
          · rw [c80_16, cond_true] at hD
            refine k_wk [0, 1, 2, 3] (loc' := [(0, .ref (37 * 1024)), (1, .ref (37 * 1024 + 10)), (2, .int x2), (3, .long (v8))]) rfl rfl ?_
            exact t_e_Reader_takeNewName_v3_101 ht   hD
          · rw [c80_16, cond_false] at hD
            refine k_runB (pc' := 85) (loc' := [(0, .ref (37 * 1024)), (1, .ref (37 * 1024 + 10)), (2, .int x2), (3, .long (v8))]) (st' := [.ref (37 * 1024), .long (v8)]) 2 rfl ?_
            refine k_gf 37 0 (K := 11) rfl rfl rfl rfl rfl ?_
            refine k_runB (pc' := 89) (loc' := [(0, .ref (37 * 1024)), (1, .ref (37 * 1024 + 10)), (2, .int x2), (3, .long (v8))]) (st' := [.ref (37 * 1024), .ref (37 * 1024 + 10), .long (v8)]) 1 rfl ?_
            obtain ⟨q18, hq18, hD⟩ := Option.bind_eq_some_iff.mp hD
            refine k_gq 37 0 (K := 11) (K2 := 6) (key := 5) rfl rfl rfl rfl rfl hq18 (fun kq18 => ?_)
            refine k_gf q18 0 (K := 6) kq18 rfl rfl rfl rfl ?_
            obtain ⟨v19, hv19, hD⟩ := Option.bind_eq_some_iff.mp hD
            refine k_runC rfl rfl rfl rfl (t_e_Reader_find_v3 (d := d + 1) hv19) ?_
            refine k_if rfl (fun c98_19 => ?_) (fun c98_19 => ?_)
            · rw [c98_19, cond_true] at hD
              refine k_wk [0, 1, 2, 3] (loc' := [(0, .ref (37 * 1024)), (1, .ref (37 * 1024 + 10)), (2, .int x2), (3, .long (v8))]) rfl rfl ?_
              exact t_e_Reader_takeNewName_v3_106 ht   hD
            · rw [c98_19, cond_false] at hD
              refine k_wk [0, 1, 2, 3] (loc' := [(0, .ref (37 * 1024)), (1, .ref (37 * 1024 + 10)), (2, .int x2), (3, .long (v8))]) rfl rfl ?_
              exact t_e_Reader_takeNewName_v3_101 ht   hD
    · rw [c12_6, cond_false] at hD
      cases hD
      exact k_vret rfl rfl
def e_Reader_readMan_92 (n : Nat) (P : Nat → Nat → Nat) (F : Nat → Nat → Int32) (A : Nat → Nat → Nat → Int32) (J : Nat → Nat → Nat → Int64) (x1 : Int32) (x2 : Int32) : Option (Unit × (Nat → Nat → Nat) × (Nat → Nat → Int32) × (Nat → Nat → Nat → Int32) × (Nat → Nat → Nat → Int64)) :=
    (e_Reader_take P F A J 59).bind fun (v38, P39, F40, A41, J42) =>
    cond (g_cnd .eq v38 0)
    (some ((), P39, F40, A41, J42))
    ((c_chk 6 (P39 37 5)).bind fun q44 =>
    (c_chk 6 (P39 37 5)).bind fun q45 =>
    (c_st A41 q44 12 6 (F40 q45 17) x1).bind fun A46 =>
    (c_chk 2 (P39 37 6)).bind fun q47 =>
    (c_chk 6 (P39 37 5)).bind fun q48 =>
    (c_st A46 q47 3 6 (F40 q48 17) x2).bind fun A49 =>
    (c_chk 6 (P39 37 5)).bind fun q50 =>
    (c_pf F40 q50 17 ((F40 q50 17) + 1)).bind fun F51 =>
    some ((), P39, F51, A49, J42))
set_option maxRecDepth 10000 in
theorem t_e_Reader_readMan_92 (ht : ∀ ci k, t.1 ci k = k_ty ci k) {n : Nat}  {P : Nat → Nat → Nat} {F : Nat → Nat → Int32} {A : Nat → Nat → Nat → Int32} {J : Nat → Nat → Nat → Int64} {x1 : Int32} {x2 : Int32}  {w : Unit × (Nat → Nat → Nat) × (Nat → Nat → Int32) × (Nat → Nat → Nat → Int32) × (Nat → Nat → Nat → Int64)} : e_Reader_readMan_92 n P F A J x1 x2 = some w → k_run t lg (d + 4) 58 92 [(0, .ref (37 * 1024)), (1, .int x1), (2, .int x2)] [] (c_h c B P F A J) (none, c_h c B w.2.1 w.2.2.1 w.2.2.2.1 w.2.2.2.2) := by
  intro hD
  unfold e_Reader_readMan_92 at hD
  refine k_runB (pc' := 95) (loc' := [(0, .ref (37 * 1024)), (1, .int x1), (2, .int x2)]) (st' := [.int 59, .ref (37 * 1024)]) 2 rfl ?_
  obtain ⟨⟨v38, P39, F40, A41, J42⟩, hv38, hD⟩ := Option.bind_eq_some_iff.mp hD
  dsimp only at hD
  refine k_runV rfl rfl rfl (c_get (r := 37) (o := 0) (K := 11) rfl (by decide)) rfl rfl (t_e_Reader_take (d := d + 2) ht hv38) ?_
  refine k_if rfl (fun c98_42 => ?_) (fun c98_42 => ?_)
  · rw [c98_42, cond_true] at hD
    cases hD
    exact k_vret rfl rfl
  · rw [c98_42, cond_false] at hD
    refine k_runB (pc' := 102) (loc' := [(0, .ref (37 * 1024)), (1, .int x1), (2, .int x2)]) (st' := [.ref (37 * 1024)]) 1 rfl ?_
    obtain ⟨q44, hq44, hD⟩ := Option.bind_eq_some_iff.mp hD
    refine k_gq 37 0 (K := 11) (K2 := 6) (key := 5) rfl rfl rfl rfl rfl hq44 (fun kq44 => ?_)
    refine k_gf q44 0 (K := 6) kq44 rfl rfl rfl rfl ?_
    refine k_runB (pc' := 109) (loc' := [(0, .ref (37 * 1024)), (1, .int x1), (2, .int x2)]) (st' := [.ref (37 * 1024), .ref (q44 * 1024 + 12)]) 1 rfl ?_
    obtain ⟨q45, hq45, hD⟩ := Option.bind_eq_some_iff.mp hD
    refine k_gq 37 0 (K := 11) (K2 := 6) (key := 5) rfl rfl rfl rfl rfl hq45 (fun kq45 => ?_)
    refine k_gf q45 0 (K := 6) kq45 rfl rfl rfl rfl ?_
    refine k_runB (pc' := 116) (loc' := [(0, .ref (37 * 1024)), (1, .int x1), (2, .int x2)]) (st' := [.int x1, .int (F40 q45 17), .ref (q44 * 1024 + 12)]) 1 rfl ?_
    obtain ⟨A46, hA46, hD⟩ := Option.bind_eq_some_iff.mp hD
    refine k_cstI q44 12 (K := 6) kq44 rfl rfl rfl (fun _ => rfl) hA46 ?_
    refine k_runB (pc' := 118) (loc' := [(0, .ref (37 * 1024)), (1, .int x1), (2, .int x2)]) (st' := [.ref (37 * 1024)]) 1 rfl ?_
    obtain ⟨q47, hq47, hD⟩ := Option.bind_eq_some_iff.mp hD
    refine k_gq 37 0 (K := 11) (K2 := 2) (key := 6) rfl rfl rfl rfl rfl hq47 (fun kq47 => ?_)
    refine k_gf q47 0 (K := 2) kq47 rfl rfl rfl rfl ?_
    refine k_runB (pc' := 125) (loc' := [(0, .ref (37 * 1024)), (1, .int x1), (2, .int x2)]) (st' := [.ref (37 * 1024), .ref (q47 * 1024 + 3)]) 1 rfl ?_
    obtain ⟨q48, hq48, hD⟩ := Option.bind_eq_some_iff.mp hD
    refine k_gq 37 0 (K := 11) (K2 := 6) (key := 5) rfl rfl rfl rfl rfl hq48 (fun kq48 => ?_)
    refine k_gf q48 0 (K := 6) kq48 rfl rfl rfl rfl ?_
    refine k_runB (pc' := 132) (loc' := [(0, .ref (37 * 1024)), (1, .int x1), (2, .int x2)]) (st' := [.int x2, .int (F40 q48 17), .ref (q47 * 1024 + 3)]) 1 rfl ?_
    obtain ⟨A49, hA49, hD⟩ := Option.bind_eq_some_iff.mp hD
    refine k_cstI q47 3 (K := 2) kq47 rfl rfl rfl (fun _ => rfl) hA49 ?_
    refine k_runB (pc' := 134) (loc' := [(0, .ref (37 * 1024)), (1, .int x1), (2, .int x2)]) (st' := [.ref (37 * 1024)]) 1 rfl ?_
    obtain ⟨q50, hq50, hD⟩ := Option.bind_eq_some_iff.mp hD
    refine k_gq 37 0 (K := 11) (K2 := 6) (key := 5) rfl rfl rfl rfl rfl hq50 (fun kq50 => ?_)
    refine k_runB (pc' := 138) (loc' := [(0, .ref (37 * 1024)), (1, .int x1), (2, .int x2)]) (st' := [.ref (q50 * 1024), .ref (q50 * 1024)]) 1 rfl ?_
    refine k_gf q50 0 (K := 6) kq50 rfl rfl rfl rfl ?_
    refine k_runB (pc' := 143) (loc' := [(0, .ref (37 * 1024)), (1, .int x1), (2, .int x2)]) (st' := [.int ((F40 q50 17) + 1), .ref (q50 * 1024)]) 2 rfl ?_
    obtain ⟨F51, hF51, hD⟩ := Option.bind_eq_some_iff.mp hD
    refine k_cpt q50 0 (K := 6) (key := 17) kq50 rfl (ht 1 17) rfl rfl rfl hF51 ?_
    cases hD
    exact k_vret rfl rfl
/-- SleepWork$Reader.readMan()V  -/
def e_Reader_readMan (n : Nat) (P : Nat → Nat → Nat) (F : Nat → Nat → Int32) (A : Nat → Nat → Nat → Int32) (J : Nat → Nat → Nat → Int64) : Option (Unit × (Nat → Nat → Nat) × (Nat → Nat → Int32) × (Nat → Nat → Nat → Int32) × (Nat → Nat → Nat → Int64)) :=
  (c_chk 6 (P 37 5)).bind fun q1 =>
  (e_Reader_takeFirst P F A J 5 (F q1 17) 6).bind fun (_, P3, F4, A5, J6) =>
  (c_chk 6 (P3 37 5)).bind fun q7 =>
  (e_Reader_takeNewName_v3 n P3 F4 A5 J6 (F4 q7 17)).bind fun (_, P9, F10, A11, J12) =>
  (c_chk 6 (P9 37 5)).bind fun q13 =>
  (e_Reader_takeKnownName n P9 F10 A11 J12 (F10 q13 13)).bind fun (v14, P15, F16, A17, J18) =>
  (e_Reader_isNext P15 F16 A17 J18 11).bind fun v19 =>
  cond (g_cnd .eq v19 0)
  (e_Reader_readMan_92 n P15 F16 A17 J18 v14 ((-1)))
  ((e_Reader_take P15 F16 A17 J18 11).bind fun (v21, P22, F23, A24, J25) =>
  cond (g_cnd .eq v21 0)
  (e_Reader_readMan_92 n P22 F23 A24 J25 v14 ((-1)))
  ((c_chk 6 (P22 37 5)).bind fun q27 =>
  (e_Reader_takeKnownName_v1 n P22 F23 A24 J25 (F23 q27 16)).bind fun (v28, P29, F30, A31, J32) =>
  (e_Reader_takeStepNumber P29 F30 A31 J32 v28).bind fun (v33, P34, F35, A36, J37) =>
  e_Reader_readMan_92 n P34 F35 A36 J37 v14 ((v28 * 6) + v33)))
set_option maxRecDepth 10000 in
theorem t_e_Reader_readMan (ht : ∀ ci k, t.1 ci k = k_ty ci k) {n : Nat} {P : Nat → Nat → Nat} {F : Nat → Nat → Int32} {A : Nat → Nat → Nat → Int32} {J : Nat → Nat → Nat → Int64}   {w : Unit × (Nat → Nat → Nat) × (Nat → Nat → Int32) × (Nat → Nat → Nat → Int32) × (Nat → Nat → Nat → Int64)} : e_Reader_readMan n P F A J = some w → k_run t lg (d + 4) 58 0 [(0, .ref (37 * 1024))] [] (c_h c B P F A J) (none, c_h c B w.2.1 w.2.2.1 w.2.2.2.1 w.2.2.2.2) := by
  intro hD
  unfold e_Reader_readMan at hD
  refine k_runB (pc' := 3) (loc' := [(0, .ref (37 * 1024))]) (st' := [.ref (37 * 1024), .int 5, .ref (37 * 1024)]) 3 rfl ?_
  obtain ⟨q1, hq1, hD⟩ := Option.bind_eq_some_iff.mp hD
  refine k_gq 37 0 (K := 11) (K2 := 6) (key := 5) rfl rfl rfl rfl rfl hq1 (fun kq1 => ?_)
  refine k_gf q1 0 (K := 6) kq1 rfl rfl rfl rfl ?_
  refine k_runB (pc' := 11) (loc' := [(0, .ref (37 * 1024))]) (st' := [.int 6, .int (F q1 17), .int 5, .ref (37 * 1024)]) 1 rfl ?_
  obtain ⟨⟨v2, P3, F4, A5, J6⟩, hv2, hD⟩ := Option.bind_eq_some_iff.mp hD
  dsimp only at hD
  refine k_runV rfl rfl rfl (c_get (r := 37) (o := 0) (K := 11) rfl (by decide)) rfl rfl (t_e_Reader_takeFirst (d := d + 1) ht hv2) ?_
  refine k_runB (pc' := 16) (loc' := [(0, .ref (37 * 1024))]) (st' := [.ref (37 * 1024), .ref (37 * 1024)]) 2 rfl ?_
  refine k_gf 37 0 (K := 11) rfl rfl rfl rfl rfl ?_
  refine k_runB (pc' := 20) (loc' := [(0, .ref (37 * 1024))]) (st' := [.ref (37 * 1024), .ref (37 * 1024 + 10), .ref (37 * 1024)]) 1 rfl ?_
  obtain ⟨q7, hq7, hD⟩ := Option.bind_eq_some_iff.mp hD
  refine k_gq 37 0 (K := 11) (K2 := 6) (key := 5) rfl rfl rfl rfl rfl hq7 (fun kq7 => ?_)
  refine k_gf q7 0 (K := 6) kq7 rfl rfl rfl rfl ?_
  obtain ⟨⟨v8, P9, F10, A11, J12⟩, hv8, hD⟩ := Option.bind_eq_some_iff.mp hD
  dsimp only at hD
  refine k_runV rfl rfl rfl (c_get (r := 37) (o := 0) (K := 11) rfl (by decide)) rfl rfl (t_e_Reader_takeNewName_v3 (d := d + 1) ht hv8) ?_
  refine k_runB (pc' := 31) (loc' := [(0, .ref (37 * 1024))]) (st' := [.ref (37 * 1024), .ref (37 * 1024)]) 2 rfl ?_
  refine k_gf 37 0 (K := 11) rfl rfl rfl rfl rfl ?_
  refine k_runB (pc' := 35) (loc' := [(0, .ref (37 * 1024))]) (st' := [.ref (37 * 1024), .ref (37 * 1024 + 7), .ref (37 * 1024)]) 1 rfl ?_
  obtain ⟨q13, hq13, hD⟩ := Option.bind_eq_some_iff.mp hD
  refine k_gq 37 0 (K := 11) (K2 := 6) (key := 5) rfl rfl rfl rfl rfl hq13 (fun kq13 => ?_)
  refine k_gf q13 0 (K := 6) kq13 rfl rfl rfl rfl ?_
  obtain ⟨⟨v14, P15, F16, A17, J18⟩, hv14, hD⟩ := Option.bind_eq_some_iff.mp hD
  dsimp only at hD
  refine k_runV rfl rfl rfl (c_get (r := 37) (o := 0) (K := 11) rfl (by decide)) rfl rfl (t_e_Reader_takeKnownName (d := d + 1) ht hv14) ?_
  refine k_runB (pc' := 50) (loc' := [(0, .ref (37 * 1024)), (1, .int v14), (2, .int ((-1)))]) (st' := [.int 11, .ref (37 * 1024)]) 5 rfl ?_
  obtain ⟨v19, hv19, hD⟩ := Option.bind_eq_some_iff.mp hD
  refine k_runV rfl rfl rfl (c_get (r := 37) (o := 0) (K := 11) rfl (by decide)) rfl rfl (t_e_Reader_isNext (d := d + 3) hv19) ?_
  refine k_if rfl (fun c53_19 => ?_) (fun c53_19 => ?_)
  · rw [c53_19, cond_true] at hD
    refine k_wk [0, 1, 2] (loc' := [(0, .ref (37 * 1024)), (1, .int v14), (2, .int ((-1)))]) rfl rfl ?_
    exact t_e_Reader_readMan_92 ht   hD
  · rw [c53_19, cond_false] at hD
    refine k_runB (pc' := 59) (loc' := [(0, .ref (37 * 1024)), (1, .int v14), (2, .int ((-1)))]) (st' := [.int 11, .ref (37 * 1024)]) 2 rfl ?_
    obtain ⟨⟨v21, P22, F23, A24, J25⟩, hv21, hD⟩ := Option.bind_eq_some_iff.mp hD
    dsimp only at hD
    refine k_runV rfl rfl rfl (c_get (r := 37) (o := 0) (K := 11) rfl (by decide)) rfl rfl (t_e_Reader_take (d := d + 2) ht hv21) ?_
    refine k_if rfl (fun c62_25 => ?_) (fun c62_25 => ?_)
    · rw [c62_25, cond_true] at hD
      refine k_wk [0, 1, 2] (loc' := [(0, .ref (37 * 1024)), (1, .int v14), (2, .int ((-1)))]) rfl rfl ?_
      exact t_e_Reader_readMan_92 ht   hD
    · rw [c62_25, cond_false] at hD
      refine k_runB (pc' := 67) (loc' := [(0, .ref (37 * 1024)), (1, .int v14), (2, .int ((-1)))]) (st' := [.ref (37 * 1024), .ref (37 * 1024)]) 2 rfl ?_
      refine k_gf 37 0 (K := 11) rfl rfl rfl rfl rfl ?_
      refine k_runB (pc' := 71) (loc' := [(0, .ref (37 * 1024)), (1, .int v14), (2, .int ((-1)))]) (st' := [.ref (37 * 1024), .ref (37 * 1024 + 9), .ref (37 * 1024)]) 1 rfl ?_
      obtain ⟨q27, hq27, hD⟩ := Option.bind_eq_some_iff.mp hD
      refine k_gq 37 0 (K := 11) (K2 := 6) (key := 5) rfl rfl rfl rfl rfl hq27 (fun kq27 => ?_)
      refine k_gf q27 0 (K := 6) kq27 rfl rfl rfl rfl ?_
      obtain ⟨⟨v28, P29, F30, A31, J32⟩, hv28, hD⟩ := Option.bind_eq_some_iff.mp hD
      dsimp only at hD
      refine k_runV rfl rfl rfl (c_get (r := 37) (o := 0) (K := 11) rfl (by decide)) rfl rfl (t_e_Reader_takeKnownName_v1 (d := d + 1) ht hv28) ?_
      refine k_runB (pc' := 87) (loc' := [(0, .ref (37 * 1024)), (1, .int v14), (2, .int ((-1))), (3, .int v28)]) (st' := [.int v28, .ref (37 * 1024), .int (v28 * 6)]) 6 rfl ?_
      obtain ⟨⟨v33, P34, F35, A36, J37⟩, hv33, hD⟩ := Option.bind_eq_some_iff.mp hD
      dsimp only at hD
      refine k_runV rfl rfl rfl (c_get (r := 37) (o := 0) (K := 11) rfl (by decide)) rfl rfl (t_e_Reader_takeStepNumber (d := d) ht hv33) ?_
      refine k_runB (pc' := 92) (loc' := [(0, .ref (37 * 1024)), (1, .int v14), (2, .int ((v28 * 6) + v33)), (3, .int v28)]) (st' := []) 2 rfl ?_
      refine k_wk [0, 1, 2] (loc' := [(0, .ref (37 * 1024)), (1, .int v14), (2, .int ((v28 * 6) + v33))]) rfl rfl ?_
      exact t_e_Reader_readMan_92 ht   hD
/-- SleepWork$Reader.readNight()V  -/
def e_Reader_readNight (P : Nat → Nat → Nat) (F : Nat → Nat → Int32) (A : Nat → Nat → Nat → Int32) (J : Nat → Nat → Nat → Int64) : Option (Unit × (Nat → Nat → Nat) × (Nat → Nat → Int32) × (Nat → Nat → Nat → Int32) × (Nat → Nat → Nat → Int64)) :=
  (e_Reader_take P F A J 7).bind fun (v1, P2, F3, A4, J5) =>
  (c_chk 6 (P2 37 5)).bind fun q6 =>
  (e_Reader_takeNumber P2 F3 A4 J5 1 600).bind fun (v7, P8, F9, A10, J11) =>
  (c_pf F9 q6 18 v7).bind fun F12 =>
  (e_Reader_take P8 F12 A10 J11 59).bind fun (v13, P14, F15, A16, J17) =>
  some ((), P14, F15, A16, J17)
set_option maxRecDepth 10000 in
theorem t_e_Reader_readNight (ht : ∀ ci k, t.1 ci k = k_ty ci k) {P : Nat → Nat → Nat} {F : Nat → Nat → Int32} {A : Nat → Nat → Nat → Int32} {J : Nat → Nat → Nat → Int64}   {w : Unit × (Nat → Nat → Nat) × (Nat → Nat → Int32) × (Nat → Nat → Nat → Int32) × (Nat → Nat → Nat → Int64)} : e_Reader_readNight P F A J = some w → k_run t lg (d + 3) 59 0 [(0, .ref (37 * 1024))] [] (c_h c B P F A J) (none, c_h c B w.2.1 w.2.2.1 w.2.2.2.1 w.2.2.2.2) := by
  intro hD
  unfold e_Reader_readNight at hD
  refine k_runB (pc' := 3) (loc' := [(0, .ref (37 * 1024))]) (st' := [.int 7, .ref (37 * 1024)]) 2 rfl ?_
  obtain ⟨⟨v1, P2, F3, A4, J5⟩, hv1, hD⟩ := Option.bind_eq_some_iff.mp hD
  dsimp only at hD
  refine k_runV rfl rfl rfl (c_get (r := 37) (o := 0) (K := 11) rfl (by decide)) rfl rfl (t_e_Reader_take (d := d + 1) ht hv1) ?_
  refine k_runB (pc' := 8) (loc' := [(0, .ref (37 * 1024))]) (st' := [.ref (37 * 1024)]) 2 rfl ?_
  obtain ⟨q6, hq6, hD⟩ := Option.bind_eq_some_iff.mp hD
  refine k_gq 37 0 (K := 11) (K2 := 6) (key := 5) rfl rfl rfl rfl rfl hq6 (fun kq6 => ?_)
  refine k_runB (pc' := 16) (loc' := [(0, .ref (37 * 1024))]) (st' := [.int 600, .int 1, .ref (37 * 1024), .ref (q6 * 1024)]) 3 rfl ?_
  obtain ⟨⟨v7, P8, F9, A10, J11⟩, hv7, hD⟩ := Option.bind_eq_some_iff.mp hD
  dsimp only at hD
  refine k_runV rfl rfl rfl (c_get (r := 37) (o := 0) (K := 11) rfl (by decide)) rfl rfl (t_e_Reader_takeNumber (d := d) ht hv7) ?_
  obtain ⟨F12, hF12, hD⟩ := Option.bind_eq_some_iff.mp hD
  refine k_cpt q6 0 (K := 6) (key := 18) kq6 rfl (ht 1 18) rfl rfl rfl hF12 ?_
  refine k_runB (pc' := 25) (loc' := [(0, .ref (37 * 1024))]) (st' := [.int 59, .ref (37 * 1024)]) 2 rfl ?_
  obtain ⟨⟨v13, P14, F15, A16, J17⟩, hv13, hD⟩ := Option.bind_eq_some_iff.mp hD
  dsimp only at hD
  refine k_runV rfl rfl rfl (c_get (r := 37) (o := 0) (K := 11) rfl (by decide)) rfl rfl (t_e_Reader_take (d := d + 1) ht hv13) ?_
  refine k_runB (pc' := 29) (loc' := [(0, .ref (37 * 1024))]) (st' := []) 1 rfl ?_
  cases hD
  exact k_vret rfl rfl
/-- SleepWork$Reader.takeKnownName([JI)I  -/
def e_Reader_takeKnownName_v3 (n : Nat) (P : Nat → Nat → Nat) (F : Nat → Nat → Int32) (A : Nat → Nat → Nat → Int32) (J : Nat → Nat → Nat → Int64) (x2 : Int32) : Option (Int32 × (Nat → Nat → Nat) × (Nat → Nat → Int32) × (Nat → Nat → Nat → Int32) × (Nat → Nat → Nat → Int64)) :=
  (e_Reader_take P F A J 100).bind fun (v1, P2, F3, A4, J5) =>
  cond (g_cnd .ne v1 0)
  ((m_ldJ (J5 37 5) 401 (F3 37 8)).bind fun v7 =>
  (e_Reader_find_v3 n P2 F3 A4 J5 v7 x2).bind fun v8 =>
  cond (g_cnd .ge v8 0)
  (some (v8, P2, F3, A4, J5))
  ((e_Reader_failLate P2 F3 A4 J5 4).bind fun (_, P11, F12, A13, J14) =>
  some (v8, P11, F12, A13, J14)))
  (some ((-1), P2, F3, A4, J5))
set_option maxRecDepth 10000 in
theorem t_e_Reader_takeKnownName_v3 (ht : ∀ ci k, t.1 ci k = k_ty ci k) {n : Nat} {P : Nat → Nat → Nat} {F : Nat → Nat → Int32} {A : Nat → Nat → Nat → Int32} {J : Nat → Nat → Nat → Int64} {x2 : Int32}  {w : Int32 × (Nat → Nat → Nat) × (Nat → Nat → Int32) × (Nat → Nat → Nat → Int32) × (Nat → Nat → Nat → Int64)} : e_Reader_takeKnownName_v3 n P F A J x2 = some w → k_run t lg (d + 2) 48 0 [(0, .ref (37 * 1024)), (1, .ref (37 * 1024 + 10)), (2, .int x2)] [] (c_h c B P F A J) (some (.int w.1), c_h c B w.2.1 w.2.2.1 w.2.2.2.1 w.2.2.2.2) := by
  intro hD
  unfold e_Reader_takeKnownName_v3 at hD
  refine k_runB (pc' := 3) (loc' := [(0, .ref (37 * 1024)), (1, .ref (37 * 1024 + 10)), (2, .int x2)]) (st' := [.int 100, .ref (37 * 1024)]) 2 rfl ?_
  obtain ⟨⟨v1, P2, F3, A4, J5⟩, hv1, hD⟩ := Option.bind_eq_some_iff.mp hD
  dsimp only at hD
  refine k_runV rfl rfl rfl (c_get (r := 37) (o := 0) (K := 11) rfl (by decide)) rfl rfl (t_e_Reader_take (d := d) ht hv1) ?_
  refine k_if rfl (fun c6_5 => ?_) (fun c6_5 => ?_)
  · rw [c6_5, cond_true] at hD
    refine k_runB (pc' := 12) (loc' := [(0, .ref (37 * 1024)), (1, .ref (37 * 1024 + 10)), (2, .int x2)]) (st' := [.ref (37 * 1024)]) 1 rfl ?_
    refine k_gf 37 0 (K := 11) rfl rfl rfl rfl rfl ?_
    refine k_gf 37 1 (K := 11) rfl rfl rfl rfl rfl ?_
    refine k_runB (pc' := 19) (loc' := [(0, .ref (37 * 1024)), (1, .ref (37 * 1024 + 10)), (2, .int x2)]) (st' := [.ref (37 * 1024), .ref (37 * 1024 + 5)]) 1 rfl ?_
    refine k_gf 37 0 (K := 11) rfl rfl rfl rfl rfl ?_
    obtain ⟨v7, hv7, hD⟩ := Option.bind_eq_some_iff.mp hD
    refine k_ldL rfl (c_get (r := 37) (o := 5) (K := 11) rfl (by decide)) hv7 ?_
    refine k_runB (pc' := 25) (loc' := [(0, .ref (37 * 1024)), (1, .ref (37 * 1024 + 10)), (2, .int x2)]) (st' := [.int x2, .ref (37 * 1024 + 10), .long (v7)]) 2 rfl ?_
    obtain ⟨v8, hv8, hD⟩ := Option.bind_eq_some_iff.mp hD
    refine k_runC rfl rfl rfl rfl (t_e_Reader_find_v3 (d := d + 1) hv8) ?_
    refine k_runB (pc' := 30) (loc' := [(0, .ref (37 * 1024)), (1, .ref (37 * 1024 + 10)), (2, .int x2), (3, .int v8)]) (st' := [.int v8]) 2 rfl ?_
    refine k_if rfl (fun c30_8 => ?_) (fun c30_8 => ?_)
    · rw [c30_8, cond_true] at hD
      refine k_runB (pc' := 39) (loc' := [(0, .ref (37 * 1024)), (1, .ref (37 * 1024 + 10)), (2, .int x2), (3, .int v8)]) (st' := [.int v8]) 1 rfl ?_
      cases hD
      exact k_iret rfl rfl
    · rw [c30_8, cond_false] at hD
      refine k_runB (pc' := 35) (loc' := [(0, .ref (37 * 1024)), (1, .ref (37 * 1024 + 10)), (2, .int x2), (3, .int v8)]) (st' := [.int 4, .ref (37 * 1024)]) 2 rfl ?_
      obtain ⟨⟨v10, P11, F12, A13, J14⟩, hv10, hD⟩ := Option.bind_eq_some_iff.mp hD
      dsimp only at hD
      refine k_runV rfl rfl rfl (c_get (r := 37) (o := 0) (K := 11) rfl (by decide)) rfl rfl (t_e_Reader_failLate (d := d + 1) ht hv10) ?_
      refine k_runB (pc' := 39) (loc' := [(0, .ref (37 * 1024)), (1, .ref (37 * 1024 + 10)), (2, .int x2), (3, .int v8)]) (st' := [.int v8]) 1 rfl ?_
      cases hD
      exact k_iret rfl rfl
  · rw [c6_5, cond_false] at hD
    refine k_runB (pc' := 10) (loc' := [(0, .ref (37 * 1024)), (1, .ref (37 * 1024 + 10)), (2, .int x2)]) (st' := [.int ((-1))]) 1 rfl ?_
    cases hD
    exact k_iret rfl rfl
end MC
