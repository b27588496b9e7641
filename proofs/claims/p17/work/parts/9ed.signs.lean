section B4
variable {T : TS} {d n m N nn : Nat} {o : Int} {P : Nat → Nat → Nat} {F F' : Nat → Nat → Int32} {A A' : Nat → Nat → Nat → Int32} {J J' : Nat → Nat → Nat → Int64} {Fm Fm' : Nat → Int32} {Am Am' : Nat → Nat → Int32} {Jm Jm' : Nat → Nat → Int64} {k k' x1 x2 : Int32} {γ δ : Type} {Q : γ → δ → Prop}
/-- no sign of a term comes next -/
def NOP (Am : Nat → Nat → Int32) (Fm : Nat → Int32) : Prop := (Am 3 (Fm 11).toInt.toNat).toInt ≠ 8 ∧ (Am 3 (Fm 11).toInt.toNat).toInt ≠ 9 ∧ (Am 3 (Fm 11).toInt.toNat).toInt ≠ 10 ∧ (Am 3 (Fm 11).toInt.toNat).toInt ≠ 15
theorem y_186 {K12} (R : RT T F Fm) (hop : (Am 3 (Fm 11).toInt.toNat).toInt = 8 ∨ (Am 3 (Fm 11).toInt.toNat).toInt = 9 ∨ (Am 3 (Fm 11).toInt.toNat).toInt = 10 ∨ (Am 3 (Fm 11).toInt.toNat).toInt = 15) : ∃ s1, d_expression_96 K12 (n + 1) Fm Am Jm 0 = d_expression_234 K12 n Fm Am Jm 0 1 s1 ∧ ((Am 3 (Fm 11).toInt.toNat).toInt = 10 ∨ (Am 3 (Fm 11).toInt.toNat).toInt = 15 → s1 = 1) ∧ ((Am 3 (Fm 11).toInt.toNat).toInt = 8 ∨ (Am 3 (Fm 11).toInt.toNat).toInt = 9 → s1 = 0) := by
  have t0 := R.t0
  have t1 := R.t1
  have l7 : (7 : Int32).toInt = 7 := by decide
  have l8 : (8 : Int32).toInt = 8 := by decide
  have l9 : (9 : Int32).toInt = 9 := by decide
  have l10 : (10 : Int32).toInt = 10 := by decide
  have l15 : (15 : Int32).toInt = 15 := by decide
  have z10 : g_cnd .ne (1 : Int32) 0 = true := by decide
  have z00 : g_cnd .ne (0 : Int32) 0 = false := by decide
  unfold d_expression_96 d_expression_145 d_expression_181 d_expression_186 d_expression_229
  rw [d_is_0 R.g0 t0 t1 (by rw [l7]; omega), Option.bind_some, cz_00, cond_true]
  rcases hop with h | h | h | h
  · rw [d_is_1 R.g0 t0 t1 (by rw [l8]; exact h), Option.bind_some, z10, cond_true, cond_true, d_is_0 R.g0 t0 t1 (by rw [l10]; omega), Option.bind_some, z00, cond_false, d_is_0 R.g0 t0 t1 (by rw [l15]; omega), Option.bind_some, cz_00, cond_true]
    exact ⟨_, rfl, fun h => absurd h (by omega), fun _ => rfl⟩
  · rw [d_is_0 R.g0 t0 t1 (by rw [l8]; omega), Option.bind_some, z00, cond_false, d_is_1 R.g0 t0 t1 (by rw [l9]; exact h), Option.bind_some, z10, cond_true, cond_true, d_is_0 R.g0 t0 t1 (by rw [l10]; omega), Option.bind_some, z00, cond_false, d_is_0 R.g0 t0 t1 (by rw [l15]; omega), Option.bind_some, cz_00, cond_true]
    exact ⟨_, rfl, fun h => absurd h (by omega), fun _ => rfl⟩
  · rw [d_is_0 R.g0 t0 t1 (by rw [l8]; omega), Option.bind_some, z00, cond_false, d_is_0 R.g0 t0 t1 (by rw [l9]; omega), Option.bind_some, z00, cond_false, d_is_1 R.g0 t0 t1 (by rw [l10]; exact h), Option.bind_some, z10, cond_true, cond_true, Option.bind_some, z10, cond_true]
    exact ⟨_, rfl, fun _ => rfl, fun h => absurd h (by omega)⟩
  · rw [d_is_0 R.g0 t0 t1 (by rw [l8]; omega), Option.bind_some, z00, cond_false, d_is_0 R.g0 t0 t1 (by rw [l9]; omega), Option.bind_some, z00, cond_false, d_is_0 R.g0 t0 t1 (by rw [l10]; omega), Option.bind_some, z00, cond_false, d_is_1 R.g0 t0 t1 (by rw [l15]; exact h), Option.bind_some, cz_10, cond_false, z10, cond_true, Option.bind_some, z00, cond_false, Option.bind_some, cz_10, cond_false]
    exact ⟨_, rfl, fun _ => rfl, fun h => absurd h (by omega)⟩
/-- a sign, on both sides -/
theorem y_op {A0 : Nat → Nat → Nat → Int32} {Am0 : Nat → Nat → Int32} {k49 : Int32 × Int32} {p c h D sg pt st : Int} {w : Int → Int} {f} {g} (hd : d ≠ 37) (K : TKs T) (S : SX T o d J Jm F A Fm Am) (hk : KR k.toInt k'.toInt) (hop : k'.toInt = 8 ∨ k'.toInt = 9 ∨ k'.toInt = 10 ∨ k'.toInt = 15) (hm : (Am 3 (Fm 11).toInt.toNat).toInt = k'.toInt) (C : CR A0 Am0 k49 p c h D w sg pt st 1 d F A Fm Am) (G : GBx h w) (hst : (k'.toInt = 10 ∨ k'.toInt = 15) ∧ st = 1 ∨ (k'.toInt = 8 ∨ k'.toInt = 9) ∧ st = 2) (ks : ∀ F' Fm' Am' N' n', SX T o d J Jm F' A Fm' Am' → (Fm' 11).toInt = (Fm 11).toInt + 1 → CR A0 Am0 k49 p c h D w (if k'.toInt = 10 ∨ k'.toInt = 15 then sg else k'.toInt) (if k'.toInt = 10 ∨ k'.toInt = 15 then k'.toInt else 0) 0 0 d F' A Fm' Am' → P2 (f (1, P, F', A, J)) ((d_expression_23 (d_expression_12 N') n' Fm' Am' Jm 0).bind g) Q) (kf : ∀ F' Fm' Am' Jm', FE F' Fm' → P2 (f (0, P, F', A, J)) (g ((), Fm', Am', Jm')) Q) : P2 (α := γ) (β := δ) ((e_Reader_take P F A J k).bind f) ((d_expression_96 (d_expression_12 N) n Fm Am Jm 0).bind g) Q := by
  cases n with
  | zero => intro a b _ hb; cases hb
  | succ n =>
    obtain ⟨s1, e, es1, es2⟩ := y_186 (K12 := d_expression_12 N) (n := n) (Jm := Jm) S.r (by rw [hm]; exact hop)
    rw [e]
    unfold d_expression_234
    rw [Option.bind_assoc]
    rw [hm] at es1 es2
    have hout : po (d_comesOut n Fm Am Jm s1) (fun r => ∃ F' A', r = ((), F', A', Jm) ∧ FrN Fm F' Am A' ∧ ∃ sg' st', CR A0 Am0 k49 p c h D w sg' 0 st' 1 d F A F' A' ∧ ((k'.toInt = 10 ∨ k'.toInt = 15) ∧ st' = 1 ∧ sg' = sg ∨ (k'.toInt = 8 ∨ k'.toInt = 9) ∧ sg' = 0)) := by
      rcases hst with ⟨h1, rfl⟩ | ⟨h1, rfl⟩
      · rw [es1 h1]
        refine po_mono (out_S C G) ?_
        rintro _ ⟨F', A', rfl, f, C'⟩
        exact ⟨F', A', rfl, f, sg, 1, C', .inl ⟨h1, rfl, rfl⟩⟩
      · rw [es2 h1]
        refine po_mono (out_W C G) ?_
        rintro _ ⟨F', A', rfl, f, C'⟩
        exact ⟨F', A', rfl, f, 0, 2, C', .inr ⟨h1, rfl⟩⟩
    refine p2_r hout ?_
    rintro _ ⟨F1, A1, rfl, f1, sg', st', C1, hz⟩
    dsimp only
    rw [Option.bind_assoc]
    refine p2_br (fun v69 e69 => ?_)
    rw [Option.bind_assoc]
    refine p2_br (fun A2 e2 => ?_)
    have a2 := gg_st e2
    rw [Option.bind_assoc]
    refine p2_br (fun F2 e3 => ?_)
    have a3 := gg_pf e3
    rw [Option.bind_assoc]
    have f2 : FrN Fm F2 Am A2 := f1.tr ⟨fun q _ h => a3.2 q h, fun q _ _ h => a2.2.2.1 q h⟩
    have S2 := S.nn f2
    have e11 : F2 11 = Fm 11 := f2.1 11 (by decide) (by decide)
    refine p2_goes K S2.r S2.x hk ⟨by omega, by omega⟩ (by rw [e11, f2.2 3 (by decide) (by decide) (by decide)]; exact hm) (fun F3 Fm3 U3 => ?_) (fun F3 Fm3 fc fm E => ?_)
    · have S3 := S2.v hd U3.v
      dsimp only
      cases N with
      | zero => intro a b _ hb; cases hb
      | succ N =>
        unfold d_expression_12
        rw [cz_10, cond_false, S3.r.nz, cond_false]
        have v69e : v69.toInt = k'.toInt := by rw [(gg_ld e69).2.2, f1.1 11 (by decide) (by decide), f1.2 3 (by decide) (by decide) (by decide)]; exact hm
        have C2 := C1.psh (z := k'.toInt) (Fm' := Fm3) (Am' := A2) (hz.imp (fun h => ⟨h.1, h.2.1⟩) (fun h => h)) (by rw [U3.fm 60 (by decide), a3.1, i_add (by rw [i_1]; have := a2.1; omega) (by rw [i_1]; have := a2.2.1; omega), i_1]) (by rw [U3.fm 56 (by decide), a3.2 56 (by decide)]) (by rw [U3.fm 49 (by decide), a3.2 49 (by decide), U3.fm 19 (by decide), a3.2 19 (by decide)]) (by rw [U3.m1, a3.2 11 (by decide)]) (a2.2.2.2.1.trans v69e) a2.2.2.2.2 a2.2.2.1
        have C3 := C2.fr (F' := F3) (A' := A) (Fm' := Fm3) (Am' := A2) (U3.fc d 1304 (fun e => hd e.1)) rfl rfl rfl rfl rfl rfl (Int.le_refl _) (fun _ _ _ => rfl)
        refine ks F3 Fm3 A2 N N S3 (by rw [U3.m1, e11]) ?_
        rcases hz with ⟨h1, -, rfl⟩ | ⟨h1, rfl⟩
        · exact C3
        · rw [if_neg (by omega), if_neg (by omega)] at C3 ⊢
          exact C3
    · dsimp only
      cases N with
      | zero => intro a b _ hb; cases hb
      | succ N =>
        unfold d_expression_12
        rw [cz_10, cond_false, E.nz, cond_true, Option.bind_some]
        exact kf F3 Fm3 A2 Jm E
/-- a bracket closes, on both sides -/
theorem y_cl {A0 : Nat → Nat → Nat → Int32} {Am0 : Nat → Nat → Int32} {k49 : Int32 × Int32} {p c h D sg pt st : Int} {w : Int → Int} {f} {g} {K12} (hd : d ≠ 37) (K : TKs T) (S : SX T o d J Jm F A Fm Am) (ho : 0 < o) (ho7 : o ≤ 7) (hm : (Am 3 (Fm 11).toInt.toNat).toInt = (7 : Int32).toInt) (C : CR A0 Am0 k49 p c (h + 1) D (fun i => if i = h then 6 else w i) sg pt 2 1 d F A Fm Am) (h0 : 0 ≤ h) (ks : ∀ F' Fm' Am' n', SX T (o - 1) d J Jm F' A Fm' Am' → (Fm' 11).toInt = (Fm 11).toInt + 1 → CR A0 Am0 k49 p c h D w 0 0 2 1 d F' A Fm' Am' → P2 (f (1, P, F', A, J)) ((d_expression_96 K12 n' Fm' Am' Jm 0).bind g) Q) (kf : ∀ F' Fm' Am' Jm', FE F' Fm' → P2 (f (0, P, F', A, J)) (g ((), Fm', Am', Jm')) Q) : P2 (α := γ) (β := δ) ((e_Reader_take P F A J 41).bind f) ((d_expression_96 K12 n Fm Am Jm 0).bind g) Q := by
  cases n with
  | zero => intro a b _ hb; cases hb
  | succ n =>
    have t0 := S.r.t0
    have t1 := S.r.t1
    have op := S.h.op
    have l1 := i_1
    unfold d_expression_96
    rw [d_is_1 S.r.g0 t0 t1 hm, Option.bind_some, cz_10, cond_false, i_nle.mpr (by rw [i_0, op]; exact ho), cond_false, Option.bind_assoc]
    refine p2_r (out_W C (.inr (if_pos (by omega)))) ?_
    rintro _ ⟨F1, A1, rfl, f1, C1⟩
    dsimp only
    rw [Option.bind_assoc]
    refine p2_br (fun F2 e2 => ?_)
    have a2 := gg_pf e2
    rw [Option.bind_assoc]
    refine p2_br (fun F3 e3 => ?_)
    have a3 := gg_pf e3
    rw [Option.bind_assoc]
    have f2 : FrN Fm F2 Am A1 := f1.tr ⟨fun q _ h => a2.2 q h, fun _ _ _ _ => rfl⟩
    have e12 : F2 12 = Fm 12 := f2.1 12 (by decide) (by decide)
    have S3 : SX T (o - 1) d J Jm F A F3 A1 := (S.nn f2).oo (by rw [a3.1, e12, i_sub (by omega) (by omega), i_1, op]) a3.2
    have e11 : F3 11 = Fm 11 := by rw [a3.2 11 (by decide), f2.1 11 (by decide) (by decide)]
    refine p2_goes (k' := 7) K S3.r S3.x (by decide) (by decide) (by rw [e11, f1.2 3 (by decide) (by decide) (by decide)]; exact hm) (fun F4 Fm4 U4 => ?_) (fun F4 Fm4 fc fm E => ?_)
    · have w60 : 1 ≤ (F1 60).toInt := by
        have c3 := C1.2.2.1.1
        rw [c3, ns_0]
        omega
      have C2 := C1.cls (Fm' := Fm4) h0 (by rw [U4.fm 60 (by decide), a3.2 60 (by decide), a2.1, i_sub (by rw [i_1]; omega) (by rw [i_1]; have := i_rng (F1 60); omega), i_1]) (by rw [U4.fm 56 (by decide), a3.2 56 (by decide), a2.2 56 (by decide)]) (by rw [U4.fm 49 (by decide), a3.2 49 (by decide), a2.2 49 (by decide), U4.fm 19 (by decide), a3.2 19 (by decide), a2.2 19 (by decide)]) (by rw [U4.m1, a3.2 11 (by decide), a2.2 11 (by decide)]; omega)
      have C3 := C2.fr (F' := F4) (A' := A) (Fm' := Fm4) (Am' := A1) (U4.fc d 1304 (fun e => hd e.1)) rfl rfl rfl rfl rfl rfl (Int.le_refl _) (fun _ _ _ => rfl)
      exact ks F4 Fm4 A1 n (S3.v hd U4.v) (by rw [U4.m1, e11]) C3
    · dsimp only
      refine p2_r (dY_ff E.gg) ?_
      rintro ⟨u, F5, A5, J5⟩ h5
      have h5 : F5 13 = Fm4 13 := h5
      exact kf F4 F5 A5 J5 ⟨by rw [h5]; exact E.1, by rw [h5]; exact E.gg⟩
/-- a term ends -/
theorem y_145 {K12} (R : RT T F Fm) (hn : NOP Am Fm) : d_expression_145 K12 n Fm Am Jm 0 = d_expression_186 K12 n Fm Am Jm 0 0 := by
  have t0 := R.t0
  have t1 := R.t1
  have l8 : (8 : Int32).toInt = 8 := by decide
  have l9 : (9 : Int32).toInt = 9 := by decide
  have l10 : (10 : Int32).toInt = 10 := by decide
  have l15 : (15 : Int32).toInt = 15 := by decide
  have z00 : g_cnd .ne (0 : Int32) 0 = false := by decide
  unfold d_expression_145
  rw [d_is_0 R.g0 t0 t1 (by rw [l8]; exact hn.1), Option.bind_some, z00, cond_false, d_is_0 R.g0 t0 t1 (by rw [l9]; exact hn.2.1), Option.bind_some, z00, cond_false, d_is_0 R.g0 t0 t1 (by rw [l10]; exact hn.2.2.1), Option.bind_some, z00, cond_false, d_is_0 R.g0 t0 t1 (by rw [l15]; exact hn.2.2.2), Option.bind_some, cz_00, cond_true]
theorem y_end0 {A0 : Nat → Nat → Nat → Int32} {Am0 : Nat → Nat → Int32} {k49 : Int32 × Int32} {p c h D sg pt st : Int} {w : Int → Int} {x : Option γ} {g} {K12} (S : SX T 0 d J Jm F A Fm Am) (hn : NOP Am Fm) (C : CR A0 Am0 k49 p c 0 D w sg pt 2 1 d F A Fm Am) (ks : ∀ Fm' Am', FrN Fm Fm' Am Am' → CR A0 Am0 k49 p c 0 D w 0 0 2 1 d F A Fm' Am' → P2 x (g ((), Fm', Am', Jm)) Q) : P2 (α := γ) (β := δ) x ((d_expression_96 K12 n Fm Am Jm 0).bind g) Q := by
  cases n with
  | zero => intro a b _ hb; cases hb
  | succ n =>
    have op := S.h.op
    have le : g_cnd .le (Fm 12) 0 = true := i_le.mpr (by rw [op]; decide)
    have fin : P2 x ((d_expression_145 K12 n Fm Am Jm 0).bind g) Q := by
      rw [y_145 S.r hn]
      unfold d_expression_186
      rw [i_nne.mpr rfl, cond_false, le, cond_true]
      unfold d_expression_204
      rw [Option.bind_assoc]
      refine p2_r (out_W C (.inl rfl)) ?_
      rintro _ ⟨F1, A1, rfl, f1, C1⟩
      exact ks F1 A1 f1 C1
    unfold d_expression_96
    rw [Option.bind_assoc]
    refine p2_br (fun v23 _ => ?_)
    refine p2_bind_cr (fun _ => fin) (fun _ => ?_)
    rw [le, cond_true]
    exact fin
theorem y_end1 {x : Option γ} {g} {K12} (S : SX T o d J Jm F A Fm Am) (ho : 0 < o) (hn : NOP Am Fm) (h7 : (Am 3 (Fm 11).toInt.toNat).toInt ≠ (7 : Int32).toInt) (ks : ∀ Fm' Am', Fm' 13 = 1 → P2 x (g ((), Fm', Am', Jm)) Q) : P2 (α := γ) (β := δ) x ((d_expression_96 K12 n Fm Am Jm 0).bind g) Q := by
  cases n with
  | zero => intro a b _ hb; cases hb
  | succ n =>
    have t0 := S.r.t0
    have t1 := S.r.t1
    have op := S.h.op
    unfold d_expression_96
    rw [d_is_0 S.r.g0 t0 t1 h7, Option.bind_some, cz_00, cond_true, y_145 S.r hn]
    unfold d_expression_186
    rw [i_nne.mpr rfl, cond_false, i_nle.mpr (by rw [i_0, op]; exact ho), cond_false]
    obtain ⟨F1, e1, h1, -, -⟩ := d_fail_0 (F := Fm) (A := Am) (J := Jm) (k := 1) S.r.g0 t0 t1
    rw [e1, Option.bind_some]
    dsimp only
    rw [Option.bind_assoc]
    refine p2_r out_po ?_
    rintro _ ⟨F2, A2, rfl, f2⟩
    exact ks F2 A2 (by rw [f2.1 13 (by decide) (by decide), h1])
/-- the class's words, one after the other -/
theorem c58_word {KS} {f} {u : Option δ} {w : Int32} (h : (F 37 10).toInt = 0) (t0 : 0 ≤ (F 37 7).toInt) (t1 : (F 37 7).toInt ≤ 400) (hw : (A 37 2 (F 37 7).toInt.toNat).toInt = w.toInt) (hw2 : w.toInt ≤ 20) (z : ∀ n', P2 (((e_Reader_take P F A J w).bind fun (v41, P42, F43, A44, J45) => cond (g_cnd .eq v41 0) (e_Reader_readUnit_97 KS (e_Reader_readUnit_58 KS n') n' P42 F43 A44 J45 w) ((c_chk 6 (P42 37 5)).bind fun q47 => (e_Laws_add P42 F43 A44 J45 q47 2 (w - 15)).bind fun (v48, P49, F50, A51, J52) => some ((), P49, F50, A51, J52))).bind f) u Q) : ∀ {n : Nat} {x2 : Int32}, 15 ≤ x2.toInt → x2.toInt ≤ w.toInt → P2 (α := γ) ((e_Reader_readUnit_58 KS n P F A J x2).bind f) u Q := by
  have l20 : (20 : Int32).toInt = 20 := by decide
  have l1 := i_1
  intro n
  induction n with
  | zero => intro x2 _ _ a b ha _; cases ha
  | succ n ih =>
    intro x2 h1 h2
    unfold e_Reader_readUnit_58
    rw [i_ngt.mpr (by rw [l20]; omega), cond_false]
    by_cases e : x2.toInt = w.toInt
    · have e := i_ext e
      subst e
      rw [e_next_1 h t0 t1 hw, Option.bind_some, cz_10, cond_false]
      exact z n
    · rw [e_next_0 h t0 t1 (by rw [hw]; exact fun h => e h.symm), Option.bind_some, cz_00, cond_true]
      unfold e_Reader_readUnit_97
      have e1 := i_add (x := x2) (y := 1) (by omega) (by omega)
      exact ih (by omega) (by omega)
theorem c58_no {KS} {f} {u : Option δ} (h : (F 37 10).toInt = 0) (t0 : 0 ≤ (F 37 7).toInt) (t1 : (F 37 7).toInt ≤ 400) (hw : (A 37 2 (F 37 7).toInt.toNat).toInt < 15 ∨ 20 < (A 37 2 (F 37 7).toInt.toNat).toInt) (z : P2 (((e_Reader_take P F A J 101).bind fun (v26, P27, F28, A29, J30) => cond (g_cnd .eq v26 0) (some ((), P27, F28, A29, J30)) ((c_chk 6 (P27 37 5)).bind fun q32 => (m_ld (A29 37 4) 401 (F28 37 8)).bind fun v33 => (e_Laws_add P27 F28 A29 J30 q32 1 v33).bind fun (v34, P35, F36, A37, J38) => some ((), P35, F36, A37, J38))).bind f) u Q) : ∀ {n : Nat} {x2 : Int32}, 15 ≤ x2.toInt → x2.toInt ≤ 21 → P2 (α := γ) ((e_Reader_readUnit_58 KS n P F A J x2).bind f) u Q := by
  have l20 : (20 : Int32).toInt = 20 := by decide
  have l1 := i_1
  intro n
  induction n with
  | zero => intro x2 _ _ a b ha _; cases ha
  | succ n ih =>
    intro x2 h1 h2
    unfold e_Reader_readUnit_58
    by_cases e : x2.toInt ≤ 20
    · rw [i_ngt.mpr (by rw [l20]; exact e), cond_false, e_next_0 h t0 t1 (by omega), Option.bind_some, cz_00, cond_true]
      unfold e_Reader_readUnit_97
      have e1 := i_add (x := x2) (y := 1) (by omega) (by omega)
      exact ih (by omega) (by omega)
    · rw [i_gt.mpr (by rw [l20]; omega), cond_true]
      exact z
theorem chx_0 {x : Int} (h : x = 0 ∨ x = 8 ∨ x = 9 ∨ x = 10 ∨ x = 15) : chx x = 0 ↔ x = 0 := by
  rcases h with rfl | rfl | rfl | rfl | rfl <;> decide
theorem sign_p {A0 : Nat → Nat → Nat → Int32} {Am0 : Nat → Nat → Int32} {k49 : Int32 × Int32} {p c h D sg pt : Int} {w : Int → Int} (hc : c_chk 6 (P 37 5) = some d) (C : CR A0 Am0 k49 p c h D w sg pt 0 1 d F A Fm Am) (hx : x1.toInt = chx pt) (t1 : (Fm 11).toInt ≤ 400) : po (e_Reader_addSign P F A J x1) (fun r => ∃ F' A', r = ((), P, F', A', J) ∧ FrL d F F' A A' ∧ CR A0 Am0 k49 p c h D w sg pt 1 1 d F' A' Fm Am) := by
  have hp := C.2.1.2
  have sl := C.2.2.2.2.2.1.2.2.2
  have l0 : 0 ≤ (F d 1304).toInt := by
    have e := C.2.2.2.2.2.1.1
    have s := C.2.2.2.1.1
    have b := C.1.1
    rw [if_neg (by decide), if_neg (by decide)] at e
    omega
  have b1 := ns_b sg
  have b2 := ns_b pt
  have bD := C.1.2.2.2.1
  rw [if_neg (by decide), if_neg (by decide)] at sl
  unfold e_Reader_addSign
  refine po_cond (fun c0 => ?_) (fun c0 => ?_)
  · rw [i_eq, i_0, hx, chx_0 (by omega)] at c0
    subst c0
    exact po_some ⟨F, A, rfl, FrL.rfl', C.s1z⟩
  · rw [i_neq, i_0, hx] at c0
    have hp0 : pt ≠ 0 := fun e => c0 ((chx_0 (by omega)).mpr e)
    rw [hc, Option.bind_some]
    refine po_call (add_v l0 (by omega)) ?_
    rintro _ ⟨v, F', A', rfl, f, -, g1, g2, g3, g4⟩
    exact po_some ⟨F', A', rfl, f, C.s1 hp0 g1 g2 g4 (f.2 d 14 (by omega)) hx⟩
theorem sign_s {A0 : Nat → Nat → Nat → Int32} {Am0 : Nat → Nat → Int32} {k49 : Int32 × Int32} {p c h D sg pt : Int} {w : Int → Int} (hc : c_chk 6 (P 37 5) = some d) (C : CR A0 Am0 k49 p c h D w sg pt 1 1 d F A Fm Am) (hx : x1.toInt = chx sg) (t1 : (Fm 11).toInt ≤ 400) : po (e_Reader_addSign P F A J x1) (fun r => ∃ F' A', r = ((), P, F', A', J) ∧ FrL d F F' A A' ∧ CR A0 Am0 k49 p c h D w sg pt 2 1 d F' A' Fm Am) := by
  have hp := C.2.1.1
  have sl := C.2.2.2.2.2.1.2.2.2
  have b1 := ns_b sg
  have b2 := ns_b pt
  have l0 : 0 ≤ (F d 1304).toInt := by
    have e := C.2.2.2.2.2.1.1
    have s := C.2.2.2.1.1
    have b := C.1.1
    rw [if_pos (by decide), if_neg (by decide)] at e
    omega
  have bD := C.1.2.2.2.1
  rw [if_pos (by decide), if_neg (by decide)] at sl
  unfold e_Reader_addSign
  refine po_cond (fun c0 => ?_) (fun c0 => ?_)
  · rw [i_eq, i_0, hx, chx_0 (by omega)] at c0
    subst c0
    exact po_some ⟨F, A, rfl, FrL.rfl', C.s2z⟩
  · rw [i_neq, i_0, hx] at c0
    have hp0 : sg ≠ 0 := fun e => c0 ((chx_0 (by omega)).mpr e)
    rw [hc, Option.bind_some]
    refine po_call (add_v l0 (by omega)) ?_
    rintro _ ⟨v, F', A', rfl, f, -, g1, g2, g3, g4⟩
    exact po_some ⟨F', A', rfl, f, C.s2 hp0 g1 g2 g4 (f.2 d 14 (by omega)) hx⟩
end B4
