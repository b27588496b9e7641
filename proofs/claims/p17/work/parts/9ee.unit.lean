section B5
variable {T : TS} {d n m N nn : Nat} {o : Int} {P : Nat → Nat → Nat} {F F' : Nat → Nat → Int32} {A A' : Nat → Nat → Nat → Int32} {J J' : Nat → Nat → Nat → Int64} {Fm Fm' : Nat → Int32} {Am Am' : Nat → Nat → Int32} {Jm Jm' : Nat → Nat → Int64} {k k' x1 x2 : Int32}
abbrev cR (α : Type) : Type := α × (Nat → Nat → Nat) × (Nat → Nat → Int32) × (Nat → Nat → Nat → Int32) × (Nat → Nat → Nat → Int64)
abbrev mR (α : Type) : Type := α × (Nat → Int32) × (Nat → Nat → Int32) × (Nat → Nat → Int64)
abbrev cKS : Type := (Nat → Nat → Nat) → (Nat → Nat → Int32) → (Nat → Nat → Nat → Int32) → (Nat → Nat → Nat → Int64) → Int32 → Option (cR Unit)
/-- a piece of a term, on both sides -/
def XP (T : TS) (d : Nat) (P : Nat → Nat → Nat) (J : Nat → Nat → Nat → Int64) (Jm : Nat → Nat → Int64) (b : Bool) (KS : cKS) : Prop :=
  ∀ (γ δ : Type) (Q : γ → δ → Prop) (f : cR Unit → Option γ) (g : mR Unit → Option δ) (o : Int) (F : Nat → Nat → Int32) (A : Nat → Nat → Nat → Int32) (Fm : Nat → Int32) (Am : Nat → Nat → Int32) (N nn : Nat) (x1 : Int32) (A0 : Nat → Nat → Nat → Int32) (Am0 : Nat → Nat → Int32) (k49 : Int32 × Int32) (p c h D : Int) (w : Int → Int), x1.toInt = o → 0 ≤ o → o ≤ 6 → SX T o d J Jm F A Fm Am → CR A0 Am0 k49 p c h D w 0 0 0 0 d F A Fm Am → D ≤ 2 * o + (if b then 0 else 2) → (b = true → GBx h w) →
  (∀ F' A' Fm' Am' N' n' sg pt, SX T o d J Jm F' A' Fm' Am' → (Fm 11).toInt ≤ (Fm' 11).toInt → CR A0 Am0 k49 p c h D w sg pt 2 1 d F' A' Fm' Am' → (b = true → NOP Am' Fm') → (b = false → sg = 0 ∧ pt = 0) → P2 (f ((), P, F', A', J)) ((d_expression_96 (d_expression_12 N') n' Fm' Am' Jm 0).bind g) Q) →
  (∀ F' A' J' Fm' Am' Jm', FE F' Fm' → P2 (f ((), P, F', A', J')) (g ((), Fm', Am', Jm')) Q) →
  P2 ((KS P F A J x1).bind f) ((d_expression_23 (d_expression_12 N) nn Fm Am Jm 0).bind g) Q
/-- it keeps a fault that is there -/
def XF (P : Nat → Nat → Nat) (J : Nat → Nat → Nat → Int64) (KS : cKS) : Prop := ∀ F A x1, (F 37 10).toInt ≠ 0 → po (KS P F A J x1) (fun r => ∃ F' A', r = ((), P, F', A', J) ∧ F' 37 10 = F 37 10)
theorem kt_w {x y : Int} (h : KR x y) : (15 ≤ x ∧ x ≤ 20) ↔ (35 ≤ y ∧ y ≤ 40) :=
  (by decide : ∀ p ∈ kt, (15 ≤ p.1 ∧ p.1 ≤ 20) ↔ (35 ≤ p.2 ∧ p.2 ≤ 40)) _ h
theorem kt_e {x y : Int} (h : KR x y) (h1 : 15 ≤ x ∧ x ≤ 20) : y = x + 20 :=
  (by decide : ∀ p ∈ kt, 15 ≤ p.1 ∧ p.1 ≤ 20 → p.2 = p.1 + 20) _ h h1
theorem CR.L {A0 : Nat → Nat → Nat → Int32} {Am0 : Nat → Nat → Int32} {k49 : Int32 × Int32} {p c h D st u : Int} {w : Int → Int} (C : CR A0 Am0 k49 p c h D w 0 0 st u d F A Fm Am) : 0 ≤ (F d 1304).toInt ∧ (F d 1304).toInt + 3 ≤ (Fm 11).toInt := by
  have e := C.2.2.2.2.2.1.1
  have sl := C.2.2.2.2.2.1.2.2.2
  have s := C.2.2.2.1.1
  have b := C.1
  have ifz : ∀ {q : Prop} [Decidable q], (if q then ns 0 else 0) = 0 := by intro q _; split <;> rfl
  have ifz' : ∀ {q : Prop} [Decidable q], (if q then 0 else ns 0) = 0 := by intro q _; split <;> rfl
  rw [ifz, ifz] at e
  rw [ifz', ifz'] at sl
  omega
theorem FE.mk' {F1 : Nat → Nat → Int32} {F2 : Nat → Int32} {k : Int32} (h1 : F1 37 10 = k) (h2 : F2 13 = k) (h : 0 < k.toInt) : FE F1 F2 := ⟨by rw [h1, h2], by rw [h2]; exact h⟩
theorem du_word (R : RT T F Fm) (hw : 35 ≤ (Am 3 (Fm 11).toInt.toNat).toInt ∧ (Am 3 (Fm 11).toInt.toNat).toInt ≤ 40) : d_unit Fm Am Jm = (d_emit Fm Am Jm 1 (Am 3 (Fm 11).toInt.toNat - 35)).bind fun (_, F10, A11, J12) => (d_goesOn F10 A11 J12).bind fun (_, F14, A15, J16) => some ((), F14, A15, J16) := by
  have t0 := R.t0
  have t1 := R.t1
  unfold d_unit
  rw [d_is_0 R.g0 t0 t1 (by rw [show (2 : Int32).toInt = 2 by decide]; omega), Option.bind_some, cz_00, cond_true, R.nz, cond_false, m_ld_in t0 (by omega), Option.bind_some, i_nlt.mpr (by rw [show (35 : Int32).toInt = 35 by decide]; exact hw.1), cond_false, Option.bind_some, i_ngt.mpr (by rw [show (40 : Int32).toInt = 40 by decide]; exact hw.2), cond_false, Option.bind_some]
theorem du_int (R : RT T F Fm) (h2 : (Am 3 (Fm 11).toInt.toNat).toInt = (2 : Int32).toInt) : d_unit Fm Am Jm = (d_emit Fm Am Jm 0 (Am 5 (Fm 11).toInt.toNat)).bind fun (_, F10, A11, J12) => (d_goesOn F10 A11 J12).bind fun (_, F14, A15, J16) => some ((), F14, A15, J16) := by
  have t0 := R.t0
  have t1 := R.t1
  unfold d_unit
  rw [d_is_1 R.g0 t0 t1 h2, Option.bind_some, cz_10, cond_false, m_ld_in (f := Am 5) t0 (by omega), Option.bind_some]
theorem du_bad (R : RT T F Fm) (h2 : (Am 3 (Fm 11).toInt.toNat).toInt ≠ (2 : Int32).toInt) (hw : ¬ (35 ≤ (Am 3 (Fm 11).toInt.toNat).toInt ∧ (Am 3 (Fm 11).toInt.toNat).toInt ≤ 40)) : d_unit Fm Am Jm = d_unit_88 Fm Am Jm := by
  have t0 := R.t0
  have t1 := R.t1
  have l35 : (35 : Int32).toInt = 35 := by decide
  have l40 : (40 : Int32).toInt = 40 := by decide
  unfold d_unit
  rw [d_is_0 R.g0 t0 t1 h2, Option.bind_some, cz_00, cond_true, R.nz, cond_false, m_ld_in t0 (by omega), Option.bind_some]
  by_cases c1 : (Am 3 (Fm 11).toInt.toNat).toInt < 35
  · rw [i_lt.mpr (by rw [l35]; exact c1), cond_true]
  · rw [i_nlt.mpr (by rw [l35]; omega), cond_false, Option.bind_some, i_gt.mpr (by rw [l40]; omega), cond_true]
theorem unit_x {KS : cKS} (K : TKs T) (h5 : P 37 5 = d) (hk : c_kind d = 6) (hS : XP T d P J Jm true KS) (hF : XF P J KS) : XP T d P J Jm false (e_Reader_readUnit KS n) := by
  have hd := kd37 hk
  have hd3 := kd3 hk
  have hc := chk_in h5 hk
  have l1 := i_1
  have l6 : (6 : Int32).toInt = 6 := by decide
  have l35 : (35 : Int32).toInt = 35 := by decide
  have l40 : (40 : Int32).toInt = 40 := by decide
  intro γ δ Q f g o F A Fm Am N nn x1 A0 Am0 k49 p c h D w hx ho0 ho6 S C hD _ ks kf
  have hD : D ≤ 2 * o + 2 := hD
  have h0 : 0 ≤ h := C.1.2.2.1
  have e60 : (Fm 60).toInt = h := by have := C.2.2.1.1; rw [ns_0] at this; omega
  have cL := C.L
  have t0 := S.r.t0
  have t1 := S.r.t1
  have tk := S.r.tk
  have op := S.h.op
  cases nn with
  | zero => intro a b _ hb; cases hb
  | succ nn =>
    unfold e_Reader_readUnit d_expression_23
    rw [Option.bind_assoc, Option.bind_assoc]
    refine p2_next K S.r S.x (k := 40) (k' := 6) (by decide) (fun hm => ?_) (fun hm => ?_)
    · rw [cz_10, cond_false, cond_false]
      by_cases h6 : o < 6
      · rw [i_lt.mpr (by rw [l6, hx]; exact h6), cond_true, i_ne.mpr (by rw [l6, op]; omega), cond_true]
        unfold d_expression_46
        rw [Option.bind_assoc, Option.bind_assoc]
        refine p2_br (fun F3 e3 => ?_)
        have a3 := gg_pf e3
        rw [Option.bind_assoc]
        have S3 : SX T (o + 1) d J Jm F A F3 Am := S.oo (by rw [a3.1, i_add (by omega) (by omega), i_1, op]) a3.2
        have e11 : F3 11 = Fm 11 := a3.2 11 (by decide)
        refine p2_goes (k' := 6) K S3.r S3.x (by decide) (by decide) (by rw [e11]; exact hm) (fun F1 Fm1 U1 => ?_) (fun F1 Fm1 fc fm E => ?_)
        · have S1 := S3.v hd U1.v
          dsimp only
          rw [Option.bind_assoc, Option.bind_assoc]
          refine p2_br (fun A4 e4 => ?_)
          have a4 := gg_st e4
          rw [Option.bind_assoc]
          refine p2_br (fun F5 e5 => ?_)
          have a5 := gg_pf e5
          have S5 : SX T (o + 1) d J Jm F1 A F5 A4 := S1.nn ⟨fun q _ h => a5.2 q h, fun q _ _ h => a4.2.2.1 q h⟩
          have e511 : F5 11 = Fm1 11 := a5.2 11 (by decide)
          have e160 : Fm1 60 = Fm 60 := (U1.fm 60 (by decide)).trans (a3.2 60 (by decide))
          rw [e160] at a4
          have C5 : CR A0 Am0 k49 p c (h + 1) D (fun i => if i = h then 6 else w i) 0 0 0 0 d F1 A F5 A4 :=
            (C.opn (Fm' := F5) (Am' := A4) (by rw [a5.1, e160, i_add (by rw [i_1]; omega) (by rw [i_1]; have := a4.2.1; omega), i_1]) (by rw [a5.2 56 (by decide), U1.fm 56 (by decide), a3.2 56 (by decide)]) (by rw [a5.2 49 (by decide), U1.fm 49 (by decide), a3.2 49 (by decide), a5.2 19 (by decide), U1.fm 19 (by decide), a3.2 19 (by decide)]) (by rw [a5.2 11 (by decide), U1.m1, a3.2 11 (by decide)]; omega) a4.2.2.2.1 a4.2.2.2.2 a4.2.2.1).fr (F' := F1) (A' := A) (Fm' := F5) (Am' := A4) (U1.fc d 1304 (fun e => hd e.1)) rfl rfl rfl rfl rfl rfl (Int.le_refl _) (fun _ _ _ => rfl)
          refine hS γ δ Q _ g (o + 1) F1 A F5 A4 N nn (x1 + 1) A0 Am0 k49 p c (h + 1) D (fun i => if i = h then 6 else w i) (by rw [i_add (by omega) (by omega), i_1, hx]) (by omega) (by omega) S5 C5 (by show D ≤ 2 * (o + 1) + 0; omega) (fun _ => .inr (if_pos (by omega))) (fun F6 A6 Fm6 Am6 N6 n6 sg6 pt6 S6 le6 C6 hn _ => ?_) (fun F6 A6 J6 Fm6 Am6 Jm6 E => ?_)
          · have hn := hn rfl
            dsimp only
            rw [Option.bind_assoc]
            have m1 := U1.m1
            rw [e11] at m1
            rw [e511] at le6
            by_cases h7 : (Am6 3 (Fm6 11).toInt.toNat).toInt = (7 : Int32).toInt
            · refine y_cl (st := 0) hd K S6 (by omega) (by omega) h7 C6 h0 (fun F7 Fm7 Am7 n7 S7 m7 C7 => ?_) (fun F7 Fm7 Am7 Jm7 E => ?_)
              · dsimp only
                rw [Option.bind_some]
                have eo : o + 1 - 1 = o := by omega
                rw [eo] at S7
                exact ks F7 A6 Fm7 Am7 N6 n7 0 0 S7 (by omega) C7 (fun h => absurd h (by decide)) (fun _ => ⟨rfl, rfl⟩)
              · dsimp only
                rw [Option.bind_some]
                exact kf F7 A6 J Fm7 Am7 Jm7 E
            · have iff := S6.r.kd (k := 41) (k' := 7) K S6.x (by decide)
              obtain ⟨F7, e7, h1, -⟩ := e_take_0 (P := P) (J := J) S6.r.f0 (by rw [S6.r.tk]; exact S6.r.t0) (by rw [S6.r.tk]; exact S6.r.t1) (fun h => h7 (iff.mp h))
              rw [e7, Option.bind_some]
              dsimp only
              rw [Option.bind_some]
              exact y_end1 S6 (by omega) hn h7 (fun Fm7 Am7 h13 => kf F7 A6 J Fm7 Am7 Jm (FE.mk' h1 h13 (by decide)))
          · dsimp only
            rw [e_take_ff E.c, Option.bind_some]
            exact kf F6 A6 J6 Fm6 Am6 Jm6 E
        · dsimp only
          rw [Option.bind_assoc, Option.bind_assoc]
          refine p2_l (hF F1 A (x1 + 1) E.c) ?_
          rintro _ ⟨F6, A6, rfl, h6'⟩
          dsimp only
          have c6 : (F6 37 10).toInt ≠ 0 := by rw [h6']; exact E.c
          rw [e_take_ff c6, Option.bind_some]
          dsimp only
          rw [Option.bind_some]
          refine p2_br (fun A4 e4 => ?_)
          rw [Option.bind_assoc]
          refine p2_br (fun F5 e5 => ?_)
          have a5 := gg_pf e5
          have e513 : F5 13 = Fm1 13 := a5.2 13 (by decide)
          refine p2_r (dX_ff (by rw [e513]; exact E.gg)) ?_
          rintro ⟨u, F7, A7, J7⟩ h7
          have h7 : F7 13 = F5 13 := h7
          exact kf F6 A6 J F7 A7 J7 ⟨by rw [h6', h7, e513]; exact E.1, by rw [h7, e513]; exact E.gg⟩
      · rw [i_nlt.mpr (by rw [l6, hx]; omega), cond_false, i_nne.mpr (by rw [l6, op]; omega), cond_false]
        obtain ⟨F1, e1, h1, -⟩ := e_fail_0 (P := P) (F := F) (A := A) (J := J) (k := 2) (v := A 37 3 (F 37 7).toInt.toNat) S.r.f0
        obtain ⟨Fm1, g1, h1', -, -⟩ := d_fail_0 (F := Fm) (A := Am) (J := Jm) (k := 2) S.r.g0 t0 t1
        rw [m_ld_in (by rw [tk]; exact t0) (by rw [tk]; omega), Option.bind_some, e1, Option.bind_some, g1, Option.bind_some]
        dsimp only
        rw [Option.bind_some, Option.bind_assoc]
        refine p2_br (fun F2 e2 => ?_)
        have a2 := gg_pf e2
        have e213 : F2 13 = Fm1 13 := a2.2 13 (by decide)
        obtain ⟨F3, e3, h3, -⟩ := d_goes_ff (F := F2) (A := Am) (J := Jm) (by rw [e213, h1']; decide)
        rw [e3, Option.bind_some]
        dsimp only
        rw [Option.bind_assoc]
        refine p2_br (fun A4 e4 => ?_)
        rw [Option.bind_assoc]
        refine p2_br (fun F5 e5 => ?_)
        have a5 := gg_pf e5
        have e513 : F5 13 = 2 := by rw [a5.2 13 (by decide), h3, e213, h1']
        refine p2_r (dX_ff (by rw [e513]; decide)) ?_
        rintro ⟨u, F7, A7, J7⟩ h7
        have h7 : F7 13 = F5 13 := h7
        exact kf F1 A J F7 A7 J7 (FE.mk' h1 (h7.trans e513) (by decide))
    · rw [cz_00, cond_true, cond_true]
      have kr : KR (A 37 2 (F 37 7).toInt.toNat).toInt (Am 3 (Fm 11).toInt.toNat).toInt := by
        rw [S.x.a2, S.x.m3, tk]
        exact K.kd _ (by omega) (fun j hj => S.r.lv j (by omega))
      have c7 : 0 ≤ (F 37 7).toInt ∧ (F 37 7).toInt ≤ 400 := by rw [tk]; exact ⟨t0, t1⟩
      by_cases hw : 35 ≤ (Am 3 (Fm 11).toInt.toNat).toInt ∧ (Am 3 (Fm 11).toInt.toNat).toInt ≤ 40
      · have hw' := (kt_w kr).mpr hw
        refine c58_word (w := A 37 2 (F 37 7).toInt.toNat) S.r.f0 c7.1 c7.2 rfl hw'.2 (fun n' => ?_) (by decide) (by rw [show (15 : Int32).toInt = 15 by decide]; exact hw'.1)
        rw [du_word S.r hw, Option.bind_assoc, Option.bind_assoc, Option.bind_assoc]
        refine p2_r emit_v ?_
        rintro _ ⟨F1, A1, rfl, f1, q0, q1, q2, q3, q4, q5, q6⟩
        dsimp only
        have S1 := S.nn f1
        have e11 : F1 11 = Fm 11 := f1.1 11 (by decide) (by decide)
        rw [Option.bind_assoc]
        refine p2_goes (k' := Am 3 (Fm 11).toInt.toNat) K S1.r S1.x kr ⟨by omega, by omega⟩ (by rw [e11, f1.2 3 (by decide) (by decide) (by decide)]) (fun F2 Fm2 U2 => ?_) (fun F2 Fm2 fc fm E => ?_)
        · have S2 := S1.v hd U2.v
          have m2 := U2.m1
          rw [e11] at m2
          dsimp only
          rw [Option.bind_some, cz_10, cond_false, hc, Option.bind_some, Option.bind_assoc]
          dsimp only
          rw [S2.r.le, cond_true]
          have fl : F2 d 1304 = F d 1304 := U2.fc d 1304 (fun e => hd e.1)
          have C2 := C.fr (F' := F2) (A' := A) (Fm' := Fm) (Am' := Am) fl rfl rfl rfl rfl rfl rfl (Int.le_refl _) (fun _ _ _ => rfl)
          refine p2_l (add_v (by rw [fl]; exact cL.1) (by rw [fl]; omega)) ?_
          rintro _ ⟨v, F3, A3, rfl, f3, -, l1, l15, l16, lo⟩
          dsimp only
          rw [Option.bind_some]
          have C3 := C2.unit (Fm' := Fm2) (Am' := A1) l1 l15 l16 lo (f3.2 d 14 (by omega)) (by rw [U2.fm 56 (by decide)]; exact q1) (by rw [U2.fm 60 (by decide)]; exact q2) (by rw [U2.fm 49 (by decide), f1.1 49 (by decide) (by decide), U2.fm 19 (by decide), f1.1 19 (by decide) (by decide)]) (by rw [U2.m1, e11]) q4 q5 q6 q3 (fun q h1 h2 => f1.2 q (by omega) (by omega) (by omega)) ⟨.inr ⟨by decide, by decide⟩, by
            have kv := kt_e kr hw'
            rw [i_sub (by rw [show (15 : Int32).toInt = 15 by decide]; omega) (by rw [show (15 : Int32).toInt = 15 by decide]; omega), i_sub (by rw [l35]; omega) (by rw [l35]; omega), l35, show (15 : Int32).toInt = 15 by decide]
            omega⟩
          exact ks F3 A3 Fm2 A1 N nn 0 0 (S2.l hd hd3 f3) (by omega) C3 (fun h => absurd h (by decide)) (fun _ => ⟨rfl, rfl⟩)
        · dsimp only
          rw [Option.bind_some, cz_00, cond_true]
          dsimp only
          rw [E.le, cond_false, Option.bind_some]
          unfold e_Reader_readUnit_97
          refine p2_l (e58_ff E.c) ?_
          rintro _ rfl
          exact kf F2 A J Fm2 A1 Jm E
      · have hw' : ¬ (15 ≤ (A 37 2 (F 37 7).toInt.toNat).toInt ∧ (A 37 2 (F 37 7).toInt.toNat).toInt ≤ 20) := fun h => hw ((kt_w kr).mp h)
        refine c58_no S.r.f0 c7.1 c7.2 (by omega) ?_ (by decide) (by decide)
        by_cases h2 : (Am 3 (Fm 11).toInt.toNat).toInt = (2 : Int32).toInt
        · rw [du_int S.r h2, Option.bind_assoc, Option.bind_assoc, Option.bind_assoc]
          refine p2_r emit_v ?_
          rintro _ ⟨F1, A1, rfl, f1, q0, q1, q2, q3, q4, q5, q6⟩
          dsimp only
          have S1 := S.nn f1
          have e11 : F1 11 = Fm 11 := f1.1 11 (by decide) (by decide)
          rw [Option.bind_assoc]
          refine p2_goes (k' := 2) K S1.r S1.x (by decide) (by decide) (by rw [e11, f1.2 3 (by decide) (by decide) (by decide)]; exact h2) (fun F2 Fm2 U2 => ?_) (fun F2 Fm2 fc fm E => ?_)
          · have S2 := S1.v hd U2.v
            have m2 := U2.m1
            rw [e11] at m2
            dsimp only
            rw [Option.bind_some, cz_10, cond_false, hc, Option.bind_some, Option.bind_assoc]
            dsimp only
            rw [S2.r.le, cond_true]
            refine p2_bl (fun v33 e33 => ?_)
            rw [Option.bind_assoc]
            have v33e : v33 = Am 5 (Fm 11).toInt.toNat := by
              rw [(gg_ld e33).2.2, U2.c8, e11, S.x.a4, S.x.m5]
              exact K.nu _ (by omega) (fun j hj => S.r.lv j (by omega)) (by rw [← S.x.m3]; exact h2)
            have fl : F2 d 1304 = F d 1304 := U2.fc d 1304 (fun e => hd e.1)
            have C2 := C.fr (F' := F2) (A' := A) (Fm' := Fm) (Am' := Am) fl rfl rfl rfl rfl rfl rfl (Int.le_refl _) (fun _ _ _ => rfl)
            refine p2_l (add_v (by rw [fl]; exact cL.1) (by rw [fl]; omega)) ?_
            rintro _ ⟨v, F3, A3, rfl, f3, -, l1', l15, l16, lo⟩
            dsimp only
            rw [Option.bind_some]
            have C3 := C2.unit (Fm' := Fm2) (Am' := A1) l1' l15 l16 lo (f3.2 d 14 (by omega)) (by rw [U2.fm 56 (by decide)]; exact q1) (by rw [U2.fm 60 (by decide)]; exact q2) (by rw [U2.fm 49 (by decide), f1.1 49 (by decide) (by decide), U2.fm 19 (by decide), f1.1 19 (by decide) (by decide)]) (by rw [U2.m1, e11]) q4 q5 q6 q3 (fun q h1 h2 => f1.2 q (by omega) (by omega) (by omega)) ⟨.inl ⟨by decide, by decide⟩, by rw [v33e]⟩
            exact ks F3 A3 Fm2 A1 N nn 0 0 (S2.l hd hd3 f3) (by omega) C3 (fun h => absurd h (by decide)) (fun _ => ⟨rfl, rfl⟩)
          · dsimp only
            rw [Option.bind_some, cz_00, cond_true, Option.bind_some]
            dsimp only
            rw [E.le, cond_false, Option.bind_some]
            exact kf F2 A J Fm2 A1 Jm E
        · have iff := S.r.kd (k := 101) (k' := 2) K S.x (by decide)
          obtain ⟨F1, e1, h1, -⟩ := e_take_0 (P := P) (J := J) S.r.f0 c7.1 c7.2 (fun h => h2 (iff.mp h))
          obtain ⟨Fm1, g1, h1', -, -⟩ := d_fail_0 (F := Fm) (A := Am) (J := Jm) (k := 1) S.r.g0 t0 t1
          have E : FE F1 Fm1 := FE.mk' h1 h1' (by decide)
          rw [e1, Option.bind_some, du_bad S.r h2 hw]
          dsimp only
          rw [cz_00, cond_true, Option.bind_some]
          unfold d_unit_88
          rw [g1, Option.bind_some, Option.bind_some]
          dsimp only
          rw [E.le, cond_false, Option.bind_some]
          exact kf F1 A J Fm1 Am Jm E
end B5
