section B6
variable {T : TS} {d n m N nn : Nat} {o : Int} {P : Nat → Nat → Nat} {F F' : Nat → Nat → Int32} {A A' : Nat → Nat → Nat → Int32} {J J' : Nat → Nat → Nat → Int64} {Fm Fm' : Nat → Int32} {Am Am' : Nat → Nat → Int32} {Jm Jm' : Nat → Nat → Int64} {k k' x1 x2 : Int32} {γ δ : Type} {Q : γ → δ → Prop}
/-- one of two signs, or none -/
theorem p2_either {A0 : Nat → Nat → Nat → Int32} {Am0 : Nat → Nat → Int32} {k49 : Int32 × Int32} {p c h D sg pt st : Int} {w : Int → Int} {f} {g} {a b a' b' : Int32} (hd : d ≠ 37) (K : TKs T) (S : SX T o d J Jm F A Fm Am) (ka : KR a.toInt a'.toInt) (kb : KR b.toInt b'.toInt) (oa : a'.toInt = 8 ∨ a'.toInt = 9 ∨ a'.toInt = 10 ∨ a'.toInt = 15) (ob : b'.toInt = 8 ∨ b'.toInt = 9 ∨ b'.toInt = 10 ∨ b'.toInt = 15) (na : a.toInt ≠ 0) (nb : b.toInt ≠ 0) (C : CR A0 Am0 k49 p c h D w sg pt st 1 d F A Fm Am) (G : GBx h w) (hst : (a'.toInt = 10 ∧ b'.toInt = 15) ∧ st = 1 ∨ (a'.toInt = 8 ∧ b'.toInt = 9) ∧ st = 2) (xa : a.toInt = chx a'.toInt) (xb : b.toInt = chx b'.toInt)
    (k1 : ∀ v F' Fm' Am' N' n' z, v.toInt ≠ 0 → v.toInt = chx z → z = a'.toInt ∨ z = b'.toInt → SX T o d J Jm F' A Fm' Am' → (Fm' 11).toInt = (Fm 11).toInt + 1 → CR A0 Am0 k49 p c h D w (if z = 10 ∨ z = 15 then sg else z) (if z = 10 ∨ z = 15 then z else 0) 0 0 d F' A Fm' Am' → P2 (f (v, P, F', A, J)) ((d_expression_23 (d_expression_12 N') n' Fm' Am' Jm 0).bind g) Q)
    (k0 : (Am 3 (Fm 11).toInt.toNat).toInt ≠ a'.toInt → (Am 3 (Fm 11).toInt.toNat).toInt ≠ b'.toInt → P2 (f (0, P, F, A, J)) ((d_expression_96 (d_expression_12 N) n Fm Am Jm 0).bind g) Q)
    (kf : ∀ F' Fm' Am' Jm', FE F' Fm' → P2 (f (0, P, F', A, J)) (g ((), Fm', Am', Jm')) Q) :
    P2 (α := γ) (β := δ) ((e_Reader_takeEither P F A J a b).bind f) ((d_expression_96 (d_expression_12 N) n Fm Am Jm 0).bind g) Q := by
  have t0 := S.r.t0
  have t1 := S.r.t1
  have tk := S.r.tk
  have c7 : 0 ≤ (F 37 7).toInt ∧ (F 37 7).toInt ≤ 400 := by rw [tk]; exact ⟨t0, t1⟩
  have ia := S.r.kd K S.x ka
  have ib := S.r.kd K S.x kb
  unfold e_Reader_takeEither
  by_cases ha : (Am 3 (Fm 11).toInt.toNat).toInt = a'.toInt
  · rw [e_next_1 S.r.f0 c7.1 c7.2 (ia.mpr ha), Option.bind_some, cz_10, cond_false, Option.bind_assoc]
    refine y_op hd K S ka oa ha C G (by omega) (fun F1 Fm1 Am1 N1 n1 S1 m1 C1 => ?_) (fun F1 Fm1 Am1 Jm1 E => ?_)
    · dsimp only
      rw [cz_10, cond_false, Option.bind_some]
      exact k1 a F1 Fm1 Am1 N1 n1 a'.toInt na xa (.inl rfl) S1 m1 C1
    · dsimp only
      rw [cz_00, cond_true]
      unfold e_Reader_takeEither_18
      rw [e_next_ff E.c, Option.bind_some, cz_00, cond_true, Option.bind_some]
      exact kf F1 Fm1 Am1 Jm1 E
  · rw [e_next_0 S.r.f0 c7.1 c7.2 (fun h => ha (ia.mp h)), Option.bind_some, cz_00, cond_true]
    unfold e_Reader_takeEither_18
    by_cases hb : (Am 3 (Fm 11).toInt.toNat).toInt = b'.toInt
    · rw [e_next_1 S.r.f0 c7.1 c7.2 (ib.mpr hb), Option.bind_some, cz_10, cond_false, Option.bind_assoc]
      refine y_op hd K S kb ob hb C G (by omega) (fun F1 Fm1 Am1 N1 n1 S1 m1 C1 => ?_) (fun F1 Fm1 Am1 Jm1 E => ?_)
      · dsimp only
        rw [cz_10, cond_false, Option.bind_some]
        exact k1 b F1 Fm1 Am1 N1 n1 b'.toInt nb xb (.inr rfl) S1 m1 C1
      · dsimp only
        rw [cz_00, cond_true, Option.bind_some]
        exact kf F1 Fm1 Am1 Jm1 E
    · rw [e_next_0 S.r.f0 c7.1 c7.2 (fun h => hb (ib.mp h)), Option.bind_some, cz_00, cond_true, Option.bind_some]
      exact k0 ha hb
theorem sum_x {KS : cKS} (K : TKs T) (h5 : P 37 5 = d) (hk : c_kind d = 6) (hU : ∀ n, XP T d P J Jm false (e_Reader_readUnit KS n)) : ∀ (n : Nat) (γ δ : Type) (Q : γ → δ → Prop) (f : cR Unit → Option γ) (g : mR Unit → Option δ) (o : Int) (F : Nat → Nat → Int32) (A : Nat → Nat → Nat → Int32) (Fm : Nat → Int32) (Am : Nat → Nat → Int32) (N nn : Nat) (x1 x2 x3 x5 : Int32) (A0 : Nat → Nat → Nat → Int32) (Am0 : Nat → Nat → Int32) (k49 : Int32 × Int32) (p c h D : Int) (w : Int → Int) (sg pt : Int), x1.toInt = o → 0 ≤ o → o ≤ 6 → SX T o d J Jm F A Fm Am → CR A0 Am0 k49 p c h D w sg pt 0 0 d F A Fm Am → D ≤ 2 * o → GBx h w → x2.toInt = chx sg → x3.toInt = chx pt → 0 ≤ x5.toInt → x5.toInt ≤ (Fm 11).toInt →
  (∀ F' A' Fm' Am' N' n' sg pt, SX T o d J Jm F' A' Fm' Am' → (Fm 11).toInt ≤ (Fm' 11).toInt → CR A0 Am0 k49 p c h D w sg pt 2 1 d F' A' Fm' Am' → NOP Am' Fm' → P2 (f ((), P, F', A', J)) ((d_expression_96 (d_expression_12 N') n' Fm' Am' Jm 0).bind g) Q) →
  (∀ F' A' J' Fm' Am' Jm', FE F' Fm' → P2 (f ((), P, F', A', J')) (g ((), Fm', Am', Jm')) Q) →
  P2 ((e_Reader_readSum_10 KS n P F A J x1 x2 x3 1 x5).bind f) ((d_expression_23 (d_expression_12 N) nn Fm Am Jm 0).bind g) Q := by
  have hd := kd37 hk
  have hd3 := kd3 hk
  have hc := chk_in h5 hk
  have l1 := i_1
  have l400 := i_400
  have l8 : (8 : Int32).toInt = 8 := by decide
  have l9 : (9 : Int32).toInt = 9 := by decide
  have l10 : (10 : Int32).toInt = 10 := by decide
  have l15 : (15 : Int32).toInt = 15 := by decide
  intro n
  induction n with
  | zero => intro γ δ Q f g o F A Fm Am N nn x1 x2 x3 x5 A0 Am0 k49 p c h D w sg pt _ _ _ _ _ _ _ _ _ _ _ _ _ a b ha _; cases ha
  | succ n ih =>
    intro γ δ Q f g o F A Fm Am N nn x1 x2 x3 x5 A0 Am0 k49 p c h D w sg pt hx ho0 ho6 S C hD G hx2 hx3 h50 h5t ks kf
    have t1 := S.r.t1
    have hs := C.2.1
    have hh := C.1
    have bs := ns_b sg
    have bp := ns_b pt
    unfold e_Reader_readSum_10
    rw [i_ngt.mpr (by rw [l400]; omega), cond_false, cz_10, cond_false, Option.bind_assoc]
    refine hU n γ δ Q _ g o F A Fm Am N nn x1 A0 Am0 k49 p c (h + ns sg + ns pt) (D + ns sg + ns pt) (wx h sg pt w) hx ho0 ho6 S (C.base (by omega)) (by show D + ns sg + ns pt ≤ 2 * o + 2; omega) (fun h => absurd h (by decide)) (fun F1 A1 Fm1 Am1 N1 n1 sg1 pt1 S1 le1 C1 _ z1 => ?_) (fun F1 A1 J1 Fm1 Am1 Jm1 E => ?_)
    · obtain ⟨rfl, rfl⟩ := z1 rfl
      have C1 := C1.unbase hh.2.2.1 hh.2.2.2.1 hs
      dsimp only
      rw [Option.bind_assoc]
      refine p2_l (sign_p hc C1 hx3 S1.r.t1) ?_
      rintro _ ⟨F2, A2, rfl, f2, C2⟩
      have S2 := S1.l hd hd3 f2
      have t12 := S2.r.t1
      dsimp only
      rw [Option.bind_assoc]
      have e51 := i_add (x := x5) (y := 1) (by omega) (by omega)
      -- with a fault of form the class comes to its end
      have ff : ∀ {F3 : Nat → Nat → Int32} {A3 : Nat → Nat → Nat → Int32} {Fm3 Am3 Jm3} {y1 y2 y3 y4 y5 : Int32}, FE F3 Fm3 → P2 ((e_Reader_readSum_10 KS n P F3 A3 J y1 y2 y3 y4 y5).bind f) (g ((), Fm3, Am3, Jm3)) Q := by
        intro F3 A3 Fm3 Am3 Jm3 y1 y2 y3 y4 y5 E
        refine p2_l (eS10_ff hd hc E.c) ?_
        rintro _ ⟨F4, A4, rfl, f4⟩
        exact kf F4 A4 J Fm3 Am3 Jm3 ⟨by rw [f4.1 37 10 (fun e => hd e.1.symm)]; exact E.1, E.gg⟩
      refine p2_either hd K S2 (a' := 10) (b' := 15) (by decide) (by decide) (by decide) (by decide) (by decide) (by decide) C2 G (.inl ⟨⟨by decide, by decide⟩, rfl⟩) (by decide) (by decide) (fun v F3 Fm3 Am3 N3 n3 z hv xz hz S3 m3 C3 => ?_) (fun na nb => ?_) (fun F3 Fm3 Am3 Jm3 E => ?_)
      · dsimp only
        rw [i_ne.mpr (by rw [i_0]; exact hv), cond_true]
        unfold e_Reader_readSum_71
        have hz' : z = 10 ∨ z = 15 := by omega
        rw [if_pos hz', if_pos hz'] at C3
        exact ih γ δ Q f g o F3 A2 Fm3 Am3 N3 n3 x1 x2 v (x5 + 1) A0 Am0 k49 p c h D w sg z hx ho0 ho6 S3 C3 hD G hx2 xz (by omega) (by omega) (fun F4 A4 Fm4 Am4 N4 n4 sg4 pt4 S4 le4 C4 hn => ks F4 A4 Fm4 Am4 N4 n4 sg4 pt4 S4 (by omega) C4 hn) kf
      · dsimp only
        rw [i_nne.mpr rfl, cond_false, Option.bind_assoc]
        refine p2_l (sign_s hc C2 hx2 S2.r.t1) ?_
        rintro _ ⟨F3, A3, rfl, f3, C3⟩
        have S3 := S2.l hd hd3 f3
        dsimp only
        rw [Option.bind_assoc]
        refine p2_either hd K S3 (a' := 8) (b' := 9) (by decide) (by decide) (by decide) (by decide) (by decide) (by decide) C3 G (.inr ⟨⟨by decide, by decide⟩, rfl⟩) (by decide) (by decide) (fun v F4 Fm4 Am4 N4 n4 z hv xz hz S4 m4 C4 => ?_) (fun na' nb' => ?_) (fun F4 Fm4 Am4 Jm4 E => ?_)
        · dsimp only
          rw [i_neq.mpr (by rw [i_0]; exact hv), cond_false]
          unfold e_Reader_readSum_69 e_Reader_readSum_71
          have hz' : ¬ (z = 10 ∨ z = 15) := by omega
          rw [if_neg hz', if_neg hz'] at C4
          exact ih γ δ Q f g o F4 A3 Fm4 Am4 N4 n4 x1 v 0 (x5 + 1) A0 Am0 k49 p c h D w z 0 hx ho0 ho6 S4 C4 hD G xz (by decide) (by omega) (by omega) (fun F5 A5 Fm5 Am5 N5 n5 sg5 pt5 S5 le5 C5 hn => ks F5 A5 Fm5 Am5 N5 n5 sg5 pt5 S5 (by omega) C5 hn) kf
        · dsimp only
          rw [cz_00, cond_true]
          unfold e_Reader_readSum_69 e_Reader_readSum_71
          have fin : P2 (f ((), P, F3, A3, J)) ((d_expression_96 (d_expression_12 N1) n1 Fm1 Am1 Jm 0).bind g) Q := ks F3 A3 Fm1 Am1 N1 n1 sg pt S3 le1 C3 ⟨by rw [← l8]; exact na', by rw [← l9]; exact nb', by rw [← l10]; exact na, by rw [← l15]; exact nb⟩
          cases n with
          | zero => intro a b ha _; cases ha
          | succ n =>
            unfold e_Reader_readSum_10
            rw [cz_00]
            refine p2_bind_cl (fun _ => ?_) (fun _ => ?_)
            · rw [Option.bind_some]; exact fin
            · rw [cond_true, Option.bind_some]; exact fin
        · dsimp only
          rw [cz_00, cond_true]
          unfold e_Reader_readSum_69 e_Reader_readSum_71
          exact ff E
      · dsimp only
        rw [i_nne.mpr rfl, cond_false, Option.bind_assoc]
        refine p2_l (sign_po hc) ?_
        rintro _ ⟨F4, A4, rfl, f4⟩
        have E4 : FE F4 Fm3 := ⟨by rw [f4.1 37 10 (fun e => hd e.1.symm)]; exact E.1, E.gg⟩
        dsimp only
        rw [eE_ff E4.c, Option.bind_some]
        dsimp only
        rw [cz_00, cond_true]
        unfold e_Reader_readSum_69 e_Reader_readSum_71
        exact ff E4
    · dsimp only
      rw [Option.bind_assoc]
      refine p2_l (sign_po hc) ?_
      rintro _ ⟨F2, A2, rfl, f2⟩
      have E2 : FE F2 Fm1 := ⟨by rw [f2.1 37 10 (fun e => hd e.1.symm)]; exact E.1, E.gg⟩
      dsimp only
      rw [eE_ff E2.c, Option.bind_some]
      dsimp only
      rw [i_nne.mpr rfl, cond_false, Option.bind_assoc]
      refine p2_l (sign_po hc) ?_
      rintro _ ⟨F3, A3, rfl, f3⟩
      have E3 : FE F3 Fm1 := ⟨by rw [f3.1 37 10 (fun e => hd e.1.symm)]; exact E2.1, E.gg⟩
      dsimp only
      rw [eE_ff E3.c, Option.bind_some]
      dsimp only
      rw [cz_00, cond_true]
      unfold e_Reader_readSum_69 e_Reader_readSum_71
      refine p2_l (eS10_ff hd hc E3.c) ?_
      rintro _ ⟨F4, A4, rfl, f4⟩
      exact kf F4 A4 J1 Fm1 Am1 Jm1 ⟨by rw [f4.1 37 10 (fun e => hd e.1.symm)]; exact E3.1, E.gg⟩
theorem sum_m (K : TKs T) (h5 : P 37 5 = d) (hk : c_kind d = 6) : ∀ m, XP T d P J Jm true (e_Reader_readSum m n) ∧ XF P J (e_Reader_readSum m n) := by
  have hd := kd37 hk
  have hd3 := kd3 hk
  have hc := chk_in h5 hk
  intro m
  induction m with
  | zero =>
    refine ⟨?_, fun F A x1 h => ?_⟩
    · intro γ δ Q f g o F A Fm Am N nn x1 A0 Am0 k49 p c h D w _ _ _ _ _ _ _ _ _ a b ha _
      cases ha
    · intro r hr; cases hr
  | succ m ih =>
    refine ⟨?_, fun F A x1 h => ?_⟩
    · intro γ δ Q f g o F A Fm Am N nn x1 A0 Am0 k49 p c h D w hx ho0 ho6 S C hD G ks kf
      have hD : D ≤ 2 * o + 0 := hD
      show P2 ((e_Reader_readSum_10 (e_Reader_readSum m n) n P F A J x1 0 0 1 0).bind f) _ Q
      exact sum_x K h5 hk (fun n => unit_x K h5 hk ih.1 ih.2) n γ δ Q f g o F A Fm Am N nn x1 0 0 0 A0 Am0 k49 p c h D w 0 0 hx ho0 ho6 S C (by omega) (G rfl) (by decide) (by decide) (by decide) (by rw [i_0]; exact S.r.t0) (fun F' A' Fm' Am' N' n' sg pt S' le C' hn => ks F' A' Fm' Am' N' n' sg pt S' le C' (fun _ => hn) (fun h => absurd h (by decide))) kf
    · refine po_mono (eS_ff hd hc h) ?_
      rintro _ ⟨F', A', rfl, f⟩
      exact ⟨F', A', rfl, f.1 37 10 (fun e => hd e.1.symm)⟩
/-- what a term has become: l instructions from p on, l codes from c on -/
def TMx (p c l : Int) (d : Nat) (A0 : Nat → Nat → Nat → Int32) (Fm0 : Nat → Int32) (Am0 : Nat → Nat → Int32) (F : Nat → Nat → Int32) (A : Nat → Nat → Nat → Int32) (Fm : Nat → Int32) (Am : Nat → Nat → Int32) : Prop := SGx d A Am p c l ∧ dpm Am c l.toNat = 1 ∧ (Fm 56).toInt = c + l ∧ (F d 1304).toInt = p + l ∧ p + l + 3 ≤ (Fm 11).toInt ∧ CBx p c d A0 A Am0 Am ∧ (Fm 49, Fm 19) = (Fm0 49, Fm0 19)
/-- a whole term, on both sides -/
theorem p2_expr {f : cR Unit → Option γ} {g : mR Unit → Option δ} (K : TKs T) (h5 : P 37 5 = d) (hk : c_kind d = 6) (S : SX T 0 d J Jm F A Fm Am) (hL : 0 ≤ (F d 1304).toInt ∧ (F d 1304).toInt + 3 ≤ (Fm 11).toInt) (h56 : 0 ≤ (Fm 56).toInt) (ks : ∀ F' A' Fm' Am' l, SX T 0 d J Jm F' A' Fm' Am' → TMx (F d 1304).toInt (Fm 56).toInt l d A Fm Am F' A' Fm' Am' → P2 (f ((), P, F', A', J)) (g ((), Fm', Am', Jm)) Q) (kf : ∀ F' A' J' Fm' Am' Jm', FE F' Fm' → P2 (f ((), P, F', A', J')) (g ((), Fm', Am', Jm')) Q) : P2 ((e_Reader_readSum 8 n P F A J 0).bind f) ((d_expression m Fm Am Jm).bind g) Q := by
  unfold d_expression
  rw [Option.bind_assoc]
  refine p2_br (fun F1 e1 => ?_)
  have a1 := gg_pf e1
  have S1 : SX T 0 d J Jm F A F1 Am := S.nn ⟨fun q _ h => a1.2 q h, fun _ _ _ _ => rfl⟩
  have z : F1 12 = 0 := i_ext S1.h.op
  have e56 : F1 56 = Fm 56 := a1.2 56 (by decide)
  have e11 : F1 11 = Fm 11 := a1.2 11 (by decide)
  have e49 : F1 49 = Fm 49 := a1.2 49 (by decide)
  have e19 : F1 19 = Fm 19 := a1.2 19 (by decide)
  have C1 : CR A Am (Fm 49, Fm 19) (F d 1304).toInt (Fm 56).toInt 0 0 (fun _ => 0) 0 0 0 0 d F A F1 Am := by
    have zn := ns_0
    unfold CR
    rw [e56, e49, e19, show (Fm 56).toInt - (Fm 56).toInt = 0 by omega, a1.1, e11]
    refine ⟨by omega, ⟨.inl rfl, .inl rfl⟩, ⟨by rw [i_0]; omega, fun i i0 i1 => absurd i1 (by omega), fun h => absurd rfl h, fun h => absurd rfl h⟩, ⟨by omega, fun i i0 i1 => absurd i1 (by omega), fun i i0 i1 => ?_⟩, ?_, ⟨?_, fun h => absurd h (by decide), fun h => absurd h (by decide), ?_⟩, CBx.rfl', rfl⟩
    · rw [show i.toNat = 0 by omega]
      show (0 : Int) ≤ 16
      decide
    · show (0 : Int) = _
      omega
    · rw [if_neg (by decide), if_neg (by decide)]; omega
    · rw [if_neg (by decide), if_neg (by decide)]; omega
  cases m with
  | zero => intro a b _ hb; cases hb
  | succ m =>
    unfold d_expression_12
    rw [cz_10, cond_false, S1.r.nz, cond_false, z]
    refine (sum_m K h5 hk 8).1 γ δ Q f g 0 F A F1 Am m m 0 A Am (Fm 49, Fm 19) (F d 1304).toInt (Fm 56).toInt 0 0 (fun _ => 0) (by decide) (by decide) (by decide) S1 C1 (by decide) (fun _ => .inl rfl) (fun F2 A2 Fm2 Am2 N2 n2 sg pt S2 _ C2 hn _ => y_end0 (h := 0) (st := 0) S2 (hn rfl) C2 (fun Fm3 Am3 f3 C3 => ?_)) kf
    refine ks F2 A2 Fm3 Am3 ((Fm3 56).toInt - (Fm 56).toInt) (S2.nn f3) ?_
    have zn := ns_0
    have cl := C3.L
    obtain ⟨c1, c2, c3, c4, c5, ⟨c6, c7, c8, c9⟩, cb, c14⟩ := C3
    have ifz : ∀ {q : Prop} [Decidable q], (if q then ns 0 else 0) = 0 := by intro q _; split <;> rfl
    rw [ifz, ifz] at c6
    exact ⟨c4, by omega, by omega, by omega, by omega, cb, c14⟩
end B6
