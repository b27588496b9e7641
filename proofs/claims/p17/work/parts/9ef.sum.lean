section B6
variable {T : TS} {d n m N nn : Nat} {o : Int} {P : Nat → Nat → Nat} {F F' : Nat → Nat → Int32} {A A' : Nat → Nat → Nat → Int32} {J J' : Nat → Nat → Nat → Int64} {Fm Fm' : Nat → Int32} {Am Am' : Nat → Nat → Int32} {Jm Jm' : Nat → Nat → Int64} {k k' x1 x2 : Int32} {γ δ : Type} {Q : γ → δ → Prop}
/-- one of two signs, or none -/
theorem p2_either {f} {g} {a b a' b' : Int32} (hd : d ≠ 37) (K : TKs T) (S : SX T o d J Jm F A Fm Am) (ka : KR a.toInt a'.toInt) (kb : KR b.toInt b'.toInt) (oa : a'.toInt = 8 ∨ a'.toInt = 9 ∨ a'.toInt = 10 ∨ a'.toInt = 15) (ob : b'.toInt = 8 ∨ b'.toInt = 9 ∨ b'.toInt = 10 ∨ b'.toInt = 15) (na : a.toInt ≠ 0) (nb : b.toInt ≠ 0)
    (k1 : ∀ v F' Fm' Am' N' n', v.toInt ≠ 0 → SX T o d J Jm F' A Fm' Am' → (Fm' 11).toInt = (Fm 11).toInt + 1 → P2 (f (v, P, F', A, J)) ((d_expression_23 (d_expression_12 N') n' Fm' Am' Jm 0).bind g) Q)
    (k0 : (Am 3 (Fm 11).toInt.toNat).toInt ≠ a'.toInt → (Am 3 (Fm 11).toInt.toNat).toInt ≠ b'.toInt → P2 (f (0, P, F, A, J)) ((d_expression_96 (d_expression_12 N) n Fm Am Jm 0).bind g) Q)
    (kf : ∀ F' Fm' Am' Jm', FE F' Fm' → P2 (f (0, P, F', A, J)) (g ((), Fm', Am', Jm')) Q) :
    P2 (α := γ) (β := δ) ((e_Reader_takeEither P F A J a b).bind f) ((d_expression_96 (d_expression_12 N) n Fm Am Jm 0).bind g) Q := by
  have t0 := S.r.t0
  have t1 := S.r.t1
  have tk := S.r.tk
  have c7 : 0 ≤ (F 37 7).toInt ∧ (F 37 7).toInt ≤ 400 := by rw [tk]; exact ⟨t0, t1⟩
  have ia := S.r.kd K S.x ka
  have ib := S.r.kd K S.x kb
  unfold e_Reader_takeEither
  by_cases ha : (Am 3 (Fm 11).toInt.toNat).toInt = a'.toInt
  · rw [e_next_1 S.r.f0 c7.1 c7.2 (ia.mpr ha), Option.bind_some, cz_10, cond_false, Option.bind_assoc]
    refine y_op hd K S ka oa ha (fun F1 Fm1 Am1 N1 n1 S1 m1 => ?_) (fun F1 Fm1 Am1 Jm1 E => ?_)
    · dsimp only
      rw [cz_10, cond_false, Option.bind_some]
      exact k1 a F1 Fm1 Am1 N1 n1 na S1 m1
    · dsimp only
      rw [cz_00, cond_true]
      unfold e_Reader_takeEither_18
      rw [e_next_ff E.c, Option.bind_some, cz_00, cond_true, Option.bind_some]
      exact kf F1 Fm1 Am1 Jm1 E
  · rw [e_next_0 S.r.f0 c7.1 c7.2 (fun h => ha (ia.mp h)), Option.bind_some, cz_00, cond_true]
    unfold e_Reader_takeEither_18
    by_cases hb : (Am 3 (Fm 11).toInt.toNat).toInt = b'.toInt
    · rw [e_next_1 S.r.f0 c7.1 c7.2 (ib.mpr hb), Option.bind_some, cz_10, cond_false, Option.bind_assoc]
      refine y_op hd K S kb ob hb (fun F1 Fm1 Am1 N1 n1 S1 m1 => ?_) (fun F1 Fm1 Am1 Jm1 E => ?_)
      · dsimp only
        rw [cz_10, cond_false, Option.bind_some]
        exact k1 b F1 Fm1 Am1 N1 n1 nb S1 m1
      · dsimp only
        rw [cz_00, cond_true, Option.bind_some]
        exact kf F1 Fm1 Am1 Jm1 E
    · rw [e_next_0 S.r.f0 c7.1 c7.2 (fun h => hb (ib.mp h)), Option.bind_some, cz_00, cond_true, Option.bind_some]
      exact k0 ha hb
theorem sum_x {KS : cKS} (K : TKs T) (h5 : P 37 5 = d) (hk : c_kind d = 6) (hU : ∀ n, XP T d P J Jm false (e_Reader_readUnit KS n)) : ∀ (n : Nat) (γ δ : Type) (Q : γ → δ → Prop) (f : cR Unit → Option γ) (g : mR Unit → Option δ) (o : Int) (F : Nat → Nat → Int32) (A : Nat → Nat → Nat → Int32) (Fm : Nat → Int32) (Am : Nat → Nat → Int32) (N nn : Nat) (x1 x2 x3 x5 : Int32), x1.toInt = o → 0 ≤ o → o ≤ 6 → SX T o d J Jm F A Fm Am → 0 ≤ x5.toInt → x5.toInt ≤ (Fm 11).toInt →
  (∀ F' A' Fm' Am' N' n', SX T o d J Jm F' A' Fm' Am' → (Fm 11).toInt ≤ (Fm' 11).toInt → NOP Am' Fm' → P2 (f ((), P, F', A', J)) ((d_expression_96 (d_expression_12 N') n' Fm' Am' Jm 0).bind g) Q) →
  (∀ F' A' J' Fm' Am' Jm', FE F' Fm' → P2 (f ((), P, F', A', J')) (g ((), Fm', Am', Jm')) Q) →
  P2 ((e_Reader_readSum_10 KS n P F A J x1 x2 x3 1 x5).bind f) ((d_expression_23 (d_expression_12 N) nn Fm Am Jm 0).bind g) Q := by
  have hd := kd37 hk
  have hc := chk_in h5 hk
  have l1 := i_1
  have l400 := i_400
  have l8 : (8 : Int32).toInt = 8 := by decide
  have l9 : (9 : Int32).toInt = 9 := by decide
  have l10 : (10 : Int32).toInt = 10 := by decide
  have l15 : (15 : Int32).toInt = 15 := by decide
  intro n
  induction n with
  | zero => intro γ δ Q f g o F A Fm Am N nn x1 x2 x3 x5 _ _ _ _ _ _ _ _ a b ha _; cases ha
  | succ n ih =>
    intro γ δ Q f g o F A Fm Am N nn x1 x2 x3 x5 hx ho0 ho6 S h50 h5t ks kf
    have t1 := S.r.t1
    unfold e_Reader_readSum_10
    rw [i_ngt.mpr (by rw [l400]; omega), cond_false, cz_10, cond_false, Option.bind_assoc]
    refine hU n γ δ Q _ g o F A Fm Am N nn x1 hx ho0 ho6 S (fun F1 A1 Fm1 Am1 N1 n1 S1 le1 _ => ?_) (fun F1 A1 J1 Fm1 Am1 Jm1 E => ?_)
    · dsimp only
      rw [Option.bind_assoc]
      refine p2_l (sign_po hc) ?_
      rintro _ ⟨F2, A2, rfl, f2⟩
      have S2 := S1.l hd f2
      have t12 := S2.r.t1
      dsimp only
      rw [Option.bind_assoc]
      have e51 := i_add (x := x5) (y := 1) (by omega) (by omega)
      -- with a fault of form the class comes to its end
      have ff : ∀ {F3 : Nat → Nat → Int32} {A3 : Nat → Nat → Nat → Int32} {Fm3 Am3 Jm3} {y1 y2 y3 y4 y5 : Int32}, FE F3 Fm3 → P2 ((e_Reader_readSum_10 KS n P F3 A3 J y1 y2 y3 y4 y5).bind f) (g ((), Fm3, Am3, Jm3)) Q := by
        intro F3 A3 Fm3 Am3 Jm3 y1 y2 y3 y4 y5 E
        refine p2_l (eS10_ff hd hc E.c) ?_
        rintro _ ⟨F4, A4, rfl, f4⟩
        exact kf F4 A4 J Fm3 Am3 Jm3 ⟨by rw [f4.1 37 10 (fun e => hd e.1.symm)]; exact E.1, E.gg⟩
      refine p2_either hd K S2 (a' := 10) (b' := 15) (by decide) (by decide) (by decide) (by decide) (by decide) (by decide) (fun v F3 Fm3 Am3 N3 n3 hv S3 m3 => ?_) (fun na nb => ?_) (fun F3 Fm3 Am3 Jm3 E => ?_)
      · dsimp only
        rw [i_ne.mpr (by rw [i_0]; exact hv), cond_true]
        unfold e_Reader_readSum_71
        exact ih γ δ Q f g o F3 A2 Fm3 Am3 N3 n3 x1 x2 v (x5 + 1) hx ho0 ho6 S3 (by omega) (by omega) (fun F4 A4 Fm4 Am4 N4 n4 S4 le4 hn => ks F4 A4 Fm4 Am4 N4 n4 S4 (by omega) hn) kf
      · dsimp only
        rw [i_nne.mpr rfl, cond_false, Option.bind_assoc]
        refine p2_l (sign_po hc) ?_
        rintro _ ⟨F3, A3, rfl, f3⟩
        have S3 := S2.l hd f3
        dsimp only
        rw [Option.bind_assoc]
        refine p2_either hd K S3 (a' := 8) (b' := 9) (by decide) (by decide) (by decide) (by decide) (by decide) (by decide) (fun v F4 Fm4 Am4 N4 n4 hv S4 m4 => ?_) (fun na' nb' => ?_) (fun F4 Fm4 Am4 Jm4 E => ?_)
        · dsimp only
          rw [i_neq.mpr (by rw [i_0]; exact hv), cond_false]
          unfold e_Reader_readSum_69 e_Reader_readSum_71
          exact ih γ δ Q f g o F4 A3 Fm4 Am4 N4 n4 x1 v 0 (x5 + 1) hx ho0 ho6 S4 (by omega) (by omega) (fun F5 A5 Fm5 Am5 N5 n5 S5 le5 hn => ks F5 A5 Fm5 Am5 N5 n5 S5 (by omega) hn) kf
        · dsimp only
          rw [cz_00, cond_true]
          unfold e_Reader_readSum_69 e_Reader_readSum_71
          have fin : P2 (f ((), P, F3, A3, J)) ((d_expression_96 (d_expression_12 N1) n1 Fm1 Am1 Jm 0).bind g) Q := ks F3 A3 Fm1 Am1 N1 n1 S3 le1 ⟨by rw [← l8]; exact na', by rw [← l9]; exact nb', by rw [← l10]; exact na, by rw [← l15]; exact nb⟩
          cases n with
          | zero => intro a b ha _; cases ha
          | succ n =>
            unfold e_Reader_readSum_10
            rw [cz_00]
            refine p2_bind_cl (fun _ => ?_) (fun _ => ?_)
            · rw [Option.bind_some]; exact fin
            · rw [cond_true, Option.bind_some]; exact fin
        · dsimp only
          rw [cz_00, cond_true]
          unfold e_Reader_readSum_69 e_Reader_readSum_71
          exact ff E
      · dsimp only
        rw [i_nne.mpr rfl, cond_false, Option.bind_assoc]
        refine p2_l (sign_po hc) ?_
        rintro _ ⟨F4, A4, rfl, f4⟩
        have E4 : FE F4 Fm3 := ⟨by rw [f4.1 37 10 (fun e => hd e.1.symm)]; exact E.1, E.gg⟩
        dsimp only
        rw [eE_ff E4.c, Option.bind_some]
        dsimp only
        rw [cz_00, cond_true]
        unfold e_Reader_readSum_69 e_Reader_readSum_71
        exact ff E4
    · dsimp only
      rw [Option.bind_assoc]
      refine p2_l (sign_po hc) ?_
      rintro _ ⟨F2, A2, rfl, f2⟩
      have E2 : FE F2 Fm1 := ⟨by rw [f2.1 37 10 (fun e => hd e.1.symm)]; exact E.1, E.gg⟩
      dsimp only
      rw [eE_ff E2.c, Option.bind_some]
      dsimp only
      rw [i_nne.mpr rfl, cond_false, Option.bind_assoc]
      refine p2_l (sign_po hc) ?_
      rintro _ ⟨F3, A3, rfl, f3⟩
      have E3 : FE F3 Fm1 := ⟨by rw [f3.1 37 10 (fun e => hd e.1.symm)]; exact E2.1, E.gg⟩
      dsimp only
      rw [eE_ff E3.c, Option.bind_some]
      dsimp only
      rw [cz_00, cond_true]
      unfold e_Reader_readSum_69 e_Reader_readSum_71
      refine p2_l (eS10_ff hd hc E3.c) ?_
      rintro _ ⟨F4, A4, rfl, f4⟩
      exact kf F4 A4 J1 Fm1 Am1 Jm1 ⟨by rw [f4.1 37 10 (fun e => hd e.1.symm)]; exact E3.1, E.gg⟩
theorem sum_m (K : TKs T) (h5 : P 37 5 = d) (hk : c_kind d = 6) : ∀ m, XP T d P J Jm true (e_Reader_readSum m n) ∧ XF P J (e_Reader_readSum m n) := by
  have hd := kd37 hk
  have hc := chk_in h5 hk
  intro m
  induction m with
  | zero =>
    refine ⟨?_, fun F A x1 h => ?_⟩
    · intro γ δ Q f g o F A Fm Am N nn x1 _ _ _ _ _ _ a b ha _
      cases ha
    · intro r hr; cases hr
  | succ m ih =>
    refine ⟨?_, fun F A x1 h => ?_⟩
    · intro γ δ Q f g o F A Fm Am N nn x1 hx ho0 ho6 S ks kf
      show P2 ((e_Reader_readSum_10 (e_Reader_readSum m n) n P F A J x1 0 0 1 0).bind f) _ Q
      exact sum_x K h5 hk (fun n => unit_x K h5 hk ih.1 ih.2) n γ δ Q f g o F A Fm Am N nn x1 0 0 0 hx ho0 ho6 S (by decide) (by rw [i_0]; exact S.r.t0) (fun F' A' Fm' Am' N' n' S' le hn => ks F' A' Fm' Am' N' n' S' le (fun _ => hn)) kf
    · refine po_mono (eS_ff hd hc h) ?_
      rintro _ ⟨F', A', rfl, f⟩
      exact ⟨F', A', rfl, f.1 37 10 (fun e => hd e.1.symm)⟩
/-- a whole term, on both sides -/
theorem p2_expr {f : cR Unit → Option γ} {g : mR Unit → Option δ} (K : TKs T) (h5 : P 37 5 = d) (hk : c_kind d = 6) (S : SX T 0 d J Jm F A Fm Am) (ks : ∀ F' A' Fm' Am', SX T 0 d J Jm F' A' Fm' Am' → P2 (f ((), P, F', A', J)) (g ((), Fm', Am', Jm)) Q) (kf : ∀ F' A' J' Fm' Am' Jm', FE F' Fm' → P2 (f ((), P, F', A', J')) (g ((), Fm', Am', Jm')) Q) : P2 ((e_Reader_readSum 8 n P F A J 0).bind f) ((d_expression m Fm Am Jm).bind g) Q := by
  unfold d_expression
  rw [Option.bind_assoc]
  refine p2_br (fun F1 e1 => ?_)
  have a1 := gg_pf e1
  have S1 : SX T 0 d J Jm F A F1 Am := S.nn ⟨fun q _ h => a1.2 q h, fun _ _ _ _ => rfl⟩
  have z : F1 12 = 0 := i_ext S1.h.op
  cases m with
  | zero => intro a b _ hb; cases hb
  | succ m =>
    unfold d_expression_12
    rw [cz_10, cond_false, S1.r.nz, cond_false, z]
    exact (sum_m K h5 hk 8).1 γ δ Q f g 0 F A F1 Am m m 0 (by decide) (by decide) (by decide) S1 (fun F2 A2 Fm2 Am2 N2 n2 S2 _ hn => y_end0 S2 (hn rfl) (fun Fm3 Am3 f3 => ks F2 A2 Fm3 Am3 (S2.nn f3))) kf
end B6
