section C4
variable {JW JK : Nat → Int64} {k : Nat} {p : Int} {P : Nat → Nat → Nat} {F F' F0 : Nat → Nat → Int32} {A A' : Nat → Nat → Nat → Int32} {J J' : Nat → Nat → Nat → Int64} {Fm Fm' : Nat → Int32} {Am Am' : Nat → Nat → Int32} {Jm Jm' : Nat → Nat → Int64} {xk x1 : Int32} {γ : Type} {Q : γ → mR Unit → Prop}
/-! signs -/
def sgl : List (Int × Int) := [(59, 4), (61, 5), (43, 8), (45, 9), (42, 10), (47, 15), (60, 13), (40, 6), (41, 7)]
theorem ne_dec (x y : Int32) : g_cnd .ne x y = decide (x.toInt ≠ y.toInt) := by
  by_cases h : x.toInt = y.toInt
  · rw [i_nne.mpr h, decide_eq_false (fun e => e h)]
  · rw [i_ne.mpr h, decide_eq_true h]
theorem tx1 : ∀ j : Fin 9, ((c_tx 1 j.val).toInt, (sgl.getD j.val (0, 0)).2) = sgl.getD j.val (0, 0) := by decide
theorem idx7 {c : Int32} : ∀ {n : Nat} {x5 : Int32}, 0 ≤ x5.toInt → (∀ j : Nat, (j : Int) < x5.toInt → c_tx 1 j ≠ c) → po (e_StringLatin1_indexOfChar_7 n P F A J 9 c x5) (fun v => (0 ≤ v.toInt ∧ ∃ j : Nat, j < 9 ∧ c_tx 1 j = c) ∨ (v.toInt < 0 ∧ ∀ j : Nat, j < 9 → c_tx 1 j ≠ c)) := by
  have l9 : (9 : Int32).toInt = 9 := by decide
  have l1 := i_1
  intro n
  induction n with
  | zero => intro x5 _ _ r hr; cases hr
  | succ n ih =>
    intro x5 h0 hb
    unfold e_StringLatin1_indexOfChar_7
    refine po_cond (fun h => ?_) (fun h => ?_)
    · rw [i_ge, l9] at h
      exact po_some (.inr ⟨by decide, fun j hj => hb j (by omega)⟩)
    · rw [i_nge, l9] at h
      rw [m_ld_in h0 (by omega), Option.bind_some]
      have e1 := i_add (x := x5) (y := 1) (by omega) (by omega)
      refine po_cond (fun h2 => ?_) (fun h2 => ?_)
      · rw [i_ne] at h2
        exact ih (by omega) (fun j hj => by
          by_cases hlt : (j : Int) < x5.toInt
          · exact hb j hlt
          · have : j = x5.toInt.toNat := by omega
            rw [this]; exact fun e => h2 (by rw [e]))
      · rw [i_nne] at h2
        exact po_some (.inl ⟨h0, x5.toInt.toNat, by omega, i_ext h2⟩)
theorem b_chr {b : Int32} (h0 : 0 < b.toInt) (h1 : b.toInt ≤ 127) : (b.toUInt32 % 65536).toInt32 = b ∧ b.toInt8.toInt32 = b := by
  have z : ∀ k : Fin 128, ((Int32.ofInt (k.val : Int)).toUInt32 % 65536).toInt32 = Int32.ofInt (k.val : Int) ∧ (Int32.ofInt (k.val : Int)).toInt8.toInt32 = Int32.ofInt (k.val : Int) := by decide +kernel
  have e : b = Int32.ofInt ((b.toInt.toNat : Nat) : Int) := by
    have : ((b.toInt.toNat : Nat) : Int) = b.toInt := by omega
    rw [this, Int32.ofInt_toInt]
  have := z ⟨b.toInt.toNat, by omega⟩
  rw [← e] at this
  exact this
/-- what the signs' text says of a byte -/
theorem idx_s {n : Nat} {b : Int32} (h0 : 0 < b.toInt) (h1 : b.toInt ≤ 127) : po (e_String_indexOf n P F A J ((b.toUInt32 % 65536).toInt32)) (fun v => (0 ≤ v.toInt ∧ ∃ q, (b.toInt, q) ∈ sgl) ∨ (v.toInt < 0 ∧ ∀ q, (b.toInt, q) ∉ sgl)) := by
  obtain ⟨e1, e2⟩ := b_chr h0 h1
  rw [e1]
  have yes : ∀ j : Nat, j < 9 → c_tx 1 j = b → ∃ q, (b.toInt, q) ∈ sgl := by
    intro j hj e
    have t := tx1 ⟨j, hj⟩
    refine ⟨(sgl.getD j (0, 0)).2, ?_⟩
    rw [← e, t]
    exact (by decide : ∀ j : Fin 9, sgl.getD j.val (0, 0) ∈ sgl) ⟨j, hj⟩
  have no : (∀ j : Nat, j < 9 → c_tx 1 j ≠ b) → ∀ q, (b.toInt, q) ∉ sgl := by
    intro h q hq
    have z : ∀ x ∈ sgl, ∃ j : Fin 9, (c_tx 1 j.val).toInt = x.1 := by decide
    obtain ⟨j, hj⟩ := z _ hq
    exact h j.val j.isLt (i_ext hj)
  unfold e_String_indexOf e_String_indexOf_v1 e_String_length e_StringLatin1_indexOf e_StringLatin1_canEncode e_StringLatin1_indexOfChar
  have l0 := i_0
  have l255 : (255 : Int32).toInt = 255 := by decide
  rw [Option.bind_some, i_nlt.mpr (by omega), cond_false, i_ngt.mpr (by omega), cond_false, Option.bind_some, i_ne.mpr (by decide), cond_true, e2]
  have t1 : (if (0 : Int32) < 0 then (0 : Int32) else 0) = 0 := by decide
  have t2 : (if (9 : Int32) < (9 : Int32) >>> ((0 : Int32) &&& 31) then (9 : Int32) else (9 : Int32) >>> ((0 : Int32) &&& 31)) = 9 := by decide
  rw [t1, t2, i_lt.mpr (by decide), cond_true]
  refine po_call (R := fun v => (0 ≤ v.toInt ∧ ∃ q, (b.toInt, q) ∈ sgl) ∨ (v.toInt < 0 ∧ ∀ q, (b.toInt, q) ∉ sgl)) ?_ (fun v hv => po_some hv)
  refine po_call (R := fun v => (0 ≤ v.toInt ∧ ∃ q, (b.toInt, q) ∈ sgl) ∨ (v.toInt < 0 ∧ ∀ q, (b.toInt, q) ∉ sgl)) ?_ (fun v hv => po_some hv)
  refine po_call (R := fun v => (0 ≤ v.toInt ∧ ∃ q, (b.toInt, q) ∈ sgl) ∨ (v.toInt < 0 ∧ ∀ q, (b.toInt, q) ∉ sgl)) ?_ (fun v hv => po_some hv)
  refine po_mono (idx7 (by decide) (fun j hj => by rw [i_0] at hj; omega)) (fun v hv => ?_)
  rcases hv with ⟨v0, j, hj, e⟩ | ⟨v0, h⟩
  · exact .inl ⟨v0, yes j hj e⟩
  · exact .inr ⟨v0, no h⟩
theorem sign_1 {v w : Int32} {q : Int} (h : (v.toInt, q) ∈ sgl) : ∃ kd : Int32, kd.toInt = q ∧ d_sign Fm Am Jm x1 v w = d_sign_95 Fm Am Jm x1 kd := by
  have e59 : (59 : Int32).toInt = 59 := by decide
  have e61 : (61 : Int32).toInt = 61 := by decide
  have e43 : (43 : Int32).toInt = 43 := by decide
  have e45 : (45 : Int32).toInt = 45 := by decide
  have e42 : (42 : Int32).toInt = 42 := by decide
  have e47 : (47 : Int32).toInt = 47 := by decide
  have e60 : (60 : Int32).toInt = 60 := by decide
  have e40 : (40 : Int32).toInt = 40 := by decide
  have e41 : (41 : Int32).toInt = 41 := by decide
  unfold d_sign d_sign_43 d_sign_55 d_sign_65 d_sign_75 d_sign_85
  simp only [ne_dec, e59, e61, e43, e45, e42, e47, e60, e40, e41]
  generalize v.toInt = b at h
  simp only [sgl, List.mem_cons, List.not_mem_nil, or_false, Prod.mk.injEq] at h
  rcases h with h | h | h | h | h | h | h | h | h <;> obtain ⟨rfl, rfl⟩ := h <;> exact ⟨_, by decide, rfl⟩
theorem sign_0 {v w : Int32} (h : ∀ q, (v.toInt, q) ∉ sgl) : d_sign Fm Am Jm x1 v w = d_sign_95 Fm Am Jm x1 3 := by
  have e59 : (59 : Int32).toInt = 59 := by decide
  have e61 : (61 : Int32).toInt = 61 := by decide
  have e43 : (43 : Int32).toInt = 43 := by decide
  have e45 : (45 : Int32).toInt = 45 := by decide
  have e42 : (42 : Int32).toInt = 42 := by decide
  have e47 : (47 : Int32).toInt = 47 := by decide
  have e60 : (60 : Int32).toInt = 60 := by decide
  have e40 : (40 : Int32).toInt = 40 := by decide
  have e41 : (41 : Int32).toInt = 41 := by decide
  have n1 : v.toInt ≠ 59 := fun e => h 4 (by rw [e]; decide)
  have n2 : v.toInt ≠ 61 := fun e => h 5 (by rw [e]; decide)
  have n3 : v.toInt ≠ 43 := fun e => h 8 (by rw [e]; decide)
  have n4 : v.toInt ≠ 45 := fun e => h 9 (by rw [e]; decide)
  have n5 : v.toInt ≠ 42 := fun e => h 10 (by rw [e]; decide)
  have n6 : v.toInt ≠ 47 := fun e => h 15 (by rw [e]; decide)
  have n7 : v.toInt ≠ 60 := fun e => h 13 (by rw [e]; decide)
  have n8 : v.toInt ≠ 40 := fun e => h 6 (by rw [e]; decide)
  have n9 : v.toInt ≠ 41 := fun e => h 7 (by rw [e]; decide)
  unfold d_sign d_sign_43 d_sign_55 d_sign_65 d_sign_75 d_sign_85
  simp only [ne_dec, e59, e61, e43, e45, e42, e47, e60, e40, e41, decide_eq_true n1, decide_eq_true n2, decide_eq_true n3, decide_eq_true n4, decide_eq_true n5, decide_eq_true n6, decide_eq_true n7, decide_eq_true n8, decide_eq_true n9, cond_true]
theorem SC.mv {p' : Int} (S : SC JW JK k p F A J Fm Am Jm) (hF : F105 F F') (hp : (F' 37 105).toInt = p') (h : p ≤ p') (h1 : p' ≤ (Fm 4).toInt) : SC JW JK k p' F' A J Fm Am Jm :=
  ⟨(hF 1 1 (by decide)).trans S.sz, S.s0, S.s1, S.bt, hp, by have := S.p0; omega, h1, S.fk, S.jw, S.jk, S.tr, S.up, fun j hj => by have := S.lp j hj; omega⟩
def blk (b : Int) : Prop := b = 9 ∨ b = 10 ∨ b = 13 ∨ b = 32
/-- blanks, on both sides -/
theorem p2_blank {f : cR Unit → Option γ} (hk : k ≤ 400)
    (kend : ∀ (n' m' : Nat) (F' : Nat → Nat → Int32) (p' : Int) (x1' : Int32), SC JW JK k p' F' A J Fm Am Jm → x1'.toInt = p' → (p' = (Fm 4).toInt ∨ ¬ blk (Am 2 p'.toNat).toInt) → P2 ((e_Scanner_scanNext_39 n' P F' A J xk).bind f) (d_cut_7 (m' + 1) Fm Am Jm x1') Q) :
    ∀ {n m : Nat} {F : Nat → Nat → Int32} {p : Int} {x1 : Int32}, SC JW JK k p F A J Fm Am Jm → x1.toInt = p → P2 ((e_Scanner_scanNext_0 n P F A J xk).bind f) (d_cut_7 m Fm Am Jm x1) Q := by
  have l1 := i_1
  have l400 := i_400
  obtain ⟨-, -, -, -, e9, e10, e13, e32⟩ := i_48
  intro n
  induction n with
  | zero => intro m F p x1 _ _ a b ha _; cases ha
  | succ n ih =>
    intro m F p x1 S hx
    cases m with
    | zero => intro a b _ hb; cases hb
    | succ m =>
      have p0 := S.p0
      have p1 := S.p1
      have s1 := S.s1
      have ps := S.ps
      have fk := S.fk
      unfold e_Scanner_scanNext_0
      by_cases c : p < (Fm 4).toInt
      · obtain ⟨b1, b2, b3⟩ := S.bt p.toNat (by omega)
        have bb := b255 b2 b3
        have ib : (F 37 105).toInt.toNat = p.toNat := by omega
        have ip : x1.toInt.toNat = p.toNat := by omega
        rw [i_nge.mpr (by rw [S.sz]; omega), cond_false, m_ld_in (by omega) (by omega), Option.bind_some, ib, b1]
        by_cases bl : blk (Am 2 p.toNat).toInt
        · rw [cl_b1 bl, Option.bind_some, cz_10, cond_false, Option.bind_assoc]
          refine p2_bl (fun F5 e5 => ?_)
          have U5 := gg_cpf e5
          have h5 : (F5 37 105).toInt = p + 1 := by rw [U5.1, i_add (by omega) (by omega), i_1, ps]
          have S5 := S.mv (F' := F5) (p' := p + 1) (fun r q h => U5.2 r q h) h5 (by omega) (by omega)
          have ex := i_add (x := x1) (y := 1) (by omega) (by omega)
          have go : P2 ((e_Scanner_scanNext_0 n P F5 A J xk).bind f) (d_cut_67 (d_cut_7 m) m Fm Am Jm x1) Q := by
            unfold d_cut_67 d_cut_291
            exact ih S5 (by omega)
          unfold d_cut_7
          rw [i_ngt.mpr (by rw [l400]; omega), cond_false, byte_in (by omega) (by omega) s1, Option.bind_some, i_lt.mpr (by omega), cond_true, ip]
          unfold blk at bl
          refine p2_cr (fun _ => go) (fun c9 => p2_cr (fun _ => go) (fun c10 => p2_cr (fun _ => go) (fun c13 => p2_cr (fun c32 => ?_) (fun _ => go))))
          rw [i_neq, e9] at c9
          rw [i_neq, e10] at c10
          rw [i_neq, e13] at c13
          rw [i_ne, e32] at c32
          omega
        · rw [cl_b0 bl, Option.bind_some, cz_00, cond_true]
          exact kend n m F p x1 S hx (.inr bl)
      · rw [i_ge.mpr (by rw [S.sz]; omega), cond_true]
        exact kend n m F p x1 S hx (.inl (by omega))
theorem kr_sgl : ∀ x ∈ sgl, KR x.1 x.2 := by decide
/-- one token, on both sides -/
theorem p2_tok {f : cR Unit → Option γ} {n m : Nat} (hW : WKx JW JK) (hk : k ≤ 400) (hxk : xk.toInt = k) (S : SC JW JK k p F A J Fm Am Jm) (hx : x1.toInt = p) (hb : p = (Fm 4).toInt ∨ ¬ blk (Am 2 p.toNat).toInt)
    (ka : ∀ F' A' J' Fm' Am' Jm' (p' : Int) (x1' : Int32) (m' : Nat), AT JW JK k p' F' A' J' Fm' Am' Jm' → x1'.toInt = p' → P2 (f ((), P, F', A', J')) (d_cut_7 m' Fm' Am' Jm' x1') Q)
    (ke : ∀ F' A' J' Fm' Am' Jm' (p' : Int), AT JW JK k p' F' A' J' Fm' Am' Jm' → (Am' 3 k).toInt = 0 → P2 (f ((), P, F', A', J')) (some ((), Fm', Am', Jm')) Q) : P2 ((e_Scanner_scanNext_39 n P F A J xk).bind f) (d_cut_7 (m + 1) Fm Am Jm x1) Q := by
  have l1 := i_1
  have l0 := i_0
  have l400 := i_400
  have l7 : (7 : Int32).toInt = 7 := by decide
  have l8 : (8 : Int32).toInt = 8 := by decide
  have l4 : (4 : Int32).toInt = 4 := by decide
  have l3 : (3 : Int32).toInt = 3 := by decide
  have l2 : (2 : Int32).toInt = 2 := by decide
  have l100 : (100 : Int32).toInt = 100 := by decide
  have l101 : (101 : Int32).toInt = 101 := by decide
  have l102 : (102 : Int32).toInt = 102 := by decide
  have l103 : (103 : Int32).toInt = 103 := by decide
  obtain ⟨-, -, -, -, e9, e10, e13, e32⟩ := i_48
  have p0 := S.p0
  have p1 := S.p1
  have s1 := S.s1
  have ps := S.ps
  have fk := S.fk
  have ip : x1.toInt.toNat = p.toNat := by omega
  have ik : xk.toInt.toNat = k := by omega
  have keepJ : (∀ r o, ¬ (r = 37 ∧ o = 5) → J r o = J r o) ∧ (∀ j, j ≠ k → J 37 5 j = J 37 5 j) := ⟨fun _ _ _ => rfl, fun _ _ => rfl⟩
  unfold e_Scanner_scanNext_39
  rw [Option.bind_assoc]
  refine p2_bl (fun A6 e6 => ?_)
  have U6 := (gg_cst e6).2.2
  rw [hxk, ps] at U6
  have C6 : CTx k A A6 := CTx.of U6 (.inr (.inl rfl))
  have bt6 : A6 1 1 = A 1 1 := C6.1 1 1 (by decide)
  have pl6 : (A6 37 3 k).toInt = p := U6.1
  unfold d_cut_7
  rw [i_ngt.mpr (by rw [l400]; omega), cond_false]
  by_cases c : p < (Fm 4).toInt
  · have hb := hb.resolve_left (by omega)
    unfold blk at hb
    obtain ⟨b1, b2, b3⟩ := S.bt p.toNat (by omega)
    have bb := b255 b2 b3
    have ib : (F 37 105).toInt.toNat = p.toNat := by omega
    rw [i_lt.mpr (by rw [S.sz]; omega), cond_true, bt6, m_ld_in (by omega) (by omega), Option.bind_some, ib, b1, byte_in (by omega) (by omega) s1, Option.bind_some, i_lt.mpr (by omega), cond_true, ip, i_neq.mpr (by omega), cond_false, i_neq.mpr (by omega), cond_false, i_neq.mpr (by omega), cond_false, i_ne.mpr (by omega), cond_true]
    by_cases hl : 97 ≤ (Am 2 p.toNat).toInt ∧ (Am 2 p.toNat).toInt ≤ 122
    · rw [cl_l1 hl, Option.bind_some, cz_10, cond_false, dl_l1 (by omega), Option.bind_some, cz_10, cond_false, Option.bind_assoc]
      unfold e_Scanner_scanLetters
      refine p2_let (p := p) (F0 := F) S.sz s1 (fun i hi => by rw [bt6]; exact S.bt i hi) hx p0 (fun n' m' F' x3 x4 nn fr n0 hp hs hend tn => ?_) (fun _ _ _ => rfl) (by decide) (by rw [ps, i_0]; omega) (by rw [i_0]; omega) (fun _ => by rw [i_0]; exact TNl.nil)
      have n1 : 1 ≤ nn.toInt := by
        rcases hend with h | h
        · omega
        · by_cases z : nn.toInt = 0
          · rw [z] at h
            exact absurd (by simpa using hl) h
          · omega
      unfold e_Scanner_scanLetters_57
      rw [Option.bind_assoc, m_ld_in (by omega) (by omega), Option.bind_some, ik]
      have dd : ((F' 37 105) - A6 37 3 k).toInt = nn.toInt := by rw [i_sub (by omega) (by omega)]; omega
      have xn := i_add (x := x1) (y := nn) (by omega) (by omega)
      -- both have put it down
      have fin : ∀ {r : cR Unit} {n'' m'' : Nat} {fd kd : Int32}, e_Scanner_scanLetters_121 n'' P F' A6 J xk x3 fd = some r → KR fd.toInt kd.toInt → kd.toInt ≠ 2 → kd.toInt ≠ 0 → (kd.toInt = 1 → TNi x3.toInt x4.toInt) → P2 ((some r).bind fun (_, P22, F23, A24, J25) => (some ((), P22, F23, A24, J25)).bind f) (d_cut_179 (d_cut_7 m) m'' Fm Am Jm x1 nn x4 kd) Q := by
        intro r n'' m'' fd kd hr kr k2 k0 k1
        obtain ⟨A7, J7, rfl, V7, j1, j2, j3⟩ := c121 hr
        rw [hxk] at V7 j2
        rw [ik] at j1
        unfold d_cut_179 d_cut_291
        refine p2_br (fun t ht => ?_)
        have C7 : CTx k A A7 := C6.tr (CTx.of V7 (.inl rfl))
        obtain ⟨Fm8, Am8, Jm8, rfl, -, a⟩ := S.at_ (F' := F') (p' := p + nn.toInt) (q := p) (A' := A7) (J' := J7) fr hp (Int.le_refl _) hx (.inl (by omega)) (by omega) hs C7 ⟨j3, fun j hj => j2 j (by omega) (by omega)⟩ (by rw [show (A7 37 2 k).toInt = fd.toInt from V7.1]; exact kr) (fun h => absurd h k2) (fun h => by rw [j1]; exact k1 h) ht
        exact ka F' A7 J7 Fm8 Am8 Jm8 (p + nn.toInt) (x1 + nn) m a (by omega)
      unfold d_cut_135 e_Scanner_scanLetters_80
      by_cases h8 : nn.toInt ≤ 8
      · have t := tn h8
        rw [i_le.mpr (by rw [dd, l8]; exact h8), cond_true, i_le.mpr (by rw [l8]; exact h8), cond_true]
        refine p2_l (c85 (by decide) (fun i hi => by rw [i_0] at hi; omega)) ?_
        rintro r ⟨n'', fd, hfd, hr⟩
        rw [S.jw] at hfd
        by_cases h7 : nn.toInt ≤ 7
        · rw [i_ngt.mpr (by rw [l7]; exact h7), cond_false]
          refine r146 (fun m'' kd hkd => ?_) (by decide) (.inl ⟨by decide, fun i hi => by rw [i_0] at hi; omega⟩)
          rw [S.jk] at hkd
          rcases hfd with ⟨rfl, nof⟩ | ⟨i, i1, i2, i3⟩
          · have kd1 : kd.toInt = 1 := by
              rcases hkd with ⟨h, -⟩ | ⟨j, j1, j2, -⟩
              · exact h
              · obtain ⟨i, i1, -, t2⟩ := hW.k j j1
                have := (t2.iff t.1).mpr (by rw [j2])
                exact absurd (Int64.toInt_inj.mp this) (nof i i1)
            exact fin hr (by rw [kd1, l100]; decide) (by omega) (by omega) (fun _ => t.1)
          · obtain ⟨j0, a1, a2, a3⟩ := hW.w i i1
            have y0 : JK j0 = x4 := Int64.toInt_inj.mp ((a3.iff t.1).mp (by rw [i3]))
            rcases hkd with ⟨-, h⟩ | ⟨j, j1, j2, j3⟩
            · exact absurd y0 (h j0 a1)
            · have : j0 = j := hW.u j0 j a1 j1 (by rw [y0, j2])
              subst this
              exact fin hr (by rw [i2, j3]; exact a2) (by omega) (by omega) (fun h => by omega)
        · rw [i_gt.mpr (by rw [l7]; omega), cond_true]
          rcases hfd with ⟨rfl, nof⟩ | ⟨i, i1, i2, i3⟩
          · exact fin hr (by decide) (by decide) (by decide) (fun _ => t.1)
          · have lo := t.2.2.2
            have e8 : nn.toInt.toNat = 8 := by omega
            rw [e8] at lo
            have lo := lo.resolve_left (by decide)
            have b7 : (256 : Int) ^ (8 - 1) = 72057594037927936 := by decide
            rw [b7] at lo
            have := hW.s i i1
            rw [i3] at this
            omega
      · rw [i_nle.mpr (by rw [dd, l8]; omega), cond_false, i_nle.mpr (by rw [l8]; omega), cond_false]
        refine p2_l (c85_ne (by decide)) ?_
        rintro r ⟨n'', hr⟩
        rw [i_gt.mpr (by rw [l7]; omega), cond_true]
        exact fin hr (by decide) (by decide) (by decide) (fun h => absurd h (by decide))
    · rw [cl_l0 hl, Option.bind_some, cz_00, cond_true, dl_l0 (by omega), Option.bind_some, cz_00, cond_true]
      by_cases hd : 48 ≤ (Am 2 p.toNat).toInt ∧ (Am 2 p.toNat).toInt ≤ 57
      · rw [cl_d1 hd, Option.bind_some, cz_10, cond_false, dl_d1 (by omega), Option.bind_some, cz_10, cond_false, Option.bind_assoc]
        unfold e_Scanner_scanDigits
        refine p2_dig (p := p) (F0 := F) S.sz s1 (fun i hi => by rw [bt6]; exact S.bt i hi) hx p0 (fun n' m' F' x3 x4 nn fr n0 hp hs hend tn => ?_) (fun _ _ _ => rfl) (by decide) (by rw [ps, i_0]; omega) (by rw [i_0]; omega) (fun _ => rfl)
        have n1 : 1 ≤ nn.toInt := by
          rcases hend with h | h
          · omega
          · by_cases z : nn.toInt = 0
            · rw [z] at h
              exact absurd (by simpa using hd) h
            · omega
        unfold e_Scanner_scanDigits_59
        rw [Option.bind_assoc]
        refine p2_bl (fun A7 e7 => ?_)
        have U7 := (gg_cst e7).2.2
        have v7 : A7 37 4 k = x3 := by
          have := U7.1
          rw [hxk] at this
          exact i_ext this
        rw [hxk] at U7
        have C7 : CTx k A A7 := C6.tr (CTx.of U7 (.inr (.inr rfl)))
        have pl7 : A7 37 3 = A6 37 3 := U7.2.2 37 3 (by decide)
        rw [Option.bind_assoc, m_ld_in (by omega) (by omega), Option.bind_some, ik, pl7]
        have dd : ((F' 37 105) - A6 37 3 k).toInt = nn.toInt := by rw [i_sub (by omega) (by omega)]; omega
        have xn := i_add (x := x1) (y := nn) (by omega) (by omega)
        have fin : ∀ {n'' m'' : Nat} {fd kd : Int32}, KR fd.toInt kd.toInt → kd.toInt ≠ 1 → kd.toInt ≠ 0 → (kd.toInt = 2 → x3 = x4) → P2 ((e_Scanner_scanDigits_93 n'' P F' A7 J xk fd).bind fun (_, P22, F23, A24, J25) => (some ((), P22, F23, A24, J25)).bind f) (d_cut_261 (d_cut_7 m) m'' Fm Am Jm x1 nn x4 kd) Q := by
          intro n'' m'' fd kd kr k1 k0 k2
          unfold e_Scanner_scanDigits_93 d_cut_261 d_cut_291
          rw [Option.bind_assoc]
          refine p2_bl (fun A8 e8 => ?_)
          have U8 := (gg_cst e8).2.2
          rw [hxk] at U8
          have C8 : CTx k A A8 := C7.tr (CTx.of U8 (.inl rfl))
          refine p2_br (fun t ht => ?_)
          obtain ⟨Fm8, Am8, Jm8, rfl, -, a⟩ := S.at_ (F' := F') (p' := p + nn.toInt) (q := p) (A' := A8) (J' := J) fr hp (Int.le_refl _) hx (.inl (by omega)) (by omega) hs C8 keepJ (by rw [show (A8 37 2 k).toInt = fd.toInt from U8.1]; exact kr) (fun h => by rw [U8.2.2 37 4 (by decide), v7]; exact k2 h) (fun h => absurd h k1) ht
          exact ka F' A8 J Fm8 Am8 Jm8 (p + nn.toInt) (x1 + nn) m a (by omega)
        by_cases h4 : nn.toInt ≤ 4
        · rw [i_le.mpr (by rw [dd, l4]; exact h4), cond_true, i_le.mpr (by rw [l4]; exact h4), cond_true]
          exact fin (by decide) (by decide) (by decide) (fun _ => tn h4)
        · rw [i_nle.mpr (by rw [dd, l4]; omega), cond_false, i_nle.mpr (by rw [l4]; omega), cond_false]
          exact fin (by decide) (by decide) (by decide) (fun h => absurd h (by decide))
      · rw [cl_d0 hd, Option.bind_some, cz_00, cond_true, dl_d0 (by omega), Option.bind_some, cz_00, cond_true]
        refine p2_br (fun w _ => ?_)
        have xn := i_add (x := x1) (y := 1) (by omega) (by omega)
        have fin : ∀ {n'' : Nat} {fd kd : Int32}, KR fd.toInt kd.toInt → kd.toInt ≠ 1 → kd.toInt ≠ 2 → kd.toInt ≠ 0 → P2 ((e_Scanner_scanNext_136 n'' P F A6 J xk fd).bind f) ((d_sign_95 Fm Am Jm x1 kd).bind fun (v14, F15, A16, J17) => d_cut_291 (d_cut_7 m) m F15 A16 J17 (x1 + v14)) Q := by
          intro n'' fd kd kr k1 k2 k0
          unfold e_Scanner_scanNext_136 d_sign_95 d_cut_291
          rw [Option.bind_assoc, Option.bind_assoc]
          refine p2_bl (fun A8 e8 => ?_)
          have U8 := (gg_cst e8).2.2
          rw [hxk] at U8
          have C8 : CTx k A A8 := C6.tr (CTx.of U8 (.inl rfl))
          rw [Option.bind_assoc]
          refine p2_bl (fun F9 e9 => ?_)
          have U9 := gg_cpf e9
          have h9 : (F9 37 105).toInt = p + 1 := by rw [U9.1, i_add (by omega) (by omega), i_1, ps]
          refine p2_br (fun t ht => ?_)
          obtain ⟨Fm8, Am8, Jm8, rfl, -, a⟩ := S.at_ (F' := F9) (p' := p + 1) (q := p) (A' := A8) (J' := J) (fun r q h => U9.2 r q h) h9 (Int.le_refl _) hx (.inl (by omega)) (by omega) (by omega) C8 keepJ (by rw [show (A8 37 2 k).toInt = fd.toInt from U8.1]; exact kr) (fun h => absurd h k2) (fun h => absurd h k1) ht
          rw [Option.bind_some, Option.bind_some]
          exact ka F9 A8 J Fm8 Am8 Jm8 (p + 1) (x1 + 1) m a (by omega)
        by_cases hz : (Am 2 p.toNat).toInt ≤ 0
        · rw [i_le.mpr (by rw [l0]; exact hz), cond_true]
          unfold e_Scanner_scanNext_134
          rw [sign_0 (fun q hq => by
            have z : ∀ x ∈ sgl, 0 < x.1 ∧ x.1 < 128 := by decide
            have := z _ hq
            simp only at this
            omega)]
          exact fin (by decide) (by decide) (by decide) (by decide)
        · rw [i_nle.mpr (by rw [l0]; omega), cond_false, Option.bind_assoc]
          have ev : (Am 2 p.toNat &&& 255) = Am 2 p.toNat := i_ext (by omega)
          rw [ev]
          refine p2_l (idx_s (by omega) b3) (fun v hv => ?_)
          rcases hv with ⟨v0, q, hq⟩ | ⟨v0, hq⟩
          · rw [i_nlt.mpr (by rw [l0]; exact v0), cond_false]
            obtain ⟨kd, kq, ek⟩ := sign_1 (Fm := Fm) (Am := Am) (Jm := Jm) (x1 := x1) (w := w) hq
            rw [ek]
            have kk : ∀ x ∈ sgl, x.2 ≠ 1 ∧ x.2 ≠ 2 ∧ x.2 ≠ 0 := by decide
            have kk := kk _ hq
            simp only at kk
            exact fin (by rw [kq]; exact kr_sgl _ hq) (by rw [kq]; exact kk.1) (by rw [kq]; exact kk.2.1) (by rw [kq]; exact kk.2.2)
          · rw [i_lt.mpr (by rw [l0]; exact v0), cond_true]
            unfold e_Scanner_scanNext_134
            rw [sign_0 hq]
            exact fin (by decide) (by decide) (by decide) (by decide)
  · rw [i_nlt.mpr (by rw [S.sz]; omega), cond_false, byte_out (by omega), Option.bind_some, i_nlt.mpr (by omega), cond_false, Option.bind_assoc]
    refine p2_bl (fun A8 e8 => ?_)
    have U8 := (gg_cst e8).2.2
    rw [hxk] at U8
    have C8 : CTx k A A8 := C6.tr (CTx.of U8 (.inl rfl))
    refine p2_br (fun t ht => ?_)
    obtain ⟨Fm8, Am8, Jm8, rfl, k3, a⟩ := S.at_ (F' := F) (p' := p) (q := p) (A' := A8) (J' := J) (fun _ _ _ => rfl) ps (Int.le_refl _) (by omega) (.inr (by decide)) (by omega) p1 C8 keepJ (by rw [show (A8 37 2 k).toInt = (102 : Int32).toInt from U8.1]; decide) (fun h => absurd h (by decide)) (fun h => absurd h (by decide)) ht
    rw [Option.bind_some]
    exact ke F A8 J Fm8 Am8 Jm8 p a (by rw [k3]; decide)
end C4
