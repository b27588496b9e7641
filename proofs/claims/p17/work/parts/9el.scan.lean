theorem p256 {n m : Nat} (h : n ≤ m) : (256 : Int) ^ n ≤ 256 ^ m := by
  have := Nat.pow_le_pow_right (n := 256) (by decide) h
  have e : ∀ k : Nat, ((256 ^ k : Nat) : Int) = 256 ^ k := fun k => Int.natCast_pow 256 k
  rw [← e, ← e]
  exact Int.ofNat_le.mpr this
theorem p27 {n m : Nat} (h : n ≤ m) : (27 : Int) ^ n ≤ 27 ^ m := by
  have := Nat.pow_le_pow_right (n := 27) (by decide) h
  have e : ∀ k : Nat, ((27 ^ k : Nat) : Int) = 27 ^ k := fun k => Int.natCast_pow 27 k
  rw [← e, ← e]
  exact Int.ofNat_le.mpr this
section C3
variable {JW JK : Nat → Int64} {k : Nat} {p : Int} {P : Nat → Nat → Nat} {F F' F0 : Nat → Nat → Int32} {A A' : Nat → Nat → Nat → Int32} {J J' : Nat → Nat → Nat → Int64} {Fm Fm' : Nat → Int32} {Am Am' : Nat → Nat → Int32} {Jm Jm' : Nat → Nat → Int64} {xk x1 : Int32} {γ : Type} {Q : γ → mR Unit → Prop}
/-- nothing but the place in the text has changed -/
def F105 (F F' : Nat → Nat → Int32) : Prop := ∀ r q, ¬ (r = 37 ∧ q = 105) → F' r q = F r q
/-- the bytes of both sides -/
def BTx (A : Nat → Nat → Nat → Int32) (Fm : Nat → Int32) (Am : Nat → Nat → Int32) : Prop := ∀ i : Nat, (i : Int) < (Fm 4).toInt → A 1 1 i = Am 2 i ∧ -128 ≤ (Am 2 i).toInt ∧ (Am 2 i).toInt ≤ 127
/-- letters, on both sides -/
theorem p2_let {f : cR Unit → Option γ} {K7 : (Nat → Int32) → (Nat → Nat → Int32) → (Nat → Nat → Int64) → Int32 → Option (mR Unit)} (sz : F0 1 1 = Fm 4) (s1 : (Fm 4).toInt ≤ 2000) (bt : BTx A Fm Am) (hx : x1.toInt = p) (p0 : 0 ≤ p)
    (ks : ∀ (n' m' : Nat) (F' : Nat → Nat → Int32) (x3' x4' : Int64) (nn' : Int32), F105 F0 F' → 0 ≤ nn'.toInt → (F' 37 105).toInt = p + nn'.toInt → p + nn'.toInt ≤ (Fm 4).toInt → (p + nn'.toInt = (Fm 4).toInt ∨ ¬ (97 ≤ (Am 2 (p + nn'.toInt).toNat).toInt ∧ (Am 2 (p + nn'.toInt).toNat).toInt ≤ 122)) → (nn'.toInt ≤ 8 → TNl nn'.toInt.toNat x3'.toInt x4'.toInt) → P2 ((e_Scanner_scanLetters_57 n' P F' A J xk x3').bind f) (cond (g_cnd .le nn' 8) (d_cut_135 K7 m' Fm Am Jm x1 nn' x4' 1) (d_cut_135 K7 m' Fm Am Jm x1 nn' x4' 3)) Q) :
    ∀ {n m : Nat} {F : Nat → Nat → Int32} {x3 x4 : Int64} {nn : Int32}, F105 F0 F → 0 ≤ nn.toInt → (F 37 105).toInt = p + nn.toInt → p + nn.toInt ≤ (Fm 4).toInt → (nn.toInt ≤ 8 → TNl nn.toInt.toNat x3.toInt x4.toInt) → P2 ((e_Scanner_scanLetters_2 n P F A J xk x3).bind f) (d_cut_85 K7 m Fm Am Jm x1 nn x4) Q := by
  have l1 := i_1
  have l8 : (8 : Int32).toInt = 8 := by decide
  intro n
  induction n with
  | zero => intro m F x3 x4 nn _ _ _ _ _ a b ha _; cases ha
  | succ n ih =>
    intro m F x3 x4 nn fr n0 hp hs tn
    cases m with
    | zero => intro a b _ hb; cases hb
    | succ m =>
      have e11 : F 1 1 = Fm 4 := (fr 1 1 (by decide)).trans sz
      have ei := i_add (x := x1) (y := nn) (by omega) (by omega)
      unfold e_Scanner_scanLetters_2 d_cut_85
      by_cases c : p + nn.toInt < (Fm 4).toInt
      · have ib : (F 37 105).toInt.toNat = (x1 + nn).toInt.toNat := by omega
        have ip : (x1 + nn).toInt.toNat = (p + nn.toInt).toNat := by omega
        obtain ⟨b1, b2, b3⟩ := bt (p + nn.toInt).toNat (by omega)
        have bb := b255 b2 b3
        rw [i_nge.mpr (by rw [e11]; omega), cond_false, m_ld_in (by omega) (by omega), Option.bind_some, byte_in (by omega) (by omega) s1, Option.bind_some, ib, ip, b1]
        by_cases lt : 97 ≤ (Am 2 (p + nn.toInt).toNat).toInt ∧ (Am 2 (p + nn.toInt).toNat).toInt ≤ 122
        · rw [cl_l1 lt, Option.bind_some, cz_10, cond_false, Option.bind_some, dl_l1 (by omega), Option.bind_some, cz_10, cond_false, Option.bind_assoc]
          refine p2_bl (fun F6 e6 => ?_)
          have U6 := gg_cpf e6
          have fr6 : F105 F0 F6 := fun r q h => (U6.2 r q h).trans (fr r q h)
          have h6 : (F6 37 105).toInt = p + nn.toInt + 1 := by rw [U6.1, i_add (by omega) (by omega), i_1, hp]
          have e1 := i_add (x := nn) (y := 1) (by omega) (by omega)
          unfold d_cut_118
          refine p2_cr (fun c8 => ?_) (fun c8 => ?_)
          · rw [i_ge, l8] at c8
            exact ih fr6 (by omega) (by omega) (by omega) (fun h => by omega)
          · rw [i_nge, l8] at c8
            have t := tn (by omega)
            have tp := t.1.pos
            have pw := p256 (show nn.toInt.toNat ≤ 7 by omega)
            have pw27 := p27 (show nn.toInt.toNat ≤ 7 by omega)
            have k7 : (256 : Int) ^ 7 = 72057594037927936 := by decide
            have k27 : (27 : Int) ^ 7 = 10460353203 := by decide
            obtain ⟨z, ez, hz⟩ := ap27 (y := x4) (v := Am 2 (p + nn.toInt).toNat &&& 255) tp.2 (by have := t.2.2.1; omega) (by omega) (by omega)
            rw [Option.bind_some, ez, Option.bind_some]
            have hx3 := sh8 (y := x3) (v := Am 2 (p + nn.toInt).toNat) tp.1 (by have := t.2.1; omega) (by omega) (by omega)
            refine ih fr6 (by omega) (by omega) (by omega) (fun h => ?_)
            have en : (nn + 1).toInt.toNat = nn.toInt.toNat + 1 := by omega
            rw [en, hx3, hz]
            have ev : (Am 2 (p + nn.toInt).toNat &&& 255).toInt = (Am 2 (p + nn.toInt).toNat).toInt := by omega
            rw [ev]
            exact t.snoc lt.1 lt.2
        · rw [cl_l0 lt, Option.bind_some, cz_00, cond_true, Option.bind_some, dl_l0 (by omega), Option.bind_some, cz_00, cond_true]
          exact ks n m F x3 x4 nn fr n0 hp hs (.inr lt) tn
      · rw [i_ge.mpr (by rw [e11]; omega), cond_true, byte_out (by omega), Option.bind_some, dl_l0 (by decide), Option.bind_some, cz_00, cond_true]
        exact ks n m F x3 x4 nn fr n0 hp hs (.inl (by omega)) tn
/-- digits, on both sides -/
theorem p2_dig {f : cR Unit → Option γ} {K7 : (Nat → Int32) → (Nat → Nat → Int32) → (Nat → Nat → Int64) → Int32 → Option (mR Unit)} (sz : F0 1 1 = Fm 4) (s1 : (Fm 4).toInt ≤ 2000) (bt : BTx A Fm Am) (hx : x1.toInt = p) (p0 : 0 ≤ p)
    (ks : ∀ (n' m' : Nat) (F' : Nat → Nat → Int32) (x3' x4' : Int32) (nn' : Int32), F105 F0 F' → 0 ≤ nn'.toInt → (F' 37 105).toInt = p + nn'.toInt → p + nn'.toInt ≤ (Fm 4).toInt → (p + nn'.toInt = (Fm 4).toInt ∨ ¬ (48 ≤ (Am 2 (p + nn'.toInt).toNat).toInt ∧ (Am 2 (p + nn'.toInt).toNat).toInt ≤ 57)) → (nn'.toInt ≤ 4 → x3' = x4') → P2 ((e_Scanner_scanDigits_59 n' P F' A J xk x3').bind f) (cond (g_cnd .le nn' 4) (d_cut_261 K7 m' Fm Am Jm x1 nn' x4' 2) (d_cut_261 K7 m' Fm Am Jm x1 nn' x4' 3)) Q) :
    ∀ {n m : Nat} {F : Nat → Nat → Int32} {x3 x4 : Int32} {nn : Int32}, F105 F0 F → 0 ≤ nn.toInt → (F 37 105).toInt = p + nn.toInt → p + nn.toInt ≤ (Fm 4).toInt → (nn.toInt ≤ 4 → x3 = x4) → P2 ((e_Scanner_scanDigits_2 n P F A J xk x3).bind f) (d_cut_208 K7 m Fm Am Jm x1 nn x4) Q := by
  have l1 := i_1
  have l4 : (4 : Int32).toInt = 4 := by decide
  intro n
  induction n with
  | zero => intro m F x3 x4 nn _ _ _ _ _ a b ha _; cases ha
  | succ n ih =>
    intro m F x3 x4 nn fr n0 hp hs tn
    cases m with
    | zero => intro a b _ hb; cases hb
    | succ m =>
      have e11 : F 1 1 = Fm 4 := (fr 1 1 (by decide)).trans sz
      have ei := i_add (x := x1) (y := nn) (by omega) (by omega)
      unfold e_Scanner_scanDigits_2 d_cut_208
      by_cases c : p + nn.toInt < (Fm 4).toInt
      · have ib : (F 37 105).toInt.toNat = (x1 + nn).toInt.toNat := by omega
        have ip : (x1 + nn).toInt.toNat = (p + nn.toInt).toNat := by omega
        obtain ⟨b1, b2, b3⟩ := bt (p + nn.toInt).toNat (by omega)
        have bb := b255 b2 b3
        rw [i_nge.mpr (by rw [e11]; omega), cond_false, m_ld_in (by omega) (by omega), Option.bind_some, byte_in (by omega) (by omega) s1, Option.bind_some, ib, ip, b1]
        by_cases lt : 48 ≤ (Am 2 (p + nn.toInt).toNat).toInt ∧ (Am 2 (p + nn.toInt).toNat).toInt ≤ 57
        · rw [cl_d1 lt, Option.bind_some, cz_10, cond_false, Option.bind_some, dl_d1 (by omega), Option.bind_some, cz_10, cond_false, Option.bind_assoc]
          refine p2_bl (fun F6 e6 => ?_)
          have U6 := gg_cpf e6
          have fr6 : F105 F0 F6 := fun r q h => (U6.2 r q h).trans (fr r q h)
          have h6 : (F6 37 105).toInt = p + nn.toInt + 1 := by rw [U6.1, i_add (by omega) (by omega), i_1, hp]
          have e1 := i_add (x := nn) (y := 1) (by omega) (by omega)
          unfold d_cut_244
          refine p2_cr (fun c8 => ?_) (fun c8 => ?_)
          · rw [i_ge, l4] at c8
            exact ih fr6 (by omega) (by omega) (by omega) (fun h => by omega)
          · rw [i_nge, l4] at c8
            have t := tn (by omega)
            have ev : (Am 2 (p + nn.toInt).toNat &&& 255) = Am 2 (p + nn.toInt).toNat := i_ext (by omega)
            rw [Option.bind_some, ev]
            exact ih fr6 (by omega) (by omega) (by omega) (fun _ => by rw [t, Int32.mul_comm])
        · rw [cl_d0 lt, Option.bind_some, cz_00, cond_true, Option.bind_some, dl_d0 (by omega), Option.bind_some, cz_00, cond_true]
          exact ks n m F x3 x4 nn fr n0 hp hs (.inr lt) tn
      · rw [i_ge.mpr (by rw [e11]; omega), cond_true, byte_out (by omega), Option.bind_some, dl_d0 (by decide), Option.bind_some, cz_00, cond_true]
        exact ks n m F x3 x4 nn fr n0 hp hs (.inl (by omega)) tn
/-- a token has been put down on both sides -/
def AT (JW JK : Nat → Int64) (k : Nat) (p : Int) (F : Nat → Nat → Int32) (A : Nat → Nat → Nat → Int32) (J : Nat → Nat → Nat → Int64) (Fm : Nat → Int32) (Am : Nat → Nat → Int32) (Jm : Nat → Nat → Int64) : Prop := (F 1 1 = Fm 4) ∧ (0 ≤ (Fm 4).toInt) ∧ ((Fm 4).toInt ≤ 2000) ∧ (BTx A Fm Am) ∧ ((F 37 105).toInt = p) ∧ (0 ≤ p) ∧ (p ≤ (Fm 4).toInt) ∧ ((Fm 10).toInt = k + 1) ∧ (J 37 6 = JW) ∧ (Jm 7 = JK) ∧ (∀ j, j < k → TR j A J Am Jm ∧ LVm Am j) ∧ (TR k A J Am Jm) ∧ (∀ j, j < k → (Am 4 j).toInt < (Am 4 (j + 1)).toInt) ∧ ((Am 4 k).toInt < p ∨ (Am 3 k).toInt = 0)
theorem AT.sz {JW JK : Nat → Int64} {k : Nat} {p : Int} {F : Nat → Nat → Int32} {A : Nat → Nat → Nat → Int32} {J : Nat → Nat → Nat → Int64} {Fm : Nat → Int32} {Am : Nat → Nat → Int32} {Jm : Nat → Nat → Int64} (h_ : AT JW JK k p F A J Fm Am Jm) : F 1 1 = Fm 4 := h_.1
theorem AT.s0 {JW JK : Nat → Int64} {k : Nat} {p : Int} {F : Nat → Nat → Int32} {A : Nat → Nat → Nat → Int32} {J : Nat → Nat → Nat → Int64} {Fm : Nat → Int32} {Am : Nat → Nat → Int32} {Jm : Nat → Nat → Int64} (h_ : AT JW JK k p F A J Fm Am Jm) : 0 ≤ (Fm 4).toInt := h_.2.1
theorem AT.s1 {JW JK : Nat → Int64} {k : Nat} {p : Int} {F : Nat → Nat → Int32} {A : Nat → Nat → Nat → Int32} {J : Nat → Nat → Nat → Int64} {Fm : Nat → Int32} {Am : Nat → Nat → Int32} {Jm : Nat → Nat → Int64} (h_ : AT JW JK k p F A J Fm Am Jm) : (Fm 4).toInt ≤ 2000 := h_.2.2.1
theorem AT.bt {JW JK : Nat → Int64} {k : Nat} {p : Int} {F : Nat → Nat → Int32} {A : Nat → Nat → Nat → Int32} {J : Nat → Nat → Nat → Int64} {Fm : Nat → Int32} {Am : Nat → Nat → Int32} {Jm : Nat → Nat → Int64} (h_ : AT JW JK k p F A J Fm Am Jm) : BTx A Fm Am := h_.2.2.2.1
theorem AT.ps {JW JK : Nat → Int64} {k : Nat} {p : Int} {F : Nat → Nat → Int32} {A : Nat → Nat → Nat → Int32} {J : Nat → Nat → Nat → Int64} {Fm : Nat → Int32} {Am : Nat → Nat → Int32} {Jm : Nat → Nat → Int64} (h_ : AT JW JK k p F A J Fm Am Jm) : (F 37 105).toInt = p := h_.2.2.2.2.1
theorem AT.p0 {JW JK : Nat → Int64} {k : Nat} {p : Int} {F : Nat → Nat → Int32} {A : Nat → Nat → Nat → Int32} {J : Nat → Nat → Nat → Int64} {Fm : Nat → Int32} {Am : Nat → Nat → Int32} {Jm : Nat → Nat → Int64} (h_ : AT JW JK k p F A J Fm Am Jm) : 0 ≤ p := h_.2.2.2.2.2.1
theorem AT.p1 {JW JK : Nat → Int64} {k : Nat} {p : Int} {F : Nat → Nat → Int32} {A : Nat → Nat → Nat → Int32} {J : Nat → Nat → Nat → Int64} {Fm : Nat → Int32} {Am : Nat → Nat → Int32} {Jm : Nat → Nat → Int64} (h_ : AT JW JK k p F A J Fm Am Jm) : p ≤ (Fm 4).toInt := h_.2.2.2.2.2.2.1
theorem AT.fk {JW JK : Nat → Int64} {k : Nat} {p : Int} {F : Nat → Nat → Int32} {A : Nat → Nat → Nat → Int32} {J : Nat → Nat → Nat → Int64} {Fm : Nat → Int32} {Am : Nat → Nat → Int32} {Jm : Nat → Nat → Int64} (h_ : AT JW JK k p F A J Fm Am Jm) : (Fm 10).toInt = k + 1 := h_.2.2.2.2.2.2.2.1
theorem AT.jw {JW JK : Nat → Int64} {k : Nat} {p : Int} {F : Nat → Nat → Int32} {A : Nat → Nat → Nat → Int32} {J : Nat → Nat → Nat → Int64} {Fm : Nat → Int32} {Am : Nat → Nat → Int32} {Jm : Nat → Nat → Int64} (h_ : AT JW JK k p F A J Fm Am Jm) : J 37 6 = JW := h_.2.2.2.2.2.2.2.2.1
theorem AT.jk {JW JK : Nat → Int64} {k : Nat} {p : Int} {F : Nat → Nat → Int32} {A : Nat → Nat → Nat → Int32} {J : Nat → Nat → Nat → Int64} {Fm : Nat → Int32} {Am : Nat → Nat → Int32} {Jm : Nat → Nat → Int64} (h_ : AT JW JK k p F A J Fm Am Jm) : Jm 7 = JK := h_.2.2.2.2.2.2.2.2.2.1
theorem AT.tr {JW JK : Nat → Int64} {k : Nat} {p : Int} {F : Nat → Nat → Int32} {A : Nat → Nat → Nat → Int32} {J : Nat → Nat → Nat → Int64} {Fm : Nat → Int32} {Am : Nat → Nat → Int32} {Jm : Nat → Nat → Int64} (h_ : AT JW JK k p F A J Fm Am Jm) : ∀ j, j < k → TR j A J Am Jm ∧ LVm Am j := h_.2.2.2.2.2.2.2.2.2.2.1
theorem AT.tk {JW JK : Nat → Int64} {k : Nat} {p : Int} {F : Nat → Nat → Int32} {A : Nat → Nat → Nat → Int32} {J : Nat → Nat → Nat → Int64} {Fm : Nat → Int32} {Am : Nat → Nat → Int32} {Jm : Nat → Nat → Int64} (h_ : AT JW JK k p F A J Fm Am Jm) : TR k A J Am Jm := h_.2.2.2.2.2.2.2.2.2.2.2.1
theorem AT.up {JW JK : Nat → Int64} {k : Nat} {p : Int} {F : Nat → Nat → Int32} {A : Nat → Nat → Nat → Int32} {J : Nat → Nat → Nat → Int64} {Fm : Nat → Int32} {Am : Nat → Nat → Int32} {Jm : Nat → Nat → Int64} (h_ : AT JW JK k p F A J Fm Am Jm) : ∀ j, j < k → (Am 4 j).toInt < (Am 4 (j + 1)).toInt := h_.2.2.2.2.2.2.2.2.2.2.2.2.1
theorem AT.lp {JW JK : Nat → Int64} {k : Nat} {p : Int} {F : Nat → Nat → Int32} {A : Nat → Nat → Nat → Int32} {J : Nat → Nat → Nat → Int64} {Fm : Nat → Int32} {Am : Nat → Nat → Int32} {Jm : Nat → Nat → Int64} (h_ : AT JW JK k p F A J Fm Am Jm) : (Am 4 k).toInt < p ∨ (Am 3 k).toInt = 0 := h_.2.2.2.2.2.2.2.2.2.2.2.2.2
theorem AT.sc (a : AT JW JK k p F A J Fm Am Jm) (h : LVm Am k) : SC JW JK (k + 1) p F A J Fm Am Jm := by
  refine ⟨a.sz, a.s0, a.s1, a.bt, a.ps, a.p0, a.p1, by rw [a.fk]; omega, a.jw, a.jk, fun j hj => ?_, fun j hj => a.up j (by omega), fun j hj => ?_⟩
  · by_cases e : j < k
    · exact a.tr j e
    · have : j = k := by omega
      rw [this]; exact ⟨a.tk, h⟩
  · have : j = k := by omega
    rw [this]
    exact a.lp.resolve_right h.1
/-- class rows: a token more -/
def CTx (k : Nat) (A A' : Nat → Nat → Nat → Int32) : Prop := (∀ r o, ¬ (r = 37 ∧ (o = 2 ∨ o = 3 ∨ o = 4)) → A' r o = A r o) ∧ (∀ o j, j ≠ k → A' 37 o j = A 37 o j)
theorem CTx.of {o : Nat} {v : Int} (U : CUm A A' 37 o k v) (ho : o = 2 ∨ o = 3 ∨ o = 4) : CTx k A A' := by
  refine ⟨fun r q h => U.2.2 r q (fun e => h ⟨e.1, by rw [e.2]; exact ho⟩), fun q j hj => ?_⟩
  by_cases e : q = o
  · rw [e]
    exact i_ext (U.2.1 (j : Int) (by omega) (by omega))
  · rw [U.2.2 37 q (fun h => e h.2)]
theorem CTx.tr {A1 : Nat → Nat → Nat → Int32} (a : CTx k A A1) (b : CTx k A1 A') : CTx k A A' := ⟨fun r o h => (b.1 r o h).trans (a.1 r o h), fun o j h => (b.2 o j h).trans (a.2 o j h)⟩
theorem SC.at_ {p' q : Int} {kd pl vl : Int32} {nm : Int64} {r : mR Unit} (S : SC JW JK k p F A J Fm Am Jm) (hF : F105 F F') (hp : (F' 37 105).toInt = p') (hq0 : p ≤ q) (hpl : pl.toInt = q) (hq : q < p' ∨ kd.toInt = 0) (hp0 : q ≤ p') (hp1 : p' ≤ (Fm 4).toInt) (hA : CTx k A A') (hJ : (∀ r o, ¬ (r = 37 ∧ o = 5) → J' r o = J r o) ∧ (∀ j, j ≠ k → J' 37 5 j = J 37 5 j)) (t1 : KR (A' 37 2 k).toInt kd.toInt) (t2 : kd.toInt = 2 → A' 37 4 k = vl) (t3 : kd.toInt = 1 → TNi (J' 37 5 k).toInt nm.toInt) (hr : d_token Fm Am Jm kd pl vl nm = some r) : ∃ Fm' Am' Jm', r = ((), Fm', Am', Jm') ∧ Am' 3 k = kd ∧ AT JW JK k p' F' A' J' Fm' Am' Jm' := by
  obtain ⟨Fm', Am', Jm', rfl, z0, z1, h10, mF, mA, mJ, m3, m4, m5, m6, old⟩ := g_token hr
  have fk := S.fk
  have ek : (Fm 10).toInt.toNat = k := by omega
  rw [ek] at m3 m4 m5 m6
  have e4 : Fm' 4 = Fm 4 := mF 4 (by decide)
  have e2 : Am' 2 = Am 2 := mA 2 (by decide) (by decide) (by decide)
  have oj : ∀ j, j < k → TR j A' J' Am' Jm' ∧ LVm Am' j := by
    intro j hj
    obtain ⟨a, b⟩ := S.tr j hj
    obtain ⟨o3, o4, o5, o6⟩ := old j (by omega)
    unfold TR LVm
    rw [hA.2 2 j (by omega), hA.2 4 j (by omega), hJ.2 j (by omega), o3, o5, o6]
    exact ⟨a, b⟩
  refine ⟨Fm', Am', Jm', rfl, m3, ⟨?_, ?_, ?_, ?_, hp, ?_, ?_, ?_, ?_, ?_, oj, ?_, ?_, ?_⟩⟩
  · rw [hF 1 1 (by decide), e4]; exact S.sz
  · rw [e4]; exact S.s0
  · rw [e4]; exact S.s1
  · intro i hi
    rw [e4] at hi
    rw [hA.1 1 1 (by decide), e2]
    exact S.bt i hi
  · have := S.p0; omega
  · rw [e4]; exact hp1
  · rw [h10, fk]
  · rw [hJ.1 37 6 (by decide)]; exact S.jw
  · rw [mJ 7 (by decide)]; exact S.jk
  · refine ⟨by rw [m3]; exact t1, fun h => ?_, fun h => ?_⟩
    · rw [m3] at h; rw [m5]; exact t2 h
    · rw [m3] at h; rw [m6]; exact t3 h
  · intro j hj
    by_cases e : j + 1 < k
    · rw [(old j (by omega)).2.1, (old (j + 1) (by omega)).2.1]
      exact S.up j e
    · have e' : j + 1 = k := by omega
      rw [(old j (by omega)).2.1, e', m4, hpl]
      have := S.lp j e'
      omega
  · rw [m4, m3, hpl]
    exact hq
end C3
