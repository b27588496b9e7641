/-! bars: runs that end; the row of what was seen is cleared -/
section S9g
variable {t : gT} {d M pc : Nat} {loc : List (Nat × Value)} {st : List Value} {c : Nat × Nat} {B : Nat → List gE} {P : Nat → Nat → Nat} {F : Nat → Nat → Int32} {A : Nat → Nat → Nat → Int32} {J : Nat → Nat → Nat → Int64} {j e : Nat} {f : Nat → Int64} {Q Q1 : Option Value × gH → Prop} {R : List Nat} {h h' : gH}
theorem kxB {pc' : Nat} {loc' : List (Nat × Value)} {st' : List Value} (n : Nat) (hb : k_blk t c_lg n M pc loc st h = some (pc', loc', st', h')) (k : kx t d M pc' loc' st' h' Q) : kx t d M pc loc st h Q := kxI (fun _ hz => k_runB n hb hz) k
theorem kxif {cd : Jvm.ClassFile.Cond} {off : Int} {tgt : Nat} {x : Int32} (hI : (k_mt M).2 pc = some (.ifCond cd off, [tgt])) (ht : g_cnd cd x 0 = true → kx t d M tgt loc st h Q) (hf : g_cnd cd x 0 = false → kx t d M (pc + 3) loc st h Q) : kx t d M pc loc (.int x :: st) h Q := by
  cases hc : g_cnd cd x 0 with
  | true => exact kxI (fun _ hz => k_if hI (fun _ => hz) (fun h2 => absurd (hc.symm.trans h2) (by decide))) (ht hc)
  | false => exact kxI (fun _ hz => k_if hI (fun h2 => absurd (hc.symm.trans h2) (by decide)) (fun _ => hz)) (hf hc)
theorem kxic {cd : Jvm.ClassFile.Cond} {off : Int} {tgt : Nat} {x y : Int32} (hI : (k_mt M).2 pc = some (.if_icmp cd off, [tgt])) (ht : g_cnd cd x y = true → kx t d M tgt loc st h Q) (hf : g_cnd cd x y = false → kx t d M (pc + 3) loc st h Q) : kx t d M pc loc (.int y :: .int x :: st) h Q := by
  cases hc : g_cnd cd x y with
  | true => exact kxI (fun _ hz => k_ic hI (fun _ => hz) (fun h2 => absurd (hc.symm.trans h2) (by decide))) (ht hc)
  | false => exact kxI (fun _ hz => k_ic hI (fun h2 => absurd (hc.symm.trans h2) (by decide)) (fun _ => hz)) (hf hc)
theorem kxV {ix M' na ci b : Nat} {fs as rest : List Value} (hI : (k_mt M).2 pc = some (.invokevirtual ix, [2, M', na, ci])) (hd : (st.drop na, (st.take na).reverse) = (.ref b :: rest, as)) (hn : Nat.ble na st.length = true) (hg : g_get h b = some (.inr (ci, fs))) (h8 : Nat.ble (g_sum rest) 8 = true) (hl : Nat.ble (lg_sl (.ref b :: as)).length (k_mt M').1.2.2.1 = true) (hc : kx t d M' 0 (lv_args 0 (.ref b :: as)) [] h Q1) (k : ∀ v h1, Q1 (v, h1) → kx t (d + 1) M (pc + 3) loc (v.toList ++ rest) h1 Q) : kx t (d + 1) M pc loc st h Q := by
  obtain ⟨⟨v, h1⟩, a, b⟩ := hc
  exact kxI (fun _ hz => k_runV hI hd hn hg h8 hl a hz) (k v h1 b)
theorem kxC {M' : Nat} {as rest : List Value} {I : Instr} (hI : (k_mt M).2 pc = some (I, R)) (hs : g_step t k_tb c_lg k_df (k_mt M).1.2.2.1 I R pc loc st h = none) (hv : g_ret (k_mt M).1.2.2.2 I st = none) (hi : g_inv k_tb.length k_mt I R st h = some (M', as, rest)) (hc : kx t d M' 0 (lv_args 0 as) [] h Q1) (k : ∀ v h1, Q1 (v, h1) → kx t (d + 1) M (pc + 3) loc (v.toList ++ rest) h1 Q) : kx t (d + 1) M pc loc st h Q := by
  obtain ⟨⟨v, h1⟩, a, b⟩ := hc
  exact kxI (fun _ hz => k_runC hI hs hv hi a hz) (k v h1 b)
theorem kxR {z : Option Value × gH} (a : k_run t c_lg d M pc loc st h z) (b : Q z) : kx t d M pc loc st h Q := ⟨z, a, b⟩
theorem kxwk (ks : List Nat) {loc' : List (Nat × Value)} (hs : (loc.filter fun q => ks.contains q.1) = loc') (hn : va_nd (loc.map (·.1)) = true) (k : kx t d M pc loc' st h Q) : kx t d M pc loc st h Q := kxI (fun _ hz => k_wk ks hs hn hz) k
theorem kx_seen {ix a : Nat} (hI : (k_mt M).2 pc = some (.getfield ix, [0, 9])) (hp : P 32 9 = a) (k : kx t d M (pc + 3) loc (.ref a :: st) (c_h c B P F A J) Q) : kx t d M pc loc (.ref (32 * 1024) :: st) (c_h c B P F A J) Q := by
  subst hp
  exact kxI (fun z hz => k_gf 32 0 (K := 7) rfl hI rfl rfl rfl hz) k
theorem lg39 {m : Nat} (h : m < 1024) : c_lg (340 + m) = 39936 + m := by
  unfold c_lg
  rw [if_neg (by omega), if_neg (by omega), if_pos (by omega)]
  omega
theorem kx_new {at_ : Jvm.ClassFile.ArrayType} {n : Int32} (hI : (k_mt M).2 pc = some (.newarray at_, [3])) (hc : c.1 = 340 + (B 39).length) (hl : (B 39).length < 1024) (h0 : 0 ≤ n.toInt) (h1 : n.toInt ≤ 100000) (k : kx t d M (pc + 2) loc (.ref (39936 + (B 39).length) :: st) (c_h (c.1 + 1, c.2 + n.toNatClampNeg) (va_up B 39 (B 39 ++ [jC n.toNatClampNeg (fun _ => 0)])) P F A J) Q) : kx t d M pc loc (.int n :: st) (c_h c B P F A J) Q := by
  refine kxI (fun z hz => k_runS hI ?_ hz) k
  have hin : ¬ (n < 0 ∨ 1000000 < n.toNatClampNeg) := by
    rintro (w | w)
    · have := Int32.lt_iff_toInt_lt.mp w
      have z0 : (0 : Int32).toInt = 0 := by decide
      omega
    · have : n.toNatClampNeg = n.toInt.toNat := rfl
      omega
  have hg : g_new c_lg k_df (.newarray at_) [3] (.int n :: st) (c_h c B P F A J) = some (.ref (39936 + (B 39).length) :: st, c_h (c.1 + 1, c.2 + n.toNatClampNeg) (va_up B 39 (B 39 ++ [jC n.toNatClampNeg (fun _ => 0)])) P F A J) := by
    unfold g_new
    simp only
    rw [if_neg hin]
    unfold g_push
    have e1 : c_lg (c_h c B P F A J).1.1 = 39936 + (B 39).length := by
      show c_lg c.1 = _
      rw [hc]
      exact lg39 hl
    have e2 : (39936 + (B 39).length) / 1024 = 39 := by omega
    have e3 : (39936 + (B 39).length) % 1024 = (B 39).length := by omega
    rw [e1, e2, e3]
    rw [if_pos (show (c_f B P F A J 39).length = (B 39).length from rfl)]
    refine congrArg some (Prod.ext rfl (Prod.ext rfl ?_))
    funext q
    show va_up (c_f B P F A J) 39 (c_f B P F A J 39 ++ [_]) q = c_f (va_up B 39 (B 39 ++ [_])) P F A J q
    by_cases hq : q = 39
    · subst hq
      rw [c_up_same]
      show B 39 ++ [_] = va_up B 39 (B 39 ++ [_]) 39
      rw [c_up_same]
    · rw [c_up_ne hq]
      unfold c_f
      rw [c_up_ne hq]
  unfold g_step
  rw [show g_pure (.newarray at_) (.int n :: st) = none from rfl, show g_loc (k_mt M).1.2.2.1 (.newarray at_) loc (.int n :: st) = none from rfl, show g_br (.newarray at_) [3] pc (.int n :: st) = none from rfl, show g_mem t (.newarray at_) [3] (.int n :: st) (c_h c B P F A J) = none from rfl, hg]
  rfl
theorem kx_pseen {ix a : Nat} (ht : ∀ ci k, t.1 ci k = k_ty ci k) (hI : (k_mt M).2 pc = some (.putfield ix, [0, 9])) (k : kx t d M (pc + 3) loc st (c_h c B (va_up P 32 (va_up (P 32) 9 a)) F A J) Q) : kx t d M pc loc (.ref a :: .ref (32 * 1024) :: st) (c_h c B P F A J) Q :=
  kxI (fun z hz => k_put hI ((c_get (r := 32) (o := 0) (K := 7) rfl (by decide)).trans rfl) (Nat.le_of_ble_eq_true rfl) (by rw [ht]; rfl) (c_set (r := 32) (o := 0) (K := 7) rfl (by decide) (by rw [c_up_same]; rfl) (fun q hq => ⟨c_up_ne hq, rfl, rfl, rfl⟩)) hz) k
/-- the row of what was seen -/
def SEb (c : Nat × Nat) (B : Nat → List gE) (P : Nat → Nat → Nat) (j e : Nat) : Prop := c.1 = 340 + (B 39).length ∧ (B 39).length = j + 1 ∧ P 32 9 = 39936 + j ∧ j + 1 ≤ e ∧ e ≤ 13 ∧ (∃ f, (B 39)[j]? = some (jC (2 ^ e) f)) ∧ c.2 ≤ 20126 + 2 * 2 ^ e
def SEc (c : Nat × Nat) (B : Nat → List gE) (P : Nat → Nat → Nat) : Prop := (c.1 = 340 ∧ B 39 = [] ∧ P 32 9 = 34816 ∧ c.2 ≤ 20126) ∨ ∃ j e, SEb c B P j e
theorem two_e (h : e ≤ 13) : 2 ^ e ≤ 8192 := Nat.pow_le_pow_right (by decide) h
theorem SEb.set {f' : Nat → Int64} (S : SEb c B P j e) : SEb c (va_up B 39 ((B 39).set j (jC (2 ^ e) f'))) P j e := by
  obtain ⟨a1, a2, a3, a4, a5, a6, a7⟩ := S
  refine ⟨?_, ?_, a3, a4, a5, ⟨f', ?_⟩, a7⟩
  · rw [c_up_same, List.length_set]; exact a1
  · rw [c_up_same, List.length_set]; exact a2
  · rw [c_up_same, List.getElem?_set_self (by omega)]
/-- nothing but the row was written -/
def b39 (B B' : Nat → List gE) : Prop := ∀ r, r ≠ 39 → B' r = B r
theorem b39_up {l : List gE} : b39 B (va_up B 39 l) := fun _ h => c_up_ne h
theorem b39.tr {B1 B2 : Nat → List gE} (h : b39 B B1) (h' : b39 B1 B2) : b39 B B2 := fun r hr => (h' r hr).trans (h r hr)
theorem b_fill_6 : ∀ {m : Nat} {B : Nat → List gE} {i : Int32}, SEb c B P j e → 0 ≤ i.toInt → i.toInt + m = (2 ^ e : Nat) → kx t d 267 6 [(0, .ref (39936 + j)), (1, .long 0), (3, .int i), (4, .int (Int32.ofNat (2 ^ e)))] [] (c_h c B P F A J) (fun z => ∃ B', z = (none, c_h c B' P F A J) ∧ SEb c B' P j e ∧ b39 B B') := by
  intro m
  induction m with
  | zero =>
    intro B i S i0 hi
    have := two_e S.2.2.2.2.1
    have el : (Int32.ofNat (2 ^ e)).toInt = (2 ^ e : Nat) := Int32.toInt_ofNat_of_lt (by omega)
    refine kxB (pc' := 9) (loc' := [(0, .ref (39936 + j)), (1, .long 0), (3, .int i), (4, .int (Int32.ofNat (2 ^ e)))]) (st' := [.int (Int32.ofNat (2 ^ e)), .int i]) 2 rfl ?_
    refine kxic rfl (fun _ => ?_) (fun hc => ?_)
    · exact kxR (k_vret rfl rfl) ⟨B, rfl, S, fun _ _ => rfl⟩
    · rw [i_nge] at hc
      omega
  | succ m ih =>
    intro B i S i0 hi
    have := two_e S.2.2.2.2.1
    have el : (Int32.ofNat (2 ^ e)).toInt = (2 ^ e : Nat) := Int32.toInt_ofNat_of_lt (by omega)
    have l1 : (1 : Int32).toInt = 1 := by decide
    have ei : (i + 1).toInt = i.toInt + 1 := by rw [i_add (by omega) (by omega), l1]
    refine kxB (pc' := 9) (loc' := [(0, .ref (39936 + j)), (1, .long 0), (3, .int i), (4, .int (Int32.ofNat (2 ^ e)))]) (st' := [.int (Int32.ofNat (2 ^ e)), .int i]) 2 rfl ?_
    refine kxic rfl (fun hc => ?_) (fun hc => ?_)
    · rw [i_ge] at hc
      omega
    · refine kxB (pc' := 15) (loc' := [(0, .ref (39936 + j)), (1, .long 0), (3, .int i), (4, .int (Int32.ofNat (2 ^ e)))]) (st' := [.long 0, .int i, .ref (39936 + j)]) 3 rfl ?_
      obtain ⟨f, hf⟩ := S.2.2.2.2.2.1
      have hj : j < 1024 := by have := S.2.2.2.1; have := S.2.2.2.2.1; omega
      refine k39_st rfl hf hj i0 (by omega) (fun f' => ?_)
      refine kxB (pc' := 6) (loc' := [(0, .ref (39936 + j)), (1, .long 0), (3, .int (i + 1)), (4, .int (Int32.ofNat (2 ^ e)))]) (st' := []) 2 rfl ?_
      obtain ⟨z, a, B', rfl, S', q⟩ := ih (i := i + 1) S.set (by omega) (by omega)
      exact ⟨_, a, B', rfl, S', b39_up.tr q⟩
theorem b_fill (S : SEb c B P j e) : kx t d 267 0 [(0, .ref (39936 + j)), (1, .long 0)] [] (c_h c B P F A J) (fun z => ∃ B', z = (none, c_h c B' P F A J) ∧ SEb c B' P j e ∧ b39 B B') := by
  obtain ⟨f, hf⟩ := S.2.2.2.2.2.1
  have hj : j < 1024 := by have := S.2.2.2.1; have := S.2.2.2.2.1; omega
  refine kxB (pc' := 3) (loc' := [(0, .ref (39936 + j)), (1, .long 0), (3, .int 0)]) (st' := [.ref (39936 + j)]) 3 rfl ?_
  refine k39_len rfl hf hj ?_
  refine kxB (pc' := 6) (loc' := [(0, .ref (39936 + j)), (1, .long 0), (3, .int 0), (4, .int (Int32.ofNat (2 ^ e)))]) (st' := []) 1 rfl ?_
  exact b_fill_6 (m := 2 ^ e) S (by decide) (by rw [show (0 : Int32).toInt = 0 by decide]; omega)
end S9g
