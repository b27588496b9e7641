/-! count: the same answers -/
section H9fl
variable {n m : Nat} {P : Nat → Nat → Nat} {F : Nat → Nat → Int32} {A : Nat → Nat → Nat → Int32} {J : Nat → Nat → Nat → Int64} {Fm : Nat → Int32} {Am : Nat → Nat → Int32} {Jm : Nat → Nat → Int64} {x x1 : Int32}
/-- the bits that are set, as the library counts them -/
def bcx (x : Int32) : Int32 := (e_Integer_bitCount (fun _ _ => 0) (fun _ _ => 0) (fun _ _ _ => 0) (fun _ _ _ => 0) x).getD 0
/-- .. and one by one -/
def btk (x : Int32) : Nat → Int32
  | 0 => 0
  | k + 1 => btk x k + ((x >>> (Int32.ofNat k &&& 31)) &&& 1)
theorem v_bcx : po (e_Integer_bitCount P F A J x) (fun v => v = bcx x) := fun v h => (Option.some.inj h).symm
theorem b_cnt0 : (List.range 64).all (fun i => (List.range 64).all (fun j => decide (bcx (Int32.ofNat (64 * i + j)) = btk (Int32.ofNat (64 * i + j)) 12))) = true := by decide +kernel
theorem b_cnt (h : B7 x) : bcx x = btk x 12 := by
  obtain ⟨k, hk, rfl⟩ := b7_nat h
  have z := of_decide_eq_true (List.all_eq_true.mp (List.all_eq_true.mp b_cnt0 (k / 64) (List.mem_range.mpr (by omega))) (k % 64) (List.mem_range.mpr (by omega)))
  rw [show 64 * (k / 64) + k % 64 = k by omega] at z
  exact z
theorem v_bits4 : ∀ {n k : Nat} {x1 x2 : Int32}, x1 = btk x k → x2 = Int32.ofNat k → k ≤ 12 → po (d_bits_4 n Fm Am Jm x x1 x2) (fun v => v = btk x 12) := by
  have l12 : (12 : Int32).toInt = 12 := by decide
  intro n
  induction n with
  | zero => intro k x1 x2 _ _ _ v hv; cases hv
  | succ n ih =>
    intro k x1 x2 e1 e2 hk
    have t2 : x2.toInt = (k : Int) := by rw [e2]; exact Int32.toInt_ofNat_of_lt (by omega)
    unfold d_bits_4
    refine po_cond (fun c => po_some ?_) (fun c => ?_)
    · rw [i_ge, l12] at c
      rw [e1, show k = 12 by omega]
    · rw [i_nge, l12] at c
      have e21 := i_p1 (x := x2) (by omega)
      refine ih (k := k + 1) ?_ (i_ext ?_) (by omega)
      · rw [e1, e2]
        rfl
      · rw [e21, t2, Int32.toInt_ofNat_of_lt (by omega)]
        omega
theorem v_bits : po (d_bits n Fm Am Jm x) (fun v => v = btk x 12) := by
  unfold d_bits
  exact v_bits4 (k := 0) rfl rfl (by decide)
theorem if01 {p q : Prop} [Decidable p] [Decidable q] (h : p ↔ q) : (if p then (0 : Int32) else 1) = if q then 0 else 1 := by
  by_cases c : p
  · rw [if_pos c, if_pos (h.mp c)]
  · rw [if_neg c, if_neg (fun e => c (h.mpr e))]
theorem b_held : ∀ n : Fin 8, bcx (Int32.ofNat n.val) = (if (Int32.ofNat n.val &&& (1 <<< (Int32.ofNat 0 &&& 31))) = 0 then 0 else 1) + (if (Int32.ofNat n.val &&& (1 <<< (Int32.ofNat 1 &&& 31))) = 0 then 0 else 1) + (if (Int32.ofNat n.val &&& (1 <<< (Int32.ofNat 2 &&& 31))) = 0 then 0 else 1) := by decide +kernel
theorem r_189 {s0 s1 : Int32} : po (d_count_189 n Fm Am Jm s0 s1) (fun b => b.1 = s0 + s1 + (if Am 61 2 = 0 then 0 else 1)) := by
  unfold d_count_189
  refine po_bl (fun v h => ?_)
  have e : v = Am 61 2 := (gg_ld h).2.2
  refine po_cond (fun c => po_some ?_) (fun c => po_some ?_)
  · rw [i_eq] at c
    rw [if_pos (e.symm.trans (i_ext c))]
  · rw [i_neq] at c
    rw [if_neg (fun z => c (by rw [e, z]))]
theorem r_175 {s0 : Int32} : po (d_count_175 n Fm Am Jm s0) (fun b => b.1 = s0 + (if Am 61 1 = 0 then 0 else 1) + (if Am 61 2 = 0 then 0 else 1)) := by
  unfold d_count_175
  refine po_bl (fun v h => ?_)
  have e : v = Am 61 1 := (gg_ld h).2.2
  refine po_cond (fun c => po_mono r_189 (fun b hb => ?_)) (fun c => po_mono r_189 (fun b hb => ?_))
  · rw [i_eq] at c
    rw [if_pos (e.symm.trans (i_ext c)), hb]
  · rw [i_neq] at c
    rw [if_neg (show ¬ Am 61 1 = 0 from fun z => c (by rw [e, z])), hb]
theorem p2_count (X : XR P F A Fm Am) (G : Gc P F A) (tp : TPx F A Fm Am) : P2 (e_SleepWork_count n P F A J x1) (d_count m Fm Am Jm x1) (fun a b => a = b.1) := by
  have N := X.1
  have C := X.2.1
  obtain ⟨y1, y2, y3, y4, y5, y6, y7⟩ := X.2.2.1.1
  unfold e_SleepWork_count d_count
  refine p2_dd (fun _ => ?_) (fun _ => ?_)
  · refine p2_bl (fun _ hk => ?_)
    obtain rfl := (gg_chk hk).2.symm
    refine p2_br (fun v h => p2_some ?_)
    exact (CX.rooms N.1).trans (gg_ld h).2.2.symm
  refine p2_dd (fun _ => ?_) (fun _ => ?_)
  · refine p2_bl (fun _ hk => ?_)
    obtain rfl := (gg_chk hk).2.symm
    refine p2_br (fun v h => p2_some ?_)
    exact N.1.2.1.trans (gg_ld h).2.2.symm
  refine p2_dd (fun _ => ?_) (fun _ => ?_)
  · refine p2_bl (fun _ hk => ?_)
    obtain rfl := (gg_chk hk).2.symm
    refine p2_br (fun v h => p2_some ?_)
    exact (CX.tools N.1).trans (gg_ld h).2.2.symm
  refine p2_dd (fun _ => ?_) (fun _ => ?_)
  · refine p2_bl (fun _ hk => ?_)
    obtain rfl := (gg_chk hk).2.symm
    exact p2_r v_tasksNow (fun v q => p2_some (i_ext (N.tks.trans q.symm)))
  refine p2_dd (fun _ => ?_) (fun _ => ?_)
  · refine p2_bl (fun _ hk => ?_)
    obtain rfl := (gg_chk hk).2.symm
    exact p2_r v_menNow (fun v q => p2_some (i_ext (N.men.trans q.symm)))
  refine p2_dd (fun _ => ?_) (fun _ => ?_)
  · refine p2_bl (fun _ hk => ?_)
    obtain rfl := (gg_chk hk).2.symm
    exact p2_br (fun v h => p2_some (i_ext (N.nn.trans (gm h).2.2.symm)))
  refine p2_dd (fun _ => ?_) (fun _ => ?_)
  · exact p2_br (fun v h => p2_some (i_ext (y6.trans (gm h).2.2.symm)))
  refine p2_dd (fun _ => ?_) (fun _ => ?_)
  · refine p2_l v_bcx (fun v8 q8 => p2_br (fun v9 h9 => p2_r v_bits (fun v10 q10 => p2_some ?_)))
    have e9 : v9 = F 2 7 := i_ext ((gm h9).2.2.trans y5.symm)
    show v8 = v10
    rw [q8, q10, e9]
    exact b_cnt y7.1
  refine p2_dd (fun _ => ?_) (fun _ => ?_)
  · refine p2_bl (fun _ hk => ?_)
    obtain rfl := (gg_chk hk).2.symm
    refine p2_r r_takes ?_
    rintro ⟨u, F4, A5, J6⟩ ⟨t1, cp⟩
    dsimp only at t1 cp ⊢
    obtain rfl : Fm = F4 := t1.symm
    obtain ⟨N5, B5, -, -, -⟩ := X.take cp
    refine p2_call (p2_worthAll N5 (fun k k0 k1 => B5.dn k0 k1)) ?_
    rintro v w e
    exact p2_some e
  refine p2_dd (fun _ => p2_some tp.1) (fun _ => ?_)
  refine p2_dd (fun _ => p2_some C.2.1) (fun _ => ?_)
  refine p2_dd (fun _ => p2_some C.1) (fun _ => ?_)
  refine p2_dd (fun _ => ?_) (fun _ => p2_some rfl)
  have r0 : 0 ≤ (F 0 10).toInt ∧ (F 0 10).toInt ≤ 7 := by
    have := G.1.1 0 10
    rw [show c_kind 0 = 0 by decide] at this
    exact this
  have cs : ∀ s : Nat, s < 3 → ((F 0 10 &&& (1 <<< (Int32.ofNat s &&& 31))) = 0 ↔ Am 61 s = 0) := fun s hs => by
    have c := C.2.2 s hs
    unfold HB at c
    exact ⟨fun e => Classical.byContradiction (fun hn => c.mpr hn e), fun e => Classical.byContradiction (fun hn => c.mp hn e)⟩
  refine p2_l v_bcx (fun v8 q8 => p2_br (fun v16 h16 => ?_))
  have e16 : v16 = Am 61 0 := (gg_ld h16).2.2
  have bh := b_held ⟨(F 0 10).toInt.toNat, by omega⟩
  have ex : F 0 10 = Int32.ofNat (F 0 10).toInt.toNat := i_nat r0.1
  dsimp only at bh
  rw [← ex, if01 (cs 0 (by decide)), if01 (cs 1 (by decide)), if01 (cs 2 (by decide))] at bh
  have fin : ∀ {s0 : Int32}, s0 = (if Am 61 0 = 0 then 0 else 1) → P2 (some v8) (d_count_175 m Fm Am Jm s0) (fun a b => a = b.1) := fun {s0} hs => p2_of (po_some (R := fun a => a = v8) rfl) r_175 (fun a b ha hb => by rw [ha, hb, q8, bh, hs])
  refine p2_cr (fun c => fin ?_) (fun c => fin ?_)
  · rw [i_eq] at c
    rw [if_pos (e16.symm.trans (i_ext c))]
  · rw [i_neq] at c
    rw [if_neg (fun z => c (by rw [e16, z]))]
end H9fl
