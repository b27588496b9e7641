/-! the law's code over the invariant (printed by wip/wlaw.py) -/
section S9l
variable {xs : Nat → Int32} {L : Nat} {JW JK : Nat → Int64} {H : gH} {i : Int32} {Q : Option Value × gH → Prop}
set_option maxRecDepth 100000 in
theorem z_ht (ci k : Nat) : (k_t xs L).1 ci k = k_ty ci k := rfl
theorem kx_sc {d M pc : Nat} {R : List Nat} {loc : List (Nat × Value)} {st : List Value} {h : gH} {j : Int32} (hI : (k_mt M).2 pc = some (.iaload, R)) (h0 : 0 ≤ j.toInt) (h1 : j.toInt < (L : Int)) (k : kx (k_t xs L) d M (pc + 1) loc (.int (xs j.toNatClampNeg) :: st) h Q) : kx (k_t xs L) d M pc loc (.int j :: .float 0 :: st) h Q := by
  refine kxI (fun z hz => k_memS hI rfl rfl rfl ?_ hz) k
  show (if j < 0 ∨ L ≤ j.toNatClampNeg then none else some (.int (xs j.toNatClampNeg) :: st, h)) = _
  rw [if_neg (i_in h0 h1)]
/-- where a case comes to -/
def ZK (JW JK : Nat → Int64) (xs : Nat → Int32) (L : Nat) (i : Int32) (Q : Option Value × gH → Prop) : Prop := ∀ {H : gH}, W4 JW JK H → kx (k_t xs L) 41 271 1138 [(0, .float 0), (1, .ref 0), (2, .ref 40960), (3, .int i)] [] H Q
set_option maxRecDepth 100000 in
theorem z_i {c : Int32} (i0 : 0 ≤ i.toInt) (i6 : i.toInt ≤ 100000) (c0 : 0 ≤ c.toInt) (c1 : c.toInt ≤ 6) : (i + c).toInt = i.toInt + c.toInt := i_add (by omega) (by omega)
set_option maxRecDepth 100000 in
theorem z_0 (hW : WKx JW JK) (W : W4 JW JK H) (i0 : 0 ≤ i.toInt) (i6 : i.toInt + 6 ≤ (L : Int)) (hL : L ≤ 3072) (K : ZK JW JK xs L i Q) : kx (k_t xs L) 41 271 176 [(0, .float 0), (1, .ref 0), (2, .ref 40960), (3, .int i)] [] H Q := by
  have e1 : (i + 1).toInt = i.toInt + 1 := z_i i0 (by omega) (by decide) (by decide)
  have e2 : (i + 2).toInt = i.toInt + 2 := z_i i0 (by omega) (by decide) (by decide)
  have e3 : (i + 3).toInt = i.toInt + 3 := z_i i0 (by omega) (by decide) (by decide)
  have e4 : (i + 4).toInt = i.toInt + 4 := z_i i0 (by omega) (by decide) (by decide)
  have e5 : (i + 5).toInt = i.toInt + 5 := z_i i0 (by omega) (by decide) (by decide)
  refine kxB (pc' := 181) (loc' := [(0, .float 0), (1, .ref 0), (2, .ref 40960), (3, .int i)]) (st' := [.int (i + 1), .float 0, .ref 0]) 5 rfl ?_
  refine kx_sc rfl (by omega) (by omega) ?_
  refine kxB (pc' := 186) (loc' := [(0, .float 0), (1, .ref 0), (2, .ref 40960), (3, .int i)]) (st' := [.int (i + 2), .float 0, .int (xs (i + 1).toNatClampNeg), .ref 0]) 4 rfl ?_
  refine kx_sc rfl (by omega) (by omega) ?_
  refine kxB (pc' := 191) (loc' := [(0, .float 0), (1, .ref 0), (2, .ref 40960), (3, .int i)]) (st' := [.int (i + 3), .float 0, .int (xs (i + 2).toNatClampNeg), .int (xs (i + 1).toNatClampNeg), .ref 0]) 4 rfl ?_
  refine kx_sc rfl (by omega) (by omega) ?_
  refine kxB (pc' := 196) (loc' := [(0, .float 0), (1, .ref 0), (2, .ref 40960), (3, .int i)]) (st' := [.int (i + 4), .float 0, .int (xs (i + 3).toNatClampNeg), .int (xs (i + 2).toNatClampNeg), .int (xs (i + 1).toNatClampNeg), .ref 0]) 4 rfl ?_
  refine kx_sc rfl (by omega) (by omega) ?_
  refine kxB (pc' := 201) (loc' := [(0, .float 0), (1, .ref 0), (2, .ref 40960), (3, .int i)]) (st' := [.int (i + 5), .float 0, .int (xs (i + 4).toNatClampNeg), .int (xs (i + 3).toNatClampNeg), .int (xs (i + 2).toNatClampNeg), .int (xs (i + 1).toNatClampNeg), .ref 0]) 4 rfl ?_
  refine kx_sc rfl (by omega) (by omega) ?_
  obtain ⟨fs, g0⟩ := W.g0
  refine kxV rfl rfl rfl g0 rfl rfl (w_c_feed z_ht W) ?_
  rintro v h1 ⟨v1, H1, e, W1⟩
  cases e
  refine kxB (pc' := 211) (loc' := [(0, .float 0), (1, .ref 0), (2, .ref 40960), (3, .int i)]) (st' := [.int (i + 1), .float 0, .ref 40960]) 6 rfl ?_
  refine kx_sc rfl (by omega) (by omega) ?_
  refine kxB (pc' := 216) (loc' := [(0, .float 0), (1, .ref 0), (2, .ref 40960), (3, .int i)]) (st' := [.int (i + 2), .float 0, .int (xs (i + 1).toNatClampNeg), .ref 40960]) 4 rfl ?_
  refine kx_sc rfl (by omega) (by omega) ?_
  refine kxB (pc' := 221) (loc' := [(0, .float 0), (1, .ref 0), (2, .ref 40960), (3, .int i)]) (st' := [.int (i + 3), .float 0, .int (xs (i + 2).toNatClampNeg), .int (xs (i + 1).toNatClampNeg), .ref 40960]) 4 rfl ?_
  refine kx_sc rfl (by omega) (by omega) ?_
  refine kxB (pc' := 226) (loc' := [(0, .float 0), (1, .ref 0), (2, .ref 40960), (3, .int i)]) (st' := [.int (i + 4), .float 0, .int (xs (i + 3).toNatClampNeg), .int (xs (i + 2).toNatClampNeg), .int (xs (i + 1).toNatClampNeg), .ref 40960]) 4 rfl ?_
  refine kx_sc rfl (by omega) (by omega) ?_
  refine kxB (pc' := 231) (loc' := [(0, .float 0), (1, .ref 0), (2, .ref 40960), (3, .int i)]) (st' := [.int (i + 5), .float 0, .int (xs (i + 4).toNatClampNeg), .int (xs (i + 3).toNatClampNeg), .int (xs (i + 2).toNatClampNeg), .int (xs (i + 1).toNatClampNeg), .ref 40960]) 4 rfl ?_
  refine kx_sc rfl (by omega) (by omega) ?_
  obtain ⟨fs1, g1⟩ := W1.g1
  refine kxV rfl rfl rfl g1 rfl rfl (w_d_feed z_ht W1) ?_
  rintro v h1 ⟨v2, H2, e, W2, q2⟩
  cases e
  refine kxB (pc' := 1138) (loc' := [(0, .float 0), (1, .ref 0), (2, .ref 40960), (3, .int i)]) (st' := []) 2 rfl ?_
  exact K W2
set_option maxRecDepth 100000 in
theorem z_1 (hW : WKx JW JK) (W : W4 JW JK H) (i0 : 0 ≤ i.toInt) (i6 : i.toInt + 6 ≤ (L : Int)) (hL : L ≤ 3072) (K : ZK JW JK xs L i Q) : kx (k_t xs L) 41 271 239 [(0, .float 0), (1, .ref 0), (2, .ref 40960), (3, .int i)] [] H Q := by
  have e1 : (i + 1).toInt = i.toInt + 1 := z_i i0 (by omega) (by decide) (by decide)
  refine kxB (pc' := 244) (loc' := [(0, .float 0), (1, .ref 0), (2, .ref 40960), (3, .int i)]) (st' := [.int (i + 1), .float 0, .ref 0]) 5 rfl ?_
  refine kx_sc rfl (by omega) (by omega) ?_
  obtain ⟨fs, g0⟩ := W.g0
  refine kxV rfl rfl rfl g0 rfl rfl (w_c_back z_ht W) ?_
  rintro v h1 ⟨v1, H1, e, W1⟩
  cases e
  refine kxB (pc' := 254) (loc' := [(0, .float 0), (1, .ref 0), (2, .ref 40960), (3, .int i)]) (st' := [.int (i + 1), .float 0, .ref 40960]) 6 rfl ?_
  refine kx_sc rfl (by omega) (by omega) ?_
  obtain ⟨fs1, g1⟩ := W1.g1
  refine kxV rfl rfl rfl g1 rfl rfl (w_d_back z_ht W1) ?_
  rintro v h1 ⟨v2, H2, e, W2, q2⟩
  cases e
  refine kxB (pc' := 1138) (loc' := [(0, .float 0), (1, .ref 0), (2, .ref 40960), (3, .int i)]) (st' := []) 2 rfl ?_
  exact K W2
set_option maxRecDepth 100000 in
theorem z_2 (hW : WKx JW JK) (W : W4 JW JK H) (i0 : 0 ≤ i.toInt) (i6 : i.toInt + 6 ≤ (L : Int)) (hL : L ≤ 3072) (K : ZK JW JK xs L i Q) : kx (k_t xs L) 41 271 262 [(0, .float 0), (1, .ref 0), (2, .ref 40960), (3, .int i)] [] H Q := by
  refine kxB (pc' := 263) (loc' := [(0, .float 0), (1, .ref 0), (2, .ref 40960), (3, .int i)]) (st' := [.ref 0]) 1 rfl ?_
  obtain ⟨fs, g0⟩ := W.g0
  refine kxV rfl rfl rfl g0 rfl rfl (w_c_read z_ht W) ?_
  rintro v h1 ⟨v1, H1, e, W1⟩
  cases e
  refine kxB (pc' := 268) (loc' := [(0, .float 0), (1, .ref 0), (2, .ref 40960), (3, .int i)]) (st' := [.ref 40960]) 2 rfl ?_
  obtain ⟨fs1, g1⟩ := W1.g1
  refine kxV rfl rfl rfl g1 rfl rfl (w_d_read hW z_ht W1) ?_
  rintro v h1 ⟨v2, H2, e, W2, q2⟩
  cases e
  refine kxB (pc' := 1138) (loc' := [(0, .float 0), (1, .ref 0), (2, .ref 40960), (3, .int i)]) (st' := []) 2 rfl ?_
  exact K W2
set_option maxRecDepth 100000 in
theorem z_3 (hW : WKx JW JK) (W : W4 JW JK H) (i0 : 0 ≤ i.toInt) (i6 : i.toInt + 6 ≤ (L : Int)) (hL : L ≤ 3072) (K : ZK JW JK xs L i Q) : kx (k_t xs L) 41 271 275 [(0, .float 0), (1, .ref 0), (2, .ref 40960), (3, .int i)] [] H Q := by
  refine kxB (pc' := 276) (loc' := [(0, .float 0), (1, .ref 0), (2, .ref 40960), (3, .int i)]) (st' := [.ref 0]) 1 rfl ?_
  obtain ⟨fs, g0⟩ := W.g0
  refine kxV rfl rfl rfl g0 rfl rfl (w_c_place z_ht W) ?_
  rintro v h1 ⟨v1, H1, e, W1⟩
  cases e
  refine kxB (pc' := 281) (loc' := [(0, .float 0), (1, .ref 0), (2, .ref 40960), (3, .int i)]) (st' := [.ref 40960]) 2 rfl ?_
  obtain ⟨fs1, g1⟩ := W1.g1
  refine kxV rfl rfl rfl g1 rfl rfl (w_d_place z_ht W1) ?_
  rintro v h1 ⟨v2, H2, e, W2⟩
  cases e
  refine kxB (pc' := 1138) (loc' := [(0, .float 0), (1, .ref 0), (2, .ref 40960), (3, .int i)]) (st' := []) 2 rfl ?_
  exact K W2
set_option maxRecDepth 100000 in
theorem z_4 (hW : WKx JW JK) (W : W4 JW JK H) (i0 : 0 ≤ i.toInt) (i6 : i.toInt + 6 ≤ (L : Int)) (hL : L ≤ 3072) (K : ZK JW JK xs L i Q) : kx (k_t xs L) 41 271 288 [(0, .float 0), (1, .ref 0), (2, .ref 40960), (3, .int i)] [] H Q := by
  have e1 : (i + 1).toInt = i.toInt + 1 := z_i i0 (by omega) (by decide) (by decide)
  have e2 : (i + 2).toInt = i.toInt + 2 := z_i i0 (by omega) (by decide) (by decide)
  refine kxB (pc' := 293) (loc' := [(0, .float 0), (1, .ref 0), (2, .ref 40960), (3, .int i)]) (st' := [.int (i + 1), .float 0, .ref 0]) 5 rfl ?_
  refine kx_sc rfl (by omega) (by omega) ?_
  refine kxB (pc' := 298) (loc' := [(0, .float 0), (1, .ref 0), (2, .ref 40960), (3, .int i)]) (st' := [.int (i + 2), .float 0, .int (xs (i + 1).toNatClampNeg), .ref 0]) 4 rfl ?_
  refine kx_sc rfl (by omega) (by omega) ?_
  obtain ⟨fs, g0⟩ := W.g0
  refine kxV rfl rfl rfl g0 rfl rfl (w_c_task z_ht W) ?_
  rintro v h1 ⟨v1, H1, e, W1⟩
  cases e
  refine kxB (pc' := 308) (loc' := [(0, .float 0), (1, .ref 0), (2, .ref 40960), (3, .int i)]) (st' := [.int (i + 1), .float 0, .ref 40960]) 6 rfl ?_
  refine kx_sc rfl (by omega) (by omega) ?_
  refine kxB (pc' := 313) (loc' := [(0, .float 0), (1, .ref 0), (2, .ref 40960), (3, .int i)]) (st' := [.int (i + 2), .float 0, .int (xs (i + 1).toNatClampNeg), .ref 40960]) 4 rfl ?_
  refine kx_sc rfl (by omega) (by omega) ?_
  obtain ⟨fs1, g1⟩ := W1.g1
  refine kxV rfl rfl rfl g1 rfl rfl (w_d_task z_ht W1) ?_
  rintro v h1 ⟨v2, H2, e, W2⟩
  cases e
  refine kxB (pc' := 1138) (loc' := [(0, .float 0), (1, .ref 0), (2, .ref 40960), (3, .int i)]) (st' := []) 2 rfl ?_
  exact K W2
set_option maxRecDepth 100000 in
theorem z_5 (hW : WKx JW JK) (W : W4 JW JK H) (i0 : 0 ≤ i.toInt) (i6 : i.toInt + 6 ≤ (L : Int)) (hL : L ≤ 3072) (K : ZK JW JK xs L i Q) : kx (k_t xs L) 41 271 321 [(0, .float 0), (1, .ref 0), (2, .ref 40960), (3, .int i)] [] H Q := by
  have e1 : (i + 1).toInt = i.toInt + 1 := z_i i0 (by omega) (by decide) (by decide)
  have e2 : (i + 2).toInt = i.toInt + 2 := z_i i0 (by omega) (by decide) (by decide)
  have e3 : (i + 3).toInt = i.toInt + 3 := z_i i0 (by omega) (by decide) (by decide)
  refine kxB (pc' := 326) (loc' := [(0, .float 0), (1, .ref 0), (2, .ref 40960), (3, .int i)]) (st' := [.int (i + 1), .float 0, .ref 0]) 5 rfl ?_
  refine kx_sc rfl (by omega) (by omega) ?_
  refine kxB (pc' := 331) (loc' := [(0, .float 0), (1, .ref 0), (2, .ref 40960), (3, .int i)]) (st' := [.int (i + 2), .float 0, .int (xs (i + 1).toNatClampNeg), .ref 0]) 4 rfl ?_
  refine kx_sc rfl (by omega) (by omega) ?_
  refine kxB (pc' := 336) (loc' := [(0, .float 0), (1, .ref 0), (2, .ref 40960), (3, .int i)]) (st' := [.int (i + 3), .float 0, .int (xs (i + 2).toNatClampNeg), .int (xs (i + 1).toNatClampNeg), .ref 0]) 4 rfl ?_
  refine kx_sc rfl (by omega) (by omega) ?_
  obtain ⟨fs, g0⟩ := W.g0
  refine kxV rfl rfl rfl g0 rfl rfl (w_c_step z_ht W) ?_
  rintro v h1 ⟨v1, H1, e, W1⟩
  cases e
  refine kxB (pc' := 346) (loc' := [(0, .float 0), (1, .ref 0), (2, .ref 40960), (3, .int i)]) (st' := [.int (i + 1), .float 0, .ref 40960]) 6 rfl ?_
  refine kx_sc rfl (by omega) (by omega) ?_
  refine kxB (pc' := 351) (loc' := [(0, .float 0), (1, .ref 0), (2, .ref 40960), (3, .int i)]) (st' := [.int (i + 2), .float 0, .int (xs (i + 1).toNatClampNeg), .ref 40960]) 4 rfl ?_
  refine kx_sc rfl (by omega) (by omega) ?_
  refine kxB (pc' := 356) (loc' := [(0, .float 0), (1, .ref 0), (2, .ref 40960), (3, .int i)]) (st' := [.int (i + 3), .float 0, .int (xs (i + 2).toNatClampNeg), .int (xs (i + 1).toNatClampNeg), .ref 40960]) 4 rfl ?_
  refine kx_sc rfl (by omega) (by omega) ?_
  obtain ⟨fs1, g1⟩ := W1.g1
  refine kxV rfl rfl rfl g1 rfl rfl (w_d_step z_ht W1) ?_
  rintro v h1 ⟨v2, H2, e, W2⟩
  cases e
  refine kxB (pc' := 1138) (loc' := [(0, .float 0), (1, .ref 0), (2, .ref 40960), (3, .int i)]) (st' := []) 2 rfl ?_
  exact K W2
set_option maxRecDepth 100000 in
theorem z_6 (hW : WKx JW JK) (W : W4 JW JK H) (i0 : 0 ≤ i.toInt) (i6 : i.toInt + 6 ≤ (L : Int)) (hL : L ≤ 3072) (K : ZK JW JK xs L i Q) : kx (k_t xs L) 41 271 364 [(0, .float 0), (1, .ref 0), (2, .ref 40960), (3, .int i)] [] H Q := by
  have e1 : (i + 1).toInt = i.toInt + 1 := z_i i0 (by omega) (by decide) (by decide)
  have e2 : (i + 2).toInt = i.toInt + 2 := z_i i0 (by omega) (by decide) (by decide)
  refine kxB (pc' := 369) (loc' := [(0, .float 0), (1, .ref 0), (2, .ref 40960), (3, .int i)]) (st' := [.int (i + 1), .float 0, .ref 0]) 5 rfl ?_
  refine kx_sc rfl (by omega) (by omega) ?_
  refine kxB (pc' := 374) (loc' := [(0, .float 0), (1, .ref 0), (2, .ref 40960), (3, .int i)]) (st' := [.int (i + 2), .float 0, .int (xs (i + 1).toNatClampNeg), .ref 0]) 4 rfl ?_
  refine kx_sc rfl (by omega) (by omega) ?_
  obtain ⟨fs, g0⟩ := W.g0
  refine kxV rfl rfl rfl g0 rfl rfl (w_c_man z_ht W) ?_
  rintro v h1 ⟨v1, H1, e, W1⟩
  cases e
  refine kxB (pc' := 384) (loc' := [(0, .float 0), (1, .ref 0), (2, .ref 40960), (3, .int i)]) (st' := [.int (i + 1), .float 0, .ref 40960]) 6 rfl ?_
  refine kx_sc rfl (by omega) (by omega) ?_
  refine kxB (pc' := 389) (loc' := [(0, .float 0), (1, .ref 0), (2, .ref 40960), (3, .int i)]) (st' := [.int (i + 2), .float 0, .int (xs (i + 1).toNatClampNeg), .ref 40960]) 4 rfl ?_
  refine kx_sc rfl (by omega) (by omega) ?_
  obtain ⟨fs1, g1⟩ := W1.g1
  refine kxV rfl rfl rfl g1 rfl rfl (w_d_man z_ht W1) ?_
  rintro v h1 ⟨v2, H2, e, W2⟩
  cases e
  refine kxB (pc' := 1138) (loc' := [(0, .float 0), (1, .ref 0), (2, .ref 40960), (3, .int i)]) (st' := []) 2 rfl ?_
  exact K W2
set_option maxRecDepth 100000 in
theorem z_7 (hW : WKx JW JK) (W : W4 JW JK H) (i0 : 0 ≤ i.toInt) (i6 : i.toInt + 6 ≤ (L : Int)) (hL : L ≤ 3072) (K : ZK JW JK xs L i Q) : kx (k_t xs L) 41 271 397 [(0, .float 0), (1, .ref 0), (2, .ref 40960), (3, .int i)] [] H Q := by
  have e1 : (i + 1).toInt = i.toInt + 1 := z_i i0 (by omega) (by decide) (by decide)
  refine kxB (pc' := 402) (loc' := [(0, .float 0), (1, .ref 0), (2, .ref 40960), (3, .int i)]) (st' := [.int (i + 1), .float 0, .ref 0]) 5 rfl ?_
  refine kx_sc rfl (by omega) (by omega) ?_
  obtain ⟨fs, g0⟩ := W.g0
  refine kxV rfl rfl rfl g0 rfl rfl (w_c_tool z_ht W) ?_
  rintro v h1 ⟨v1, H1, e, W1⟩
  cases e
  refine kxB (pc' := 412) (loc' := [(0, .float 0), (1, .ref 0), (2, .ref 40960), (3, .int i)]) (st' := [.int (i + 1), .float 0, .ref 40960]) 6 rfl ?_
  refine kx_sc rfl (by omega) (by omega) ?_
  obtain ⟨fs1, g1⟩ := W1.g1
  refine kxV rfl rfl rfl g1 rfl rfl (w_d_tool z_ht W1) ?_
  rintro v h1 ⟨v2, H2, e, W2⟩
  cases e
  refine kxB (pc' := 1138) (loc' := [(0, .float 0), (1, .ref 0), (2, .ref 40960), (3, .int i)]) (st' := []) 2 rfl ?_
  exact K W2
set_option maxRecDepth 100000 in
theorem z_8 (hW : WKx JW JK) (W : W4 JW JK H) (i0 : 0 ≤ i.toInt) (i6 : i.toInt + 6 ≤ (L : Int)) (hL : L ≤ 3072) (K : ZK JW JK xs L i Q) : kx (k_t xs L) 41 271 420 [(0, .float 0), (1, .ref 0), (2, .ref 40960), (3, .int i)] [] H Q := by
  have e1 : (i + 1).toInt = i.toInt + 1 := z_i i0 (by omega) (by decide) (by decide)
  have e2 : (i + 2).toInt = i.toInt + 2 := z_i i0 (by omega) (by decide) (by decide)
  refine kxB (pc' := 425) (loc' := [(0, .float 0), (1, .ref 0), (2, .ref 40960), (3, .int i)]) (st' := [.int (i + 1), .float 0, .ref 0]) 5 rfl ?_
  refine kx_sc rfl (by omega) (by omega) ?_
  refine kxB (pc' := 430) (loc' := [(0, .float 0), (1, .ref 0), (2, .ref 40960), (3, .int i)]) (st' := [.int (i + 2), .float 0, .int (xs (i + 1).toNatClampNeg), .ref 0]) 4 rfl ?_
  refine kx_sc rfl (by omega) (by omega) ?_
  obtain ⟨fs, g0⟩ := W.g0
  refine kxV rfl rfl rfl g0 rfl rfl (w_c_way z_ht W) ?_
  rintro v h1 ⟨v1, H1, e, W1⟩
  cases e
  refine kxB (pc' := 440) (loc' := [(0, .float 0), (1, .ref 0), (2, .ref 40960), (3, .int i)]) (st' := [.int (i + 1), .float 0, .ref 40960]) 6 rfl ?_
  refine kx_sc rfl (by omega) (by omega) ?_
  refine kxB (pc' := 445) (loc' := [(0, .float 0), (1, .ref 0), (2, .ref 40960), (3, .int i)]) (st' := [.int (i + 2), .float 0, .int (xs (i + 1).toNatClampNeg), .ref 40960]) 4 rfl ?_
  refine kx_sc rfl (by omega) (by omega) ?_
  obtain ⟨fs1, g1⟩ := W1.g1
  refine kxV rfl rfl rfl g1 rfl rfl (w_d_way z_ht W1) ?_
  rintro v h1 ⟨v2, H2, e, W2⟩
  cases e
  refine kxB (pc' := 1138) (loc' := [(0, .float 0), (1, .ref 0), (2, .ref 40960), (3, .int i)]) (st' := []) 2 rfl ?_
  exact K W2
set_option maxRecDepth 100000 in
theorem z_9 (hW : WKx JW JK) (W : W4 JW JK H) (i0 : 0 ≤ i.toInt) (i6 : i.toInt + 6 ≤ (L : Int)) (hL : L ≤ 3072) (K : ZK JW JK xs L i Q) : kx (k_t xs L) 41 271 453 [(0, .float 0), (1, .ref 0), (2, .ref 40960), (3, .int i)] [] H Q := by
  have e1 : (i + 1).toInt = i.toInt + 1 := z_i i0 (by omega) (by decide) (by decide)
  have e2 : (i + 2).toInt = i.toInt + 2 := z_i i0 (by omega) (by decide) (by decide)
  have e3 : (i + 3).toInt = i.toInt + 3 := z_i i0 (by omega) (by decide) (by decide)
  refine kxB (pc' := 458) (loc' := [(0, .float 0), (1, .ref 0), (2, .ref 40960), (3, .int i)]) (st' := [.int (i + 1), .float 0, .ref 0]) 5 rfl ?_
  refine kx_sc rfl (by omega) (by omega) ?_
  refine kxB (pc' := 463) (loc' := [(0, .float 0), (1, .ref 0), (2, .ref 40960), (3, .int i)]) (st' := [.int (i + 2), .float 0, .int (xs (i + 1).toNatClampNeg), .ref 0]) 4 rfl ?_
  refine kx_sc rfl (by omega) (by omega) ?_
  refine kxB (pc' := 468) (loc' := [(0, .float 0), (1, .ref 0), (2, .ref 40960), (3, .int i)]) (st' := [.int (i + 3), .float 0, .int (xs (i + 2).toNatClampNeg), .int (xs (i + 1).toNatClampNeg), .ref 0]) 4 rfl ?_
  refine kx_sc rfl (by omega) (by omega) ?_
  obtain ⟨fs, g0⟩ := W.g0
  refine kxV rfl rfl rfl g0 rfl rfl (w_c_leave z_ht W) ?_
  rintro v h1 ⟨v1, H1, e, W1⟩
  cases e
  refine kxB (pc' := 478) (loc' := [(0, .float 0), (1, .ref 0), (2, .ref 40960), (3, .int i)]) (st' := [.int (i + 1), .float 0, .ref 40960]) 6 rfl ?_
  refine kx_sc rfl (by omega) (by omega) ?_
  refine kxB (pc' := 483) (loc' := [(0, .float 0), (1, .ref 0), (2, .ref 40960), (3, .int i)]) (st' := [.int (i + 2), .float 0, .int (xs (i + 1).toNatClampNeg), .ref 40960]) 4 rfl ?_
  refine kx_sc rfl (by omega) (by omega) ?_
  refine kxB (pc' := 488) (loc' := [(0, .float 0), (1, .ref 0), (2, .ref 40960), (3, .int i)]) (st' := [.int (i + 3), .float 0, .int (xs (i + 2).toNatClampNeg), .int (xs (i + 1).toNatClampNeg), .ref 40960]) 4 rfl ?_
  refine kx_sc rfl (by omega) (by omega) ?_
  obtain ⟨fs1, g1⟩ := W1.g1
  refine kxV rfl rfl rfl g1 rfl rfl (w_d_leave z_ht W1) ?_
  rintro v h1 ⟨v2, H2, e, W2⟩
  cases e
  refine kxB (pc' := 1138) (loc' := [(0, .float 0), (1, .ref 0), (2, .ref 40960), (3, .int i)]) (st' := []) 2 rfl ?_
  exact K W2
set_option maxRecDepth 100000 in
theorem z_10 (hW : WKx JW JK) (W : W4 JW JK H) (i0 : 0 ≤ i.toInt) (i6 : i.toInt + 6 ≤ (L : Int)) (hL : L ≤ 3072) (K : ZK JW JK xs L i Q) : kx (k_t xs L) 41 271 496 [(0, .float 0), (1, .ref 0), (2, .ref 40960), (3, .int i)] [] H Q := by
  have e1 : (i + 1).toInt = i.toInt + 1 := z_i i0 (by omega) (by decide) (by decide)
  have e2 : (i + 2).toInt = i.toInt + 2 := z_i i0 (by omega) (by decide) (by decide)
  refine kxB (pc' := 501) (loc' := [(0, .float 0), (1, .ref 0), (2, .ref 40960), (3, .int i)]) (st' := [.int (i + 1), .float 0, .ref 0]) 5 rfl ?_
  refine kx_sc rfl (by omega) (by omega) ?_
  refine kxB (pc' := 506) (loc' := [(0, .float 0), (1, .ref 0), (2, .ref 40960), (3, .int i)]) (st' := [.int (i + 2), .float 0, .int (xs (i + 1).toNatClampNeg), .ref 0]) 4 rfl ?_
  refine kx_sc rfl (by omega) (by omega) ?_
  obtain ⟨fs, g0⟩ := W.g0
  refine kxV rfl rfl rfl g0 rfl rfl (w_c_work z_ht W) ?_
  rintro v h1 ⟨v1, H1, e, W1⟩
  cases e
  refine kxB (pc' := 516) (loc' := [(0, .float 0), (1, .ref 0), (2, .ref 40960), (3, .int i)]) (st' := [.int (i + 1), .float 0, .ref 40960]) 6 rfl ?_
  refine kx_sc rfl (by omega) (by omega) ?_
  refine kxB (pc' := 521) (loc' := [(0, .float 0), (1, .ref 0), (2, .ref 40960), (3, .int i)]) (st' := [.int (i + 2), .float 0, .int (xs (i + 1).toNatClampNeg), .ref 40960]) 4 rfl ?_
  refine kx_sc rfl (by omega) (by omega) ?_
  obtain ⟨fs1, g1⟩ := W1.g1
  refine kxV rfl rfl rfl g1 rfl rfl (w_d_work z_ht W1) ?_
  rintro v h1 ⟨v2, H2, e, W2⟩
  cases e
  refine kxB (pc' := 1138) (loc' := [(0, .float 0), (1, .ref 0), (2, .ref 40960), (3, .int i)]) (st' := []) 2 rfl ?_
  exact K W2
set_option maxRecDepth 100000 in
theorem z_11 (hW : WKx JW JK) (W : W4 JW JK H) (i0 : 0 ≤ i.toInt) (i6 : i.toInt + 6 ≤ (L : Int)) (hL : L ≤ 3072) (K : ZK JW JK xs L i Q) : kx (k_t xs L) 41 271 529 [(0, .float 0), (1, .ref 0), (2, .ref 40960), (3, .int i)] [] H Q := by
  have e1 : (i + 1).toInt = i.toInt + 1 := z_i i0 (by omega) (by decide) (by decide)
  have e2 : (i + 2).toInt = i.toInt + 2 := z_i i0 (by omega) (by decide) (by decide)
  refine kxB (pc' := 534) (loc' := [(0, .float 0), (1, .ref 0), (2, .ref 40960), (3, .int i)]) (st' := [.int (i + 1), .float 0, .ref 0]) 5 rfl ?_
  refine kx_sc rfl (by omega) (by omega) ?_
  refine kxB (pc' := 539) (loc' := [(0, .float 0), (1, .ref 0), (2, .ref 40960), (3, .int i)]) (st' := [.int (i + 2), .float 0, .int (xs (i + 1).toNatClampNeg), .ref 0]) 4 rfl ?_
  refine kx_sc rfl (by omega) (by omega) ?_
  obtain ⟨fs, g0⟩ := W.g0
  refine kxV rfl rfl rfl g0 rfl rfl (w_c_lay z_ht W) ?_
  rintro v h1 ⟨v1, H1, e, W1⟩
  cases e
  refine kxB (pc' := 549) (loc' := [(0, .float 0), (1, .ref 0), (2, .ref 40960), (3, .int i)]) (st' := [.int (i + 1), .float 0, .ref 40960]) 6 rfl ?_
  refine kx_sc rfl (by omega) (by omega) ?_
  refine kxB (pc' := 554) (loc' := [(0, .float 0), (1, .ref 0), (2, .ref 40960), (3, .int i)]) (st' := [.int (i + 2), .float 0, .int (xs (i + 1).toNatClampNeg), .ref 40960]) 4 rfl ?_
  refine kx_sc rfl (by omega) (by omega) ?_
  obtain ⟨fs1, g1⟩ := W1.g1
  refine kxV rfl rfl rfl g1 rfl rfl (w_d_lay z_ht W1) ?_
  rintro v h1 ⟨v2, H2, e, W2⟩
  cases e
  refine kxB (pc' := 1138) (loc' := [(0, .float 0), (1, .ref 0), (2, .ref 40960), (3, .int i)]) (st' := []) 2 rfl ?_
  exact K W2
set_option maxRecDepth 100000 in
theorem z_12 (hW : WKx JW JK) (W : W4 JW JK H) (i0 : 0 ≤ i.toInt) (i6 : i.toInt + 6 ≤ (L : Int)) (hL : L ≤ 3072) (K : ZK JW JK xs L i Q) : kx (k_t xs L) 41 271 562 [(0, .float 0), (1, .ref 0), (2, .ref 40960), (3, .int i)] [] H Q := by
  have e1 : (i + 1).toInt = i.toInt + 1 := z_i i0 (by omega) (by decide) (by decide)
  have e2 : (i + 2).toInt = i.toInt + 2 := z_i i0 (by omega) (by decide) (by decide)
  refine kxB (pc' := 567) (loc' := [(0, .float 0), (1, .ref 0), (2, .ref 40960), (3, .int i)]) (st' := [.int (i + 1), .float 0, .ref 0]) 5 rfl ?_
  refine kx_sc rfl (by omega) (by omega) ?_
  refine kxB (pc' := 572) (loc' := [(0, .float 0), (1, .ref 0), (2, .ref 40960), (3, .int i)]) (st' := [.int (i + 2), .float 0, .int (xs (i + 1).toNatClampNeg), .ref 0]) 4 rfl ?_
  refine kx_sc rfl (by omega) (by omega) ?_
  obtain ⟨fs, g0⟩ := W.g0
  refine kxV rfl rfl rfl g0 rfl rfl (w_c_give z_ht W) ?_
  rintro v h1 ⟨v1, H1, e, W1⟩
  cases e
  refine kxB (pc' := 582) (loc' := [(0, .float 0), (1, .ref 0), (2, .ref 40960), (3, .int i)]) (st' := [.int (i + 1), .float 0, .ref 40960]) 6 rfl ?_
  refine kx_sc rfl (by omega) (by omega) ?_
  refine kxB (pc' := 587) (loc' := [(0, .float 0), (1, .ref 0), (2, .ref 40960), (3, .int i)]) (st' := [.int (i + 2), .float 0, .int (xs (i + 1).toNatClampNeg), .ref 40960]) 4 rfl ?_
  refine kx_sc rfl (by omega) (by omega) ?_
  obtain ⟨fs1, g1⟩ := W1.g1
  refine kxV rfl rfl rfl g1 rfl rfl (w_d_give z_ht W1) ?_
  rintro v h1 ⟨v2, H2, e, W2⟩
  cases e
  refine kxB (pc' := 1138) (loc' := [(0, .float 0), (1, .ref 0), (2, .ref 40960), (3, .int i)]) (st' := []) 2 rfl ?_
  exact K W2
set_option maxRecDepth 100000 in
theorem z_13b {v : Int32} (hW : WKx JW JK) (W : W4 JW JK H) (i0 : 0 ≤ i.toInt) (i6 : i.toInt + 6 ≤ (L : Int)) (hL : L ≤ 3072) (K : ZK JW JK xs L i Q) : kx (k_t xs L) 41 271 617 [(0, .float 0), (1, .ref 0), (2, .ref 40960), (3, .int i)] [.int v] H Q := by
  have e1 : (i + 1).toInt = i.toInt + 1 := z_i i0 (by omega) (by decide) (by decide)
  have e2 : (i + 2).toInt = i.toInt + 2 := z_i i0 (by omega) (by decide) (by decide)
  refine kxB (pc' := 623) (loc' := [(0, .float 0), (1, .ref 0), (2, .ref 40960), (3, .int i)]) (st' := [.int (i + 1), .float 0, .ref 40960]) 6 rfl ?_
  refine kx_sc rfl (by omega) (by omega) ?_
  refine kxB (pc' := 628) (loc' := [(0, .float 0), (1, .ref 0), (2, .ref 40960), (3, .int i)]) (st' := [.int (i + 2), .float 0, .int (xs (i + 1).toNatClampNeg), .ref 40960]) 4 rfl ?_
  refine kx_sc rfl (by omega) (by omega) ?_
  obtain ⟨fs, g⟩ := W.g1
  refine kxif rfl (fun _ => ?_) (fun _ => ?_)
  · refine kxB (pc' := 637) (loc' := [(0, .float 0), (1, .ref 0), (2, .ref 40960), (3, .int i)]) (st' := [.int 0, .int (xs (i + 1).toNatClampNeg), .ref 40960]) 1 rfl ?_
    refine kxV rfl rfl rfl g rfl rfl (w_d_bar z_ht W) ?_
    rintro v h1 ⟨v2, H2, e, W2⟩
    cases e
    refine kxB (pc' := 1138) (loc' := [(0, .float 0), (1, .ref 0), (2, .ref 40960), (3, .int i)]) (st' := []) 2 rfl ?_
    exact K W2
  · refine kxB (pc' := 637) (loc' := [(0, .float 0), (1, .ref 0), (2, .ref 40960), (3, .int i)]) (st' := [.int 1, .int (xs (i + 1).toNatClampNeg), .ref 40960]) 2 rfl ?_
    refine kxV rfl rfl rfl g rfl rfl (w_d_bar z_ht W) ?_
    rintro v h1 ⟨v2, H2, e, W2⟩
    cases e
    refine kxB (pc' := 1138) (loc' := [(0, .float 0), (1, .ref 0), (2, .ref 40960), (3, .int i)]) (st' := []) 2 rfl ?_
    exact K W2
set_option maxRecDepth 100000 in
theorem z_13 (hW : WKx JW JK) (W : W4 JW JK H) (i0 : 0 ≤ i.toInt) (i6 : i.toInt + 6 ≤ (L : Int)) (hL : L ≤ 3072) (K : ZK JW JK xs L i Q) : kx (k_t xs L) 41 271 595 [(0, .float 0), (1, .ref 0), (2, .ref 40960), (3, .int i)] [] H Q := by
  have e1 : (i + 1).toInt = i.toInt + 1 := z_i i0 (by omega) (by decide) (by decide)
  have e2 : (i + 2).toInt = i.toInt + 2 := z_i i0 (by omega) (by decide) (by decide)
  refine kxB (pc' := 600) (loc' := [(0, .float 0), (1, .ref 0), (2, .ref 40960), (3, .int i)]) (st' := [.int (i + 1), .float 0, .ref 0]) 5 rfl ?_
  refine kx_sc rfl (by omega) (by omega) ?_
  refine kxB (pc' := 605) (loc' := [(0, .float 0), (1, .ref 0), (2, .ref 40960), (3, .int i)]) (st' := [.int (i + 2), .float 0, .int (xs (i + 1).toNatClampNeg), .ref 0]) 4 rfl ?_
  refine kx_sc rfl (by omega) (by omega) ?_
  obtain ⟨fs, g⟩ := W.g0
  refine kxif rfl (fun _ => ?_) (fun _ => ?_)
  · refine kxB (pc' := 614) (loc' := [(0, .float 0), (1, .ref 0), (2, .ref 40960), (3, .int i)]) (st' := [.int 0, .int (xs (i + 1).toNatClampNeg), .ref 0]) 1 rfl ?_
    refine kxV rfl rfl rfl g rfl rfl (w_c_bar z_ht W) ?_
    rintro v h1 ⟨v2, H2, e, W2⟩
    cases e
    exact z_13b hW W2 i0 i6 hL K
  · refine kxB (pc' := 614) (loc' := [(0, .float 0), (1, .ref 0), (2, .ref 40960), (3, .int i)]) (st' := [.int 1, .int (xs (i + 1).toNatClampNeg), .ref 0]) 2 rfl ?_
    refine kxV rfl rfl rfl g rfl rfl (w_c_bar z_ht W) ?_
    rintro v h1 ⟨v2, H2, e, W2⟩
    cases e
    exact z_13b hW W2 i0 i6 hL K
set_option maxRecDepth 100000 in
theorem z_14 (hW : WKx JW JK) (W : W4 JW JK H) (i0 : 0 ≤ i.toInt) (i6 : i.toInt + 6 ≤ (L : Int)) (hL : L ≤ 3072) (K : ZK JW JK xs L i Q) : kx (k_t xs L) 41 271 644 [(0, .float 0), (1, .ref 0), (2, .ref 40960), (3, .int i)] [] H Q := by
  refine kxB (pc' := 645) (loc' := [(0, .float 0), (1, .ref 0), (2, .ref 40960), (3, .int i)]) (st' := [.ref 0]) 1 rfl ?_
  obtain ⟨fs, g0⟩ := W.g0
  refine kxV rfl rfl rfl g0 rfl rfl (w_c_nightE z_ht W) ?_
  rintro v h1 ⟨v1, H1, e, W1⟩
  cases e
  refine kxB (pc' := 650) (loc' := [(0, .float 0), (1, .ref 0), (2, .ref 40960), (3, .int i)]) (st' := [.ref 40960]) 2 rfl ?_
  obtain ⟨fs1, g1⟩ := W1.g1
  refine kxV rfl rfl rfl g1 rfl rfl (w_d_nightE z_ht W1) ?_
  rintro v h1 ⟨v2, H2, e, W2, q2⟩
  cases e
  refine kxB (pc' := 1138) (loc' := [(0, .float 0), (1, .ref 0), (2, .ref 40960), (3, .int i)]) (st' := []) 2 rfl ?_
  exact K W2
set_option maxRecDepth 100000 in
theorem z_15 (hW : WKx JW JK) (W : W4 JW JK H) (i0 : 0 ≤ i.toInt) (i6 : i.toInt + 6 ≤ (L : Int)) (hL : L ≤ 3072) (K : ZK JW JK xs L i Q) : kx (k_t xs L) 41 271 657 [(0, .float 0), (1, .ref 0), (2, .ref 40960), (3, .int i)] [] H Q := by
  refine kxB (pc' := 658) (loc' := [(0, .float 0), (1, .ref 0), (2, .ref 40960), (3, .int i)]) (st' := [.ref 0]) 1 rfl ?_
  obtain ⟨fs, g0⟩ := W.g0
  refine kxV rfl rfl rfl g0 rfl rfl (w_c_undoE z_ht W) ?_
  rintro v h1 ⟨v1, H1, e, W1⟩
  cases e
  refine kxB (pc' := 662) (loc' := [(0, .float 0), (1, .ref 0), (2, .ref 40960), (3, .int i)]) (st' := [.ref 40960, .int v1]) 1 rfl ?_
  obtain ⟨fs1, g1⟩ := W1.g1
  refine kxV rfl rfl rfl g1 rfl rfl (w_d_undoE z_ht W1) ?_
  rintro v h1 ⟨v2, H2, e, W2, q2⟩
  cases e
  refine kxic rfl (fun _ => K W2) (fun hc => ?_)
  rw [i_neq] at hc
  exact absurd q2 hc
set_option maxRecDepth 100000 in
theorem z_16 (hW : WKx JW JK) (W : W4 JW JK H) (i0 : 0 ≤ i.toInt) (i6 : i.toInt + 6 ≤ (L : Int)) (hL : L ≤ 3072) (K : ZK JW JK xs L i Q) : kx (k_t xs L) 41 271 670 [(0, .float 0), (1, .ref 0), (2, .ref 40960), (3, .int i)] [] H Q := by
  refine kxB (pc' := 671) (loc' := [(0, .float 0), (1, .ref 0), (2, .ref 40960), (3, .int i)]) (st' := [.ref 0]) 1 rfl ?_
  obtain ⟨fs, g0⟩ := W.g0
  refine kxV rfl rfl rfl g0 rfl rfl (w_c_gain z_ht W) ?_
  rintro v h1 ⟨v1, H1, e, W1⟩
  cases e
  refine kxB (pc' := 676) (loc' := [(0, .float 0), (1, .ref 0), (2, .ref 40960), (3, .int i)]) (st' := [.ref 40960]) 2 rfl ?_
  obtain ⟨fs1, g1⟩ := W1.g1
  refine kxV rfl rfl rfl g1 rfl rfl (w_d_gain z_ht W1) ?_
  rintro v h1 ⟨v2, H2, e, W2⟩
  cases e
  refine kxB (pc' := 1138) (loc' := [(0, .float 0), (1, .ref 0), (2, .ref 40960), (3, .int i)]) (st' := []) 2 rfl ?_
  exact K W2
set_option maxRecDepth 100000 in
theorem z_17 (hW : WKx JW JK) (W : W4 JW JK H) (i0 : 0 ≤ i.toInt) (i6 : i.toInt + 6 ≤ (L : Int)) (hL : L ≤ 3072) (K : ZK JW JK xs L i Q) : kx (k_t xs L) 41 271 683 [(0, .float 0), (1, .ref 0), (2, .ref 40960), (3, .int i)] [] H Q := by
  have e1 : (i + 1).toInt = i.toInt + 1 := z_i i0 (by omega) (by decide) (by decide)
  have e2 : (i + 2).toInt = i.toInt + 2 := z_i i0 (by omega) (by decide) (by decide)
  refine kxB (pc' := 688) (loc' := [(0, .float 0), (1, .ref 0), (2, .ref 40960), (3, .int i)]) (st' := [.int (i + 1), .float 0, .ref 0]) 5 rfl ?_
  refine kx_sc rfl (by omega) (by omega) ?_
  refine kxB (pc' := 693) (loc' := [(0, .float 0), (1, .ref 0), (2, .ref 40960), (3, .int i)]) (st' := [.int (i + 2), .float 0, .int (xs (i + 1).toNatClampNeg), .ref 0]) 4 rfl ?_
  refine kx_sc rfl (by omega) (by omega) ?_
  obtain ⟨fs, g0⟩ := W.g0
  refine kxV rfl rfl rfl g0 rfl rfl (w_c_best z_ht W) ?_
  rintro v h1 ⟨v1, H1, e, W1⟩
  cases e
  refine kxB (pc' := 703) (loc' := [(0, .float 0), (1, .ref 0), (2, .ref 40960), (3, .int i)]) (st' := [.int (i + 1), .float 0, .ref 40960]) 6 rfl ?_
  refine kx_sc rfl (by omega) (by omega) ?_
  refine kxB (pc' := 708) (loc' := [(0, .float 0), (1, .ref 0), (2, .ref 40960), (3, .int i)]) (st' := [.int (i + 2), .float 0, .int (xs (i + 1).toNatClampNeg), .ref 40960]) 4 rfl ?_
  refine kx_sc rfl (by omega) (by omega) ?_
  obtain ⟨fs1, g1⟩ := W1.g1
  refine kxV rfl rfl rfl g1 rfl rfl (w_d_best z_ht W1) ?_
  rintro v h1 ⟨v2, H2, e, W2⟩
  cases e
  refine kxB (pc' := 1138) (loc' := [(0, .float 0), (1, .ref 0), (2, .ref 40960), (3, .int i)]) (st' := []) 2 rfl ?_
  exact K W2
set_option maxRecDepth 100000 in
theorem z_18 (hW : WKx JW JK) (W : W4 JW JK H) (i0 : 0 ≤ i.toInt) (i6 : i.toInt + 6 ≤ (L : Int)) (hL : L ≤ 3072) (K : ZK JW JK xs L i Q) : kx (k_t xs L) 41 271 716 [(0, .float 0), (1, .ref 0), (2, .ref 40960), (3, .int i)] [] H Q := by
  have e1 : (i + 1).toInt = i.toInt + 1 := z_i i0 (by omega) (by decide) (by decide)
  have e2 : (i + 2).toInt = i.toInt + 2 := z_i i0 (by omega) (by decide) (by decide)
  have e3 : (i + 3).toInt = i.toInt + 3 := z_i i0 (by omega) (by decide) (by decide)
  refine kxB (pc' := 721) (loc' := [(0, .float 0), (1, .ref 0), (2, .ref 40960), (3, .int i)]) (st' := [.int (i + 1), .float 0, .ref 0]) 5 rfl ?_
  refine kx_sc rfl (by omega) (by omega) ?_
  refine kxB (pc' := 726) (loc' := [(0, .float 0), (1, .ref 0), (2, .ref 40960), (3, .int i)]) (st' := [.int (i + 2), .float 0, .int (xs (i + 1).toNatClampNeg), .ref 0]) 4 rfl ?_
  refine kx_sc rfl (by omega) (by omega) ?_
  refine kxB (pc' := 731) (loc' := [(0, .float 0), (1, .ref 0), (2, .ref 40960), (3, .int i)]) (st' := [.int (i + 3), .float 0, .int (xs (i + 2).toNatClampNeg), .int (xs (i + 1).toNatClampNeg), .ref 0]) 4 rfl ?_
  refine kx_sc rfl (by omega) (by omega) ?_
  obtain ⟨fs, g0⟩ := W.g0
  refine kxV rfl rfl rfl g0 rfl rfl (w_c_bestOfTwo z_ht W) ?_
  rintro v h1 ⟨v1, H1, e, W1⟩
  cases e
  refine kxB (pc' := 741) (loc' := [(0, .float 0), (1, .ref 0), (2, .ref 40960), (3, .int i)]) (st' := [.int (i + 1), .float 0, .ref 40960]) 6 rfl ?_
  refine kx_sc rfl (by omega) (by omega) ?_
  refine kxB (pc' := 746) (loc' := [(0, .float 0), (1, .ref 0), (2, .ref 40960), (3, .int i)]) (st' := [.int (i + 2), .float 0, .int (xs (i + 1).toNatClampNeg), .ref 40960]) 4 rfl ?_
  refine kx_sc rfl (by omega) (by omega) ?_
  refine kxB (pc' := 751) (loc' := [(0, .float 0), (1, .ref 0), (2, .ref 40960), (3, .int i)]) (st' := [.int (i + 3), .float 0, .int (xs (i + 2).toNatClampNeg), .int (xs (i + 1).toNatClampNeg), .ref 40960]) 4 rfl ?_
  refine kx_sc rfl (by omega) (by omega) ?_
  obtain ⟨fs1, g1⟩ := W1.g1
  refine kxV rfl rfl rfl g1 rfl rfl (w_d_bestOfTwo z_ht W1) ?_
  rintro v h1 ⟨v2, H2, e, W2⟩
  cases e
  refine kxB (pc' := 1138) (loc' := [(0, .float 0), (1, .ref 0), (2, .ref 40960), (3, .int i)]) (st' := []) 2 rfl ?_
  exact K W2
set_option maxRecDepth 100000 in
theorem z_19 (hW : WKx JW JK) (W : W4 JW JK H) (i0 : 0 ≤ i.toInt) (i6 : i.toInt + 6 ≤ (L : Int)) (hL : L ≤ 3072) (K : ZK JW JK xs L i Q) : kx (k_t xs L) 41 271 759 [(0, .float 0), (1, .ref 0), (2, .ref 40960), (3, .int i)] [] H Q := by
  have e1 : (i + 1).toInt = i.toInt + 1 := z_i i0 (by omega) (by decide) (by decide)
  refine kxB (pc' := 764) (loc' := [(0, .float 0), (1, .ref 0), (2, .ref 40960), (3, .int i)]) (st' := [.int (i + 1), .float 0, .ref 0]) 5 rfl ?_
  refine kx_sc rfl (by omega) (by omega) ?_
  obtain ⟨fs, g0⟩ := W.g0
  refine kxV rfl rfl rfl g0 rfl rfl (w_c_hire z_ht W) ?_
  rintro v h1 ⟨v1, H1, e, W1⟩
  cases e
  refine kxB (pc' := 774) (loc' := [(0, .float 0), (1, .ref 0), (2, .ref 40960), (3, .int i)]) (st' := [.int (i + 1), .float 0, .ref 40960]) 6 rfl ?_
  refine kx_sc rfl (by omega) (by omega) ?_
  obtain ⟨fs1, g1⟩ := W1.g1
  refine kxV rfl rfl rfl g1 rfl rfl (w_d_hire z_ht W1) ?_
  rintro v h1 ⟨v2, H2, e, W2⟩
  cases e
  refine kxB (pc' := 1138) (loc' := [(0, .float 0), (1, .ref 0), (2, .ref 40960), (3, .int i)]) (st' := []) 2 rfl ?_
  exact K W2
set_option maxRecDepth 100000 in
theorem z_20 (hW : WKx JW JK) (W : W4 JW JK H) (i0 : 0 ≤ i.toInt) (i6 : i.toInt + 6 ≤ (L : Int)) (hL : L ≤ 3072) (K : ZK JW JK xs L i Q) : kx (k_t xs L) 41 271 782 [(0, .float 0), (1, .ref 0), (2, .ref 40960), (3, .int i)] [] H Q := by
  have e1 : (i + 1).toInt = i.toInt + 1 := z_i i0 (by omega) (by decide) (by decide)
  have e2 : (i + 2).toInt = i.toInt + 2 := z_i i0 (by omega) (by decide) (by decide)
  refine kxB (pc' := 787) (loc' := [(0, .float 0), (1, .ref 0), (2, .ref 40960), (3, .int i)]) (st' := [.int (i + 1), .float 0, .ref 0]) 5 rfl ?_
  refine kx_sc rfl (by omega) (by omega) ?_
  refine kxB (pc' := 792) (loc' := [(0, .float 0), (1, .ref 0), (2, .ref 40960), (3, .int i)]) (st' := [.int (i + 2), .float 0, .int (xs (i + 1).toNatClampNeg), .ref 0]) 4 rfl ?_
  refine kx_sc rfl (by omega) (by omega) ?_
  obtain ⟨fs, g0⟩ := W.g0
  refine kxV rfl rfl rfl g0 rfl rfl (w_c_hide z_ht W) ?_
  rintro v h1 ⟨v1, H1, e, W1⟩
  cases e
  refine kxB (pc' := 802) (loc' := [(0, .float 0), (1, .ref 0), (2, .ref 40960), (3, .int i)]) (st' := [.int (i + 1), .float 0, .ref 40960]) 6 rfl ?_
  refine kx_sc rfl (by omega) (by omega) ?_
  refine kxB (pc' := 807) (loc' := [(0, .float 0), (1, .ref 0), (2, .ref 40960), (3, .int i)]) (st' := [.int (i + 2), .float 0, .int (xs (i + 1).toNatClampNeg), .ref 40960]) 4 rfl ?_
  refine kx_sc rfl (by omega) (by omega) ?_
  obtain ⟨fs1, g1⟩ := W1.g1
  refine kxV rfl rfl rfl g1 rfl rfl (w_d_hide z_ht W1) ?_
  rintro v h1 ⟨v2, H2, e, W2⟩
  cases e
  refine kxB (pc' := 1138) (loc' := [(0, .float 0), (1, .ref 0), (2, .ref 40960), (3, .int i)]) (st' := []) 2 rfl ?_
  exact K W2
set_option maxRecDepth 100000 in
theorem z_21 (hW : WKx JW JK) (W : W4 JW JK H) (i0 : 0 ≤ i.toInt) (i6 : i.toInt + 6 ≤ (L : Int)) (hL : L ≤ 3072) (K : ZK JW JK xs L i Q) : kx (k_t xs L) 41 271 815 [(0, .float 0), (1, .ref 0), (2, .ref 40960), (3, .int i)] [] H Q := by
  have e1 : (i + 1).toInt = i.toInt + 1 := z_i i0 (by omega) (by decide) (by decide)
  refine kxB (pc' := 820) (loc' := [(0, .float 0), (1, .ref 0), (2, .ref 40960), (3, .int i)]) (st' := [.int (i + 1), .float 0, .ref 0]) 5 rfl ?_
  refine kx_sc rfl (by omega) (by omega) ?_
  obtain ⟨fs, g0⟩ := W.g0
  refine kxV rfl rfl rfl g0 rfl rfl (w_c_bars z_ht W) ?_
  rintro v h1 ⟨v1, H1, e, W1⟩
  cases e
  refine kxB (pc' := 830) (loc' := [(0, .float 0), (1, .ref 0), (2, .ref 40960), (3, .int i)]) (st' := [.int (i + 1), .float 0, .ref 40960]) 6 rfl ?_
  refine kx_sc rfl (by omega) (by omega) ?_
  obtain ⟨fs1, g1⟩ := W1.g1
  refine kxV rfl rfl rfl g1 rfl rfl (w_d_bars z_ht W1) ?_
  rintro v h1 ⟨v2, H2, e, W2⟩
  cases e
  refine kxB (pc' := 1138) (loc' := [(0, .float 0), (1, .ref 0), (2, .ref 40960), (3, .int i)]) (st' := []) 2 rfl ?_
  exact K W2
set_option maxRecDepth 100000 in
theorem z_22 (hW : WKx JW JK) (W : W4 JW JK H) (i0 : 0 ≤ i.toInt) (i6 : i.toInt + 6 ≤ (L : Int)) (hL : L ≤ 3072) (K : ZK JW JK xs L i Q) : kx (k_t xs L) 41 271 838 [(0, .float 0), (1, .ref 0), (2, .ref 40960), (3, .int i)] [] H Q := by
  have e1 : (i + 1).toInt = i.toInt + 1 := z_i i0 (by omega) (by decide) (by decide)
  have e2 : (i + 2).toInt = i.toInt + 2 := z_i i0 (by omega) (by decide) (by decide)
  refine kxB (pc' := 843) (loc' := [(0, .float 0), (1, .ref 0), (2, .ref 40960), (3, .int i)]) (st' := [.int (i + 1), .float 0, .ref 0]) 5 rfl ?_
  refine kx_sc rfl (by omega) (by omega) ?_
  refine kxB (pc' := 848) (loc' := [(0, .float 0), (1, .ref 0), (2, .ref 40960), (3, .int i)]) (st' := [.int (i + 2), .float 0, .int (xs (i + 1).toNatClampNeg), .ref 0]) 4 rfl ?_
  refine kx_sc rfl (by omega) (by omega) ?_
  obtain ⟨fs, g0⟩ := W.g0
  refine kxV rfl rfl rfl g0 rfl rfl (w_c_where z_ht W) ?_
  rintro v h1 ⟨v1, H1, e, W1⟩
  cases e
  refine kxB (pc' := 858) (loc' := [(0, .float 0), (1, .ref 0), (2, .ref 40960), (3, .int i)]) (st' := [.int (i + 1), .float 0, .ref 40960]) 6 rfl ?_
  refine kx_sc rfl (by omega) (by omega) ?_
  refine kxB (pc' := 863) (loc' := [(0, .float 0), (1, .ref 0), (2, .ref 40960), (3, .int i)]) (st' := [.int (i + 2), .float 0, .int (xs (i + 1).toNatClampNeg), .ref 40960]) 4 rfl ?_
  refine kx_sc rfl (by omega) (by omega) ?_
  obtain ⟨fs1, g1⟩ := W1.g1
  refine kxV rfl rfl rfl g1 rfl rfl (w_d_where z_ht W1) ?_
  rintro v h1 ⟨v2, H2, e, W2⟩
  cases e
  refine kxB (pc' := 1138) (loc' := [(0, .float 0), (1, .ref 0), (2, .ref 40960), (3, .int i)]) (st' := []) 2 rfl ?_
  exact K W2
set_option maxRecDepth 100000 in
theorem z_23 (hW : WKx JW JK) (W : W4 JW JK H) (i0 : 0 ≤ i.toInt) (i6 : i.toInt + 6 ≤ (L : Int)) (hL : L ≤ 3072) (K : ZK JW JK xs L i Q) : kx (k_t xs L) 41 271 871 [(0, .float 0), (1, .ref 0), (2, .ref 40960), (3, .int i)] [] H Q := by
  have e1 : (i + 1).toInt = i.toInt + 1 := z_i i0 (by omega) (by decide) (by decide)
  have e2 : (i + 2).toInt = i.toInt + 2 := z_i i0 (by omega) (by decide) (by decide)
  refine kxB (pc' := 876) (loc' := [(0, .float 0), (1, .ref 0), (2, .ref 40960), (3, .int i)]) (st' := [.int (i + 1), .float 0, .ref 0]) 5 rfl ?_
  refine kx_sc rfl (by omega) (by omega) ?_
  refine kxB (pc' := 881) (loc' := [(0, .float 0), (1, .ref 0), (2, .ref 40960), (3, .int i)]) (st' := [.int (i + 2), .float 0, .int (xs (i + 1).toNatClampNeg), .ref 0]) 4 rfl ?_
  refine kx_sc rfl (by omega) (by omega) ?_
  obtain ⟨fs, g0⟩ := W.g0
  refine kxV rfl rfl rfl g0 rfl rfl (w_c_strokes z_ht W) ?_
  rintro v h1 ⟨v1, H1, e, W1⟩
  cases e
  refine kxB (pc' := 891) (loc' := [(0, .float 0), (1, .ref 0), (2, .ref 40960), (3, .int i)]) (st' := [.int (i + 1), .float 0, .ref 40960]) 6 rfl ?_
  refine kx_sc rfl (by omega) (by omega) ?_
  refine kxB (pc' := 896) (loc' := [(0, .float 0), (1, .ref 0), (2, .ref 40960), (3, .int i)]) (st' := [.int (i + 2), .float 0, .int (xs (i + 1).toNatClampNeg), .ref 40960]) 4 rfl ?_
  refine kx_sc rfl (by omega) (by omega) ?_
  obtain ⟨fs1, g1⟩ := W1.g1
  refine kxV rfl rfl rfl g1 rfl rfl (w_d_strokes z_ht W1) ?_
  rintro v h1 ⟨v2, H2, e, W2⟩
  cases e
  refine kxB (pc' := 1138) (loc' := [(0, .float 0), (1, .ref 0), (2, .ref 40960), (3, .int i)]) (st' := []) 2 rfl ?_
  exact K W2
set_option maxRecDepth 100000 in
theorem z_24 (hW : WKx JW JK) (W : W4 JW JK H) (i0 : 0 ≤ i.toInt) (i6 : i.toInt + 6 ≤ (L : Int)) (hL : L ≤ 3072) (K : ZK JW JK xs L i Q) : kx (k_t xs L) 41 271 904 [(0, .float 0), (1, .ref 0), (2, .ref 40960), (3, .int i)] [] H Q := by
  have e1 : (i + 1).toInt = i.toInt + 1 := z_i i0 (by omega) (by decide) (by decide)
  have e2 : (i + 2).toInt = i.toInt + 2 := z_i i0 (by omega) (by decide) (by decide)
  have e3 : (i + 3).toInt = i.toInt + 3 := z_i i0 (by omega) (by decide) (by decide)
  refine kxB (pc' := 909) (loc' := [(0, .float 0), (1, .ref 0), (2, .ref 40960), (3, .int i)]) (st' := [.int (i + 1), .float 0, .ref 0]) 5 rfl ?_
  refine kx_sc rfl (by omega) (by omega) ?_
  refine kxB (pc' := 914) (loc' := [(0, .float 0), (1, .ref 0), (2, .ref 40960), (3, .int i)]) (st' := [.int (i + 2), .float 0, .int (xs (i + 1).toNatClampNeg), .ref 0]) 4 rfl ?_
  refine kx_sc rfl (by omega) (by omega) ?_
  refine kxB (pc' := 919) (loc' := [(0, .float 0), (1, .ref 0), (2, .ref 40960), (3, .int i)]) (st' := [.int (i + 3), .float 0, .int (xs (i + 2).toNatClampNeg), .int (xs (i + 1).toNatClampNeg), .ref 0]) 4 rfl ?_
  refine kx_sc rfl (by omega) (by omega) ?_
  obtain ⟨fs, g0⟩ := W.g0
  refine kxV rfl rfl rfl g0 rfl rfl (w_c_tellE z_ht W) ?_
  rintro v h1 ⟨v1, H1, e, W1⟩
  cases e
  refine kxB (pc' := 929) (loc' := [(0, .float 0), (1, .ref 0), (2, .ref 40960), (3, .int i)]) (st' := [.int (i + 1), .float 0, .ref 40960]) 6 rfl ?_
  refine kx_sc rfl (by omega) (by omega) ?_
  refine kxB (pc' := 934) (loc' := [(0, .float 0), (1, .ref 0), (2, .ref 40960), (3, .int i)]) (st' := [.int (i + 2), .float 0, .int (xs (i + 1).toNatClampNeg), .ref 40960]) 4 rfl ?_
  refine kx_sc rfl (by omega) (by omega) ?_
  refine kxB (pc' := 939) (loc' := [(0, .float 0), (1, .ref 0), (2, .ref 40960), (3, .int i)]) (st' := [.int (i + 3), .float 0, .int (xs (i + 2).toNatClampNeg), .int (xs (i + 1).toNatClampNeg), .ref 40960]) 4 rfl ?_
  refine kx_sc rfl (by omega) (by omega) ?_
  obtain ⟨fs1, g1⟩ := W1.g1
  refine kxV rfl rfl rfl g1 rfl rfl (w_d_tellE z_ht W1) ?_
  rintro v h1 ⟨v2, H2, e, W2, q2⟩
  cases e
  refine kxB (pc' := 1138) (loc' := [(0, .float 0), (1, .ref 0), (2, .ref 40960), (3, .int i)]) (st' := []) 2 rfl ?_
  exact K W2
set_option maxRecDepth 100000 in
theorem z_25 (hW : WKx JW JK) (W : W4 JW JK H) (i0 : 0 ≤ i.toInt) (i6 : i.toInt + 6 ≤ (L : Int)) (hL : L ≤ 3072) (K : ZK JW JK xs L i Q) : kx (k_t xs L) 41 271 947 [(0, .float 0), (1, .ref 0), (2, .ref 40960), (3, .int i)] [] H Q := by
  refine kxB (pc' := 948) (loc' := [(0, .float 0), (1, .ref 0), (2, .ref 40960), (3, .int i)]) (st' := [.ref 0]) 1 rfl ?_
  obtain ⟨fs, g0⟩ := W.g0
  refine kxV rfl rfl rfl g0 rfl rfl (w_c_forgetE z_ht W) ?_
  rintro v h1 ⟨v1, H1, e, W1⟩
  cases e
  refine kxB (pc' := 953) (loc' := [(0, .float 0), (1, .ref 0), (2, .ref 40960), (3, .int i)]) (st' := [.ref 40960]) 2 rfl ?_
  obtain ⟨fs1, g1⟩ := W1.g1
  refine kxV rfl rfl rfl g1 rfl rfl (w_d_forgetE z_ht W1) ?_
  rintro v h1 ⟨v2, H2, e, W2, q2⟩
  cases e
  refine kxB (pc' := 1138) (loc' := [(0, .float 0), (1, .ref 0), (2, .ref 40960), (3, .int i)]) (st' := []) 2 rfl ?_
  exact K W2
set_option maxRecDepth 100000 in
theorem z_26 (hW : WKx JW JK) (W : W4 JW JK H) (i0 : 0 ≤ i.toInt) (i6 : i.toInt + 6 ≤ (L : Int)) (hL : L ≤ 3072) (K : ZK JW JK xs L i Q) : kx (k_t xs L) 41 271 960 [(0, .float 0), (1, .ref 0), (2, .ref 40960), (3, .int i)] [] H Q := by
  have e1 : (i + 1).toInt = i.toInt + 1 := z_i i0 (by omega) (by decide) (by decide)
  have e2 : (i + 2).toInt = i.toInt + 2 := z_i i0 (by omega) (by decide) (by decide)
  have e3 : (i + 3).toInt = i.toInt + 3 := z_i i0 (by omega) (by decide) (by decide)
  refine kxB (pc' := 965) (loc' := [(0, .float 0), (1, .ref 0), (2, .ref 40960), (3, .int i)]) (st' := [.int (i + 1), .float 0, .ref 0]) 5 rfl ?_
  refine kx_sc rfl (by omega) (by omega) ?_
  refine kxB (pc' := 970) (loc' := [(0, .float 0), (1, .ref 0), (2, .ref 40960), (3, .int i)]) (st' := [.int (i + 2), .float 0, .int (xs (i + 1).toNatClampNeg), .ref 0]) 4 rfl ?_
  refine kx_sc rfl (by omega) (by omega) ?_
  refine kxB (pc' := 975) (loc' := [(0, .float 0), (1, .ref 0), (2, .ref 40960), (3, .int i)]) (st' := [.int (i + 3), .float 0, .int (xs (i + 2).toNatClampNeg), .int (xs (i + 1).toNatClampNeg), .ref 0]) 4 rfl ?_
  refine kx_sc rfl (by omega) (by omega) ?_
  obtain ⟨fs, g0⟩ := W.g0
  refine kxV rfl rfl rfl g0 rfl rfl (w_c_fits z_ht W) ?_
  rintro v h1 ⟨v1, H1, e, W1⟩
  cases e
  refine kxB (pc' := 985) (loc' := [(0, .float 0), (1, .ref 0), (2, .ref 40960), (3, .int i)]) (st' := [.int (i + 1), .float 0, .ref 40960]) 6 rfl ?_
  refine kx_sc rfl (by omega) (by omega) ?_
  refine kxB (pc' := 990) (loc' := [(0, .float 0), (1, .ref 0), (2, .ref 40960), (3, .int i)]) (st' := [.int (i + 2), .float 0, .int (xs (i + 1).toNatClampNeg), .ref 40960]) 4 rfl ?_
  refine kx_sc rfl (by omega) (by omega) ?_
  refine kxB (pc' := 995) (loc' := [(0, .float 0), (1, .ref 0), (2, .ref 40960), (3, .int i)]) (st' := [.int (i + 3), .float 0, .int (xs (i + 2).toNatClampNeg), .int (xs (i + 1).toNatClampNeg), .ref 40960]) 4 rfl ?_
  refine kx_sc rfl (by omega) (by omega) ?_
  obtain ⟨fs1, g1⟩ := W1.g1
  refine kxV rfl rfl rfl g1 rfl rfl (w_d_fits z_ht W1) ?_
  rintro v h1 ⟨v2, H2, e, W2⟩
  cases e
  refine kxB (pc' := 1138) (loc' := [(0, .float 0), (1, .ref 0), (2, .ref 40960), (3, .int i)]) (st' := []) 2 rfl ?_
  exact K W2
set_option maxRecDepth 100000 in
theorem z_27 (hW : WKx JW JK) (W : W4 JW JK H) (i0 : 0 ≤ i.toInt) (i6 : i.toInt + 6 ≤ (L : Int)) (hL : L ≤ 3072) (K : ZK JW JK xs L i Q) : kx (k_t xs L) 41 271 1003 [(0, .float 0), (1, .ref 0), (2, .ref 40960), (3, .int i)] [] H Q := by
  have e1 : (i + 1).toInt = i.toInt + 1 := z_i i0 (by omega) (by decide) (by decide)
  refine kxB (pc' := 1008) (loc' := [(0, .float 0), (1, .ref 0), (2, .ref 40960), (3, .int i)]) (st' := [.int (i + 1), .float 0, .ref 0]) 5 rfl ?_
  refine kx_sc rfl (by omega) (by omega) ?_
  obtain ⟨fs, g0⟩ := W.g0
  refine kxV rfl rfl rfl g0 rfl rfl (w_c_suspects z_ht W) ?_
  rintro v h1 ⟨v1, H1, e, W1⟩
  cases e
  refine kxB (pc' := 1018) (loc' := [(0, .float 0), (1, .ref 0), (2, .ref 40960), (3, .int i)]) (st' := [.int (i + 1), .float 0, .ref 40960]) 6 rfl ?_
  refine kx_sc rfl (by omega) (by omega) ?_
  obtain ⟨fs1, g1⟩ := W1.g1
  refine kxV rfl rfl rfl g1 rfl rfl (w_d_suspects z_ht W1) ?_
  rintro v h1 ⟨v2, H2, e, W2⟩
  cases e
  refine kxB (pc' := 1138) (loc' := [(0, .float 0), (1, .ref 0), (2, .ref 40960), (3, .int i)]) (st' := []) 2 rfl ?_
  exact K W2
set_option maxRecDepth 100000 in
theorem z_28 (hW : WKx JW JK) (W : W4 JW JK H) (i0 : 0 ≤ i.toInt) (i6 : i.toInt + 6 ≤ (L : Int)) (hL : L ≤ 3072) (K : ZK JW JK xs L i Q) : kx (k_t xs L) 41 271 1026 [(0, .float 0), (1, .ref 0), (2, .ref 40960), (3, .int i)] [] H Q := by
  have e1 : (i + 1).toInt = i.toInt + 1 := z_i i0 (by omega) (by decide) (by decide)
  have e2 : (i + 2).toInt = i.toInt + 2 := z_i i0 (by omega) (by decide) (by decide)
  have e3 : (i + 3).toInt = i.toInt + 3 := z_i i0 (by omega) (by decide) (by decide)
  refine kxB (pc' := 1031) (loc' := [(0, .float 0), (1, .ref 0), (2, .ref 40960), (3, .int i)]) (st' := [.int (i + 1), .float 0, .ref 0]) 5 rfl ?_
  refine kx_sc rfl (by omega) (by omega) ?_
  refine kxB (pc' := 1036) (loc' := [(0, .float 0), (1, .ref 0), (2, .ref 40960), (3, .int i)]) (st' := [.int (i + 2), .float 0, .int (xs (i + 1).toNatClampNeg), .ref 0]) 4 rfl ?_
  refine kx_sc rfl (by omega) (by omega) ?_
  refine kxB (pc' := 1041) (loc' := [(0, .float 0), (1, .ref 0), (2, .ref 40960), (3, .int i)]) (st' := [.int (i + 3), .float 0, .int (xs (i + 2).toNatClampNeg), .int (xs (i + 1).toNatClampNeg), .ref 0]) 4 rfl ?_
  refine kx_sc rfl (by omega) (by omega) ?_
  obtain ⟨fs, g0⟩ := W.g0
  refine kxV rfl rfl rfl g0 rfl rfl (w_c_pairs z_ht W) ?_
  rintro v h1 ⟨v1, H1, e, W1⟩
  cases e
  refine kxB (pc' := 1051) (loc' := [(0, .float 0), (1, .ref 0), (2, .ref 40960), (3, .int i)]) (st' := [.int (i + 1), .float 0, .ref 40960]) 6 rfl ?_
  refine kx_sc rfl (by omega) (by omega) ?_
  refine kxB (pc' := 1056) (loc' := [(0, .float 0), (1, .ref 0), (2, .ref 40960), (3, .int i)]) (st' := [.int (i + 2), .float 0, .int (xs (i + 1).toNatClampNeg), .ref 40960]) 4 rfl ?_
  refine kx_sc rfl (by omega) (by omega) ?_
  refine kxB (pc' := 1061) (loc' := [(0, .float 0), (1, .ref 0), (2, .ref 40960), (3, .int i)]) (st' := [.int (i + 3), .float 0, .int (xs (i + 2).toNatClampNeg), .int (xs (i + 1).toNatClampNeg), .ref 40960]) 4 rfl ?_
  refine kx_sc rfl (by omega) (by omega) ?_
  obtain ⟨fs1, g1⟩ := W1.g1
  refine kxV rfl rfl rfl g1 rfl rfl (w_d_pairs z_ht W1) ?_
  rintro v h1 ⟨v2, H2, e, W2⟩
  cases e
  refine kxB (pc' := 1138) (loc' := [(0, .float 0), (1, .ref 0), (2, .ref 40960), (3, .int i)]) (st' := []) 2 rfl ?_
  exact K W2
set_option maxRecDepth 100000 in
theorem z_29 (hW : WKx JW JK) (W : W4 JW JK H) (i0 : 0 ≤ i.toInt) (i6 : i.toInt + 6 ≤ (L : Int)) (hL : L ≤ 3072) (K : ZK JW JK xs L i Q) : kx (k_t xs L) 41 271 1069 [(0, .float 0), (1, .ref 0), (2, .ref 40960), (3, .int i)] [] H Q := by
  have e1 : (i + 1).toInt = i.toInt + 1 := z_i i0 (by omega) (by decide) (by decide)
  refine kxB (pc' := 1074) (loc' := [(0, .float 0), (1, .ref 0), (2, .ref 40960), (3, .int i)]) (st' := [.int (i + 1), .float 0, .ref 0]) 5 rfl ?_
  refine kx_sc rfl (by omega) (by omega) ?_
  obtain ⟨fs, g0⟩ := W.g0
  refine kxV rfl rfl rfl g0 rfl rfl (w_c_holdE z_ht W) ?_
  rintro v h1 ⟨v1, H1, e, W1⟩
  cases e
  refine kxB (pc' := 1084) (loc' := [(0, .float 0), (1, .ref 0), (2, .ref 40960), (3, .int i)]) (st' := [.int (i + 1), .float 0, .ref 40960]) 6 rfl ?_
  refine kx_sc rfl (by omega) (by omega) ?_
  obtain ⟨fs1, g1⟩ := W1.g1
  refine kxV rfl rfl rfl g1 rfl rfl (w_d_holdE z_ht W1) ?_
  rintro v h1 ⟨v2, H2, e, W2, q2⟩
  cases e
  refine kxB (pc' := 1138) (loc' := [(0, .float 0), (1, .ref 0), (2, .ref 40960), (3, .int i)]) (st' := []) 2 rfl ?_
  exact K W2
set_option maxRecDepth 100000 in
theorem z_30 (hW : WKx JW JK) (W : W4 JW JK H) (i0 : 0 ≤ i.toInt) (i6 : i.toInt + 6 ≤ (L : Int)) (hL : L ≤ 3072) (K : ZK JW JK xs L i Q) : kx (k_t xs L) 41 271 1092 [(0, .float 0), (1, .ref 0), (2, .ref 40960), (3, .int i)] [] H Q := by
  have e1 : (i + 1).toInt = i.toInt + 1 := z_i i0 (by omega) (by decide) (by decide)
  refine kxB (pc' := 1097) (loc' := [(0, .float 0), (1, .ref 0), (2, .ref 40960), (3, .int i)]) (st' := [.int (i + 1), .float 0, .ref 0]) 5 rfl ?_
  refine kx_sc rfl (by omega) (by omega) ?_
  obtain ⟨fs, g0⟩ := W.g0
  refine kxV rfl rfl rfl g0 rfl rfl (w_c_restoreE z_ht W) ?_
  rintro v h1 ⟨v1, H1, e, W1⟩
  cases e
  refine kxB (pc' := 1107) (loc' := [(0, .float 0), (1, .ref 0), (2, .ref 40960), (3, .int i)]) (st' := [.int (i + 1), .float 0, .ref 40960]) 6 rfl ?_
  refine kx_sc rfl (by omega) (by omega) ?_
  obtain ⟨fs1, g1⟩ := W1.g1
  refine kxV rfl rfl rfl g1 rfl rfl (w_d_restoreE z_ht W1) ?_
  rintro v h1 ⟨v2, H2, e, W2, q2⟩
  cases e
  refine kxB (pc' := 1138) (loc' := [(0, .float 0), (1, .ref 0), (2, .ref 40960), (3, .int i)]) (st' := []) 2 rfl ?_
  exact K W2
set_option maxRecDepth 100000 in
theorem z_31 (hW : WKx JW JK) (W : W4 JW JK H) (i0 : 0 ≤ i.toInt) (i6 : i.toInt + 6 ≤ (L : Int)) (hL : L ≤ 3072) (K : ZK JW JK xs L i Q) : kx (k_t xs L) 41 271 1115 [(0, .float 0), (1, .ref 0), (2, .ref 40960), (3, .int i)] [] H Q := by
  have e1 : (i + 1).toInt = i.toInt + 1 := z_i i0 (by omega) (by decide) (by decide)
  refine kxB (pc' := 1120) (loc' := [(0, .float 0), (1, .ref 0), (2, .ref 40960), (3, .int i)]) (st' := [.int (i + 1), .float 0, .ref 0]) 5 rfl ?_
  refine kx_sc rfl (by omega) (by omega) ?_
  obtain ⟨fs, g0⟩ := W.g0
  refine kxV rfl rfl rfl g0 rfl rfl (w_c_count z_ht W) ?_
  rintro v h1 ⟨v1, H1, e, W1⟩
  cases e
  refine kxB (pc' := 1130) (loc' := [(0, .float 0), (1, .ref 0), (2, .ref 40960), (3, .int i)]) (st' := [.int (i + 1), .float 0, .ref 40960]) 6 rfl ?_
  refine kx_sc rfl (by omega) (by omega) ?_
  obtain ⟨fs1, g1⟩ := W1.g1
  refine kxV rfl rfl rfl g1 rfl rfl (w_d_count z_ht W1) ?_
  rintro v h1 ⟨v2, H2, e, W2⟩
  cases e
  refine kxB (pc' := 1138) (loc' := [(0, .float 0), (1, .ref 0), (2, .ref 40960), (3, .int i)]) (st' := []) 2 rfl ?_
  exact K W2
/-- what the law answers -/
def ZQ (JW JK : Nat → Int64) (z : Option Value × gH) : Prop := ∃ H', z = (some (.int 1), H') ∧ W4 JW JK H'
set_option maxRecDepth 100000 in
theorem z_and (x : Int32) : ∃ k, k < 32 ∧ x &&& 31 = Int32.ofNat k := by
  refine ⟨(x &&& 31).toBitVec.toNat, ?_, ?_⟩
  · have h1 : (x &&& 31).toBitVec.toNat = x.toBitVec.toNat &&& 31 := rfl
    rw [h1]
    exact Nat.lt_of_le_of_lt Nat.and_le_right (by decide)
  · apply Int32.toBitVec_inj.mp
    show (x &&& 31).toBitVec = BitVec.ofNat 32 (x &&& 31).toBitVec.toNat
    simp
set_option maxRecDepth 100000 in
theorem z_sw {k : Nat} (hk : k < 32) (hW : WKx JW JK) (W : W4 JW JK H) (i0 : 0 ≤ i.toInt) (i6 : i.toInt + 6 ≤ (L : Int)) (hL : L ≤ 3072) (K : ZK JW JK xs L i Q) : kx (k_t xs L) 41 271 33 [(0, .float 0), (1, .ref 0), (2, .ref 40960), (3, .int i)] [.int (Int32.ofNat k)] H Q := by
  match k, hk with
  | 0, _ => exact kxI (fun _ hz => k_tab (tgt := 176) rfl (by decide) hz) (z_0 hW W i0 i6 hL K)
  | 1, _ => exact kxI (fun _ hz => k_tab (tgt := 239) rfl (by decide) hz) (z_1 hW W i0 i6 hL K)
  | 2, _ => exact kxI (fun _ hz => k_tab (tgt := 262) rfl (by decide) hz) (z_2 hW W i0 i6 hL K)
  | 3, _ => exact kxI (fun _ hz => k_tab (tgt := 275) rfl (by decide) hz) (z_3 hW W i0 i6 hL K)
  | 4, _ => exact kxI (fun _ hz => k_tab (tgt := 288) rfl (by decide) hz) (z_4 hW W i0 i6 hL K)
  | 5, _ => exact kxI (fun _ hz => k_tab (tgt := 321) rfl (by decide) hz) (z_5 hW W i0 i6 hL K)
  | 6, _ => exact kxI (fun _ hz => k_tab (tgt := 364) rfl (by decide) hz) (z_6 hW W i0 i6 hL K)
  | 7, _ => exact kxI (fun _ hz => k_tab (tgt := 397) rfl (by decide) hz) (z_7 hW W i0 i6 hL K)
  | 8, _ => exact kxI (fun _ hz => k_tab (tgt := 420) rfl (by decide) hz) (z_8 hW W i0 i6 hL K)
  | 9, _ => exact kxI (fun _ hz => k_tab (tgt := 453) rfl (by decide) hz) (z_9 hW W i0 i6 hL K)
  | 10, _ => exact kxI (fun _ hz => k_tab (tgt := 496) rfl (by decide) hz) (z_10 hW W i0 i6 hL K)
  | 11, _ => exact kxI (fun _ hz => k_tab (tgt := 529) rfl (by decide) hz) (z_11 hW W i0 i6 hL K)
  | 12, _ => exact kxI (fun _ hz => k_tab (tgt := 562) rfl (by decide) hz) (z_12 hW W i0 i6 hL K)
  | 13, _ => exact kxI (fun _ hz => k_tab (tgt := 595) rfl (by decide) hz) (z_13 hW W i0 i6 hL K)
  | 14, _ => exact kxI (fun _ hz => k_tab (tgt := 644) rfl (by decide) hz) (z_14 hW W i0 i6 hL K)
  | 15, _ => exact kxI (fun _ hz => k_tab (tgt := 657) rfl (by decide) hz) (z_15 hW W i0 i6 hL K)
  | 16, _ => exact kxI (fun _ hz => k_tab (tgt := 670) rfl (by decide) hz) (z_16 hW W i0 i6 hL K)
  | 17, _ => exact kxI (fun _ hz => k_tab (tgt := 683) rfl (by decide) hz) (z_17 hW W i0 i6 hL K)
  | 18, _ => exact kxI (fun _ hz => k_tab (tgt := 716) rfl (by decide) hz) (z_18 hW W i0 i6 hL K)
  | 19, _ => exact kxI (fun _ hz => k_tab (tgt := 759) rfl (by decide) hz) (z_19 hW W i0 i6 hL K)
  | 20, _ => exact kxI (fun _ hz => k_tab (tgt := 782) rfl (by decide) hz) (z_20 hW W i0 i6 hL K)
  | 21, _ => exact kxI (fun _ hz => k_tab (tgt := 815) rfl (by decide) hz) (z_21 hW W i0 i6 hL K)
  | 22, _ => exact kxI (fun _ hz => k_tab (tgt := 838) rfl (by decide) hz) (z_22 hW W i0 i6 hL K)
  | 23, _ => exact kxI (fun _ hz => k_tab (tgt := 871) rfl (by decide) hz) (z_23 hW W i0 i6 hL K)
  | 24, _ => exact kxI (fun _ hz => k_tab (tgt := 904) rfl (by decide) hz) (z_24 hW W i0 i6 hL K)
  | 25, _ => exact kxI (fun _ hz => k_tab (tgt := 947) rfl (by decide) hz) (z_25 hW W i0 i6 hL K)
  | 26, _ => exact kxI (fun _ hz => k_tab (tgt := 960) rfl (by decide) hz) (z_26 hW W i0 i6 hL K)
  | 27, _ => exact kxI (fun _ hz => k_tab (tgt := 1003) rfl (by decide) hz) (z_27 hW W i0 i6 hL K)
  | 28, _ => exact kxI (fun _ hz => k_tab (tgt := 1026) rfl (by decide) hz) (z_28 hW W i0 i6 hL K)
  | 29, _ => exact kxI (fun _ hz => k_tab (tgt := 1069) rfl (by decide) hz) (z_29 hW W i0 i6 hL K)
  | 30, _ => exact kxI (fun _ hz => k_tab (tgt := 1092) rfl (by decide) hz) (z_30 hW W i0 i6 hL K)
  | 31, _ => exact kxI (fun _ hz => k_tab (tgt := 1115) rfl (by decide) hz) (z_31 hW W i0 i6 hL K)
  | k + 32, h => exact absurd h (by omega)
set_option maxRecDepth 100000 in
theorem z_loop (hW : WKx JW JK) (hL : L ≤ 3072) : ∀ {m : Nat} {H : gH} {i : Int32}, W4 JW JK H → 0 ≤ i.toInt → i.toInt ≤ 3072 → (L : Int) - 6 < i.toInt + 6 * m → kx (k_t xs L) 41 271 18 [(0, .float 0), (1, .ref 0), (2, .ref 40960), (3, .int i)] [] H (ZQ JW JK) := by
  have el : (Int32.ofNat L).toInt = (L : Int) := Int32.toInt_ofNat_of_lt (by omega)
  have l6 : (6 : Int32).toInt = 6 := by decide
  have es : (Int32.ofNat L - 6).toInt = (L : Int) - 6 := by rw [i_sub (by omega) (by omega), l6, el]
  intro m
  induction m with
  | zero =>
    intro H i W i0 i1 hm
    refine kxB (pc' := 24) (loc' := [(0, .float 0), (1, .ref 0), (2, .ref 40960), (3, .int i)]) (st' := [.int (Int32.ofNat L - 6), .int i]) 5 rfl ?_
    refine kxic rfl (fun _ => ?_) (fun hc => ?_)
    · refine kxB (pc' := 1145) (loc' := [(0, .float 0), (1, .ref 0), (2, .ref 40960), (3, .int i)]) (st' := [.int 1]) 1 rfl ?_
      exact kxR (k_zret rfl rfl (.inr rfl)) ⟨H, rfl, W⟩
    · rw [i_ngt] at hc
      omega
  | succ m ih =>
    intro H i W i0 i1 hm
    refine kxB (pc' := 24) (loc' := [(0, .float 0), (1, .ref 0), (2, .ref 40960), (3, .int i)]) (st' := [.int (Int32.ofNat L - 6), .int i]) 5 rfl ?_
    refine kxic rfl (fun _ => ?_) (fun hc => ?_)
    · refine kxB (pc' := 1145) (loc' := [(0, .float 0), (1, .ref 0), (2, .ref 40960), (3, .int i)]) (st' := [.int 1]) 1 rfl ?_
      exact kxR (k_zret rfl rfl (.inr rfl)) ⟨H, rfl, W⟩
    · rw [i_ngt] at hc
      have ei : (i + 6).toInt = i.toInt + 6 := by rw [i_add (by omega) (by omega), l6]
      refine kxB (pc' := 29) (loc' := [(0, .float 0), (1, .ref 0), (2, .ref 40960), (3, .int i)]) (st' := [.int i, .float 0]) 2 rfl ?_
      refine kx_sc rfl i0 (by omega) ?_
      refine kxB (pc' := 33) (loc' := [(0, .float 0), (1, .ref 0), (2, .ref 40960), (3, .int i)]) (st' := [.int (xs i.toNatClampNeg &&& 31)]) 2 rfl ?_
      obtain ⟨k, hk, ek⟩ := z_and (xs i.toNatClampNeg)
      rw [ek]
      refine z_sw hk hW W i0 (by omega) hL ?_
      intro H2 W2
      refine kxB (pc' := 18) (loc' := [(0, .float 0), (1, .ref 0), (2, .ref 40960), (3, .int (i + 6))]) (st' := []) 2 rfl ?_
      exact ih W2 (by omega) (by omega) (by omega)
end S9l
