/-! the law's code around its calls (printed by wip/zlaw.py) -/
section ZL
variable {xs : Nat → Int32} {L d : Nat} {z : Option Value × gH} {h : gH}
set_option maxRecDepth 100000 in
theorem z_push {f : Nat → List gE} (hf : f 40 = []) : g_push c_lg ((277, 8315), f) (k_df 12).length (.inr (12, k_df 12)) = some (40960, x_h1 f) := by
  unfold g_push
  have e : c_lg 277 = 40960 := by decide +kernel
  show (if (f (c_lg 277 / 1024)).length = c_lg 277 % 1024 then some (c_lg 277, ((277 + 1, 8315 + (k_df 12).length), va_up f (c_lg 277 / 1024) (f (c_lg 277 / 1024) ++ [.inr (12, k_df 12)]))) else none) = _
  rw [e, show 40960 / 1024 = 40 from rfl, hf]
  rfl
set_option maxRecDepth 100000 in
theorem z_step {f : Nat → List gE} (hf : f 40 = []) {loc : List (Nat × Value)} : g_step (k_t xs L) k_tb c_lg k_df (k_mt 271).1.2.2.1 (.new 10) [12] 8 loc [] ((277, 8315), f) = some (8 + 3, loc, [.ref 40960], x_h1 f) := by
  have e : g_new c_lg k_df (.new 10) [12] [] ((277, 8315), f) = some ([.ref 40960], x_h1 f) := by
    unfold g_new
    simp only
    rw [z_push hf]
    rfl
  unfold g_step
  rw [show g_pure (.new 10) [] = none from rfl, show g_loc (k_mt 271).1.2.2.1 (.new 10) loc [] = none from rfl, show g_br (.new 10) [12] 8 [] = none from rfl, show g_mem (k_t xs L) (.new 10) [12] [] ((277, 8315), f) = none from rfl]
  dsimp only
  rw [e]
  rfl
set_option maxRecDepth 100000 in
theorem z_start (hr : k_run (k_t xs L) c_lg 41 271 18 [(0, .float 0), (1, .ref 0), (2, .ref 40960), (3, .int 0)] [] ((340, 20126), x_f) z) : k_run (k_t xs L) c_lg 41 271 0 [(0, .float 0)] [] ((0, 0), fun _ => []) z := by
  have c1 : k_run (k_t xs L) c_lg 40 98 0 [(0, .ref 0)] [] x_h0 (none, ((277, 8315), x_f1)) := n_run (t := x_t) (t' := k_t xs L) rfl rfl _ _ _ _ _ _ _ _ x_f_1
  have c2 : k_run (k_t xs L) c_lg 40 138 0 [(0, .ref 40960)] [] (x_h1 x_f1) (none, ((340, 20126), x_f)) := n_run (t := x_t) (t' := k_t xs L) rfl rfl _ _ _ _ _ _ _ _ x_f_3
  refine k_runB (pc' := 4) (loc' := [(0, .float 0)]) (st' := [.ref 0, .ref 0]) (h' := x_h0) 2 rfl ?_
  refine k_runC (as := [.ref 0]) (rest := [.ref 0]) rfl rfl rfl rfl c1 ?_
  refine k_runB (pc' := 8) (loc' := [(0, .float 0), (1, .ref 0)]) (st' := []) 1 rfl ?_
  refine k_runS rfl (z_step x_f_2) ?_
  refine k_runB (pc' := 12) (loc' := [(0, .float 0), (1, .ref 0)]) (st' := [.ref 40960, .ref 40960]) 1 rfl ?_
  refine k_runC (as := [.ref 40960]) (rest := [.ref 40960]) rfl rfl rfl rfl c2 ?_
  exact k_runB (pc' := 18) (loc' := [(0, .float 0), (1, .ref 0), (2, .ref 40960), (3, .int 0)]) (st' := []) 3 rfl hr
set_option maxRecDepth 100000 in
theorem z_tail : k_run (k_t xs 6) c_lg d 271 1138 [(0, .float 0), (1, .ref 0), (2, .ref 40960), (3, .int 0)] [] h (some (.int 1), h) := by
  refine k_runB (pc' := 24) (loc' := [(0, .float 0), (1, .ref 0), (2, .ref 40960), (3, .int 6)]) (st' := [.int (Int32.ofNat 6 - 6), .int 6]) 7 rfl ?_
  refine k_ic rfl (fun _ => ?_) (fun h => absurd h (by decide))
  refine k_runB (pc' := 1145) (loc' := [(0, .float 0), (1, .ref 0), (2, .ref 40960), (3, .int 6)]) (st' := [.int 1]) 1 rfl ?_
  exact k_zret rfl rfl (Or.inr rfl)
set_option maxRecDepth 100000 in
theorem z_gt : ∀ L, L < 6 → g_cnd .gt 0 (Int32.ofNat L - 6) = true := by decide
set_option maxRecDepth 100000 in
theorem z_short (hL : L < 6) : k_run (k_t xs L) c_lg d 271 18 [(0, .float 0), (1, .ref 0), (2, .ref 40960), (3, .int 0)] [] h (some (.int 1), h) := by
  refine k_runB (pc' := 24) (loc' := [(0, .float 0), (1, .ref 0), (2, .ref 40960), (3, .int 0)]) (st' := [.int (Int32.ofNat L - 6), .int 0]) 5 rfl ?_
  refine k_ic rfl (fun _ => ?_) (fun h => absurd (h.symm.trans (z_gt L hL)) (by decide))
  refine k_runB (pc' := 1145) (loc' := [(0, .float 0), (1, .ref 0), (2, .ref 40960), (3, .int 0)]) (st' := [.int 1]) 1 rfl ?_
  exact k_zret rfl rfl (Or.inr rfl)
set_option maxRecDepth 100000 in
theorem z_and (x : Int32) : ∃ k, k < 32 ∧ x &&& 31 = Int32.ofNat k := by
  refine ⟨(x &&& 31).toBitVec.toNat, ?_, ?_⟩
  · have h1 : (x &&& 31).toBitVec.toNat = x.toBitVec.toNat &&& 31 := rfl
    rw [h1]
    exact Nat.lt_of_le_of_lt Nat.and_le_right (by decide)
  · apply Int32.toBitVec_inj.mp
    show (x &&& 31).toBitVec = BitVec.ofNat 32 (x &&& 31).toBitVec.toNat
    simp
set_option maxRecDepth 100000 in
theorem z_long {pc : Nat} {k : Nat} (hk : xs 0 &&& 31 = Int32.ofNat k) (ht : (if (Int32.ofNat k).toInt < 0 ∨ 31 < (Int32.ofNat k).toInt then ([1138, 176, 239, 262, 275, 288, 321, 364, 397, 420, 453, 496, 529, 562, 595, 644, 657, 670, 683, 716, 759, 782, 815, 838, 871, 904, 947, 960, 1003, 1026, 1069, 1092, 1115] : List Nat)[0]? else ([1138, 176, 239, 262, 275, 288, 321, 364, 397, 420, 453, 496, 529, 562, 595, 644, 657, 670, 683, 716, 759, 782, 815, 838, 871, 904, 947, 960, 1003, 1026, 1069, 1092, 1115] : List Nat)[((Int32.ofNat k).toInt - 0).toNat + 1]?) = some pc) (hr : k_run (k_t xs 6) c_lg d 271 pc [(0, .float 0), (1, .ref 0), (2, .ref 40960), (3, .int 0)] [] h z) : k_run (k_t xs 6) c_lg d 271 18 [(0, .float 0), (1, .ref 0), (2, .ref 40960), (3, .int 0)] [] h z := by
  refine k_runB (pc' := 24) (loc' := [(0, .float 0), (1, .ref 0), (2, .ref 40960), (3, .int 0)]) (st' := [.int (Int32.ofNat 6 - 6), .int 0]) 5 rfl ?_
  refine k_ic rfl (fun h => absurd h (by decide)) (fun _ => ?_)
  refine k_runB (pc' := 33) (loc' := [(0, .float 0), (1, .ref 0), (2, .ref 40960), (3, .int 0)]) (st' := [.int (xs 0 &&& 31)]) 5 rfl ?_
  rw [hk]
  exact k_tab rfl ht hr
set_option maxRecDepth 100000 in
theorem z_op0 {v : Int32} {H H1 H2 : gH} {fs fs2 : List Value} (h0 : g_get H 0 = some (.inr (11, fs))) (hC : k_run (k_t xs 6) c_lg 40 99 0 [(0, .ref 0), (1, .int (xs 1)), (2, .int (xs 2)), (3, .int (xs 3)), (4, .int (xs 4)), (5, .int (xs 5))] [] H (some (.int v), H1)) (h1 : g_get H1 40960 = some (.inr (12, fs2))) (hM : k_run (k_t xs 6) c_lg 40 139 0 [(0, .ref 40960), (1, .int (xs 1)), (2, .int (xs 2)), (3, .int (xs 3)), (4, .int (xs 4)), (5, .int (xs 5))] [] H1 (some (.int v), H2)) : k_run (k_t xs 6) c_lg 41 271 176 [(0, .float 0), (1, .ref 0), (2, .ref 40960), (3, .int 0)] [] H (some (.int 1), H2) := by
  refine k_runB (pc' := 202) (loc' := [(0, .float 0), (1, .ref 0), (2, .ref 40960), (3, .int 0)]) (st' := [.int (xs 5), .int (xs 4), .int (xs 3), .int (xs 2), .int (xs 1), .ref 0]) 26 rfl ?_
  refine k_runV rfl rfl rfl h0 rfl rfl hC ?_
  refine k_runB (pc' := 231) (loc' := [(0, .float 0), (1, .ref 0), (2, .ref 40960), (3, .int 0)]) (st' := [.int (xs 5), .int (xs 4), .int (xs 3), .int (xs 2), .int (xs 1), .ref 40960, .int v]) 26 rfl ?_
  refine k_runV rfl rfl rfl h1 rfl rfl hM ?_
  exact k_ic rfl (fun _ => z_tail) (fun h => absurd (of_decide_eq_false h) (fun h => h rfl))
set_option maxRecDepth 100000 in
theorem z_op1 {v : Int32} {H H1 H2 : gH} {fs fs2 : List Value} (h0 : g_get H 0 = some (.inr (11, fs))) (hC : k_run (k_t xs 6) c_lg 40 100 0 [(0, .ref 0), (1, .int (xs 1))] [] H (some (.int v), H1)) (h1 : g_get H1 40960 = some (.inr (12, fs2))) (hM : k_run (k_t xs 6) c_lg 40 141 0 [(0, .ref 40960), (1, .int (xs 1))] [] H1 (some (.int v), H2)) : k_run (k_t xs 6) c_lg 41 271 239 [(0, .float 0), (1, .ref 0), (2, .ref 40960), (3, .int 0)] [] H (some (.int 1), H2) := by
  refine k_runB (pc' := 245) (loc' := [(0, .float 0), (1, .ref 0), (2, .ref 40960), (3, .int 0)]) (st' := [.int (xs 1), .ref 0]) 6 rfl ?_
  refine k_runV rfl rfl rfl h0 rfl rfl hC ?_
  refine k_runB (pc' := 254) (loc' := [(0, .float 0), (1, .ref 0), (2, .ref 40960), (3, .int 0)]) (st' := [.int (xs 1), .ref 40960, .int v]) 6 rfl ?_
  refine k_runV rfl rfl rfl h1 rfl rfl hM ?_
  exact k_ic rfl (fun _ => z_tail) (fun h => absurd (of_decide_eq_false h) (fun h => h rfl))
set_option maxRecDepth 100000 in
theorem z_op2 {v : Int32} {H H1 H2 : gH} {fs fs2 : List Value} (h0 : g_get H 0 = some (.inr (11, fs))) (hC : k_run (k_t xs 6) c_lg 40 101 0 [(0, .ref 0)] [] H (some (.int v), H1)) (h1 : g_get H1 40960 = some (.inr (12, fs2))) (hM : k_run (k_t xs 6) c_lg 40 155 0 [(0, .ref 40960)] [] H1 (some (.int v), H2)) : k_run (k_t xs 6) c_lg 41 271 262 [(0, .float 0), (1, .ref 0), (2, .ref 40960), (3, .int 0)] [] H (some (.int 1), H2) := by
  refine k_runB (pc' := 263) (loc' := [(0, .float 0), (1, .ref 0), (2, .ref 40960), (3, .int 0)]) (st' := [.ref 0]) 1 rfl ?_
  refine k_runV rfl rfl rfl h0 rfl rfl hC ?_
  refine k_runB (pc' := 267) (loc' := [(0, .float 0), (1, .ref 0), (2, .ref 40960), (3, .int 0)]) (st' := [.ref 40960, .int v]) 1 rfl ?_
  refine k_runV rfl rfl rfl h1 rfl rfl hM ?_
  exact k_ic rfl (fun _ => z_tail) (fun h => absurd (of_decide_eq_false h) (fun h => h rfl))
set_option maxRecDepth 100000 in
theorem z_op3 {v : Int32} {H H1 H2 : gH} {fs fs2 : List Value} (h0 : g_get H 0 = some (.inr (11, fs))) (hC : k_run (k_t xs 6) c_lg 40 103 0 [(0, .ref 0)] [] H (some (.int v), H1)) (h1 : g_get H1 40960 = some (.inr (12, fs2))) (hM : k_run (k_t xs 6) c_lg 40 156 0 [(0, .ref 40960)] [] H1 (some (.int v), H2)) : k_run (k_t xs 6) c_lg 41 271 275 [(0, .float 0), (1, .ref 0), (2, .ref 40960), (3, .int 0)] [] H (some (.int 1), H2) := by
  refine k_runB (pc' := 276) (loc' := [(0, .float 0), (1, .ref 0), (2, .ref 40960), (3, .int 0)]) (st' := [.ref 0]) 1 rfl ?_
  refine k_runV rfl rfl rfl h0 rfl rfl hC ?_
  refine k_runB (pc' := 280) (loc' := [(0, .float 0), (1, .ref 0), (2, .ref 40960), (3, .int 0)]) (st' := [.ref 40960, .int v]) 1 rfl ?_
  refine k_runV rfl rfl rfl h1 rfl rfl hM ?_
  exact k_ic rfl (fun _ => z_tail) (fun h => absurd (of_decide_eq_false h) (fun h => h rfl))
set_option maxRecDepth 100000 in
theorem z_op4 {v : Int32} {H H1 H2 : gH} {fs fs2 : List Value} (h0 : g_get H 0 = some (.inr (11, fs))) (hC : k_run (k_t xs 6) c_lg 40 104 0 [(0, .ref 0), (1, .int (xs 1)), (2, .int (xs 2))] [] H (some (.int v), H1)) (h1 : g_get H1 40960 = some (.inr (12, fs2))) (hM : k_run (k_t xs 6) c_lg 40 202 0 [(0, .ref 40960), (1, .int (xs 1)), (2, .int (xs 2))] [] H1 (some (.int v), H2)) : k_run (k_t xs 6) c_lg 41 271 288 [(0, .float 0), (1, .ref 0), (2, .ref 40960), (3, .int 0)] [] H (some (.int 1), H2) := by
  refine k_runB (pc' := 299) (loc' := [(0, .float 0), (1, .ref 0), (2, .ref 40960), (3, .int 0)]) (st' := [.int (xs 2), .int (xs 1), .ref 0]) 11 rfl ?_
  refine k_runV rfl rfl rfl h0 rfl rfl hC ?_
  refine k_runB (pc' := 313) (loc' := [(0, .float 0), (1, .ref 0), (2, .ref 40960), (3, .int 0)]) (st' := [.int (xs 2), .int (xs 1), .ref 40960, .int v]) 11 rfl ?_
  refine k_runV rfl rfl rfl h1 rfl rfl hM ?_
  exact k_ic rfl (fun _ => z_tail) (fun h => absurd (of_decide_eq_false h) (fun h => h rfl))
set_option maxRecDepth 100000 in
theorem z_op5 {v : Int32} {H H1 H2 : gH} {fs fs2 : List Value} (h0 : g_get H 0 = some (.inr (11, fs))) (hC : k_run (k_t xs 6) c_lg 40 105 0 [(0, .ref 0), (1, .int (xs 1)), (2, .int (xs 2)), (3, .int (xs 3))] [] H (some (.int v), H1)) (h1 : g_get H1 40960 = some (.inr (12, fs2))) (hM : k_run (k_t xs 6) c_lg 40 204 0 [(0, .ref 40960), (1, .int (xs 1)), (2, .int (xs 2)), (3, .int (xs 3))] [] H1 (some (.int v), H2)) : k_run (k_t xs 6) c_lg 41 271 321 [(0, .float 0), (1, .ref 0), (2, .ref 40960), (3, .int 0)] [] H (some (.int 1), H2) := by
  refine k_runB (pc' := 337) (loc' := [(0, .float 0), (1, .ref 0), (2, .ref 40960), (3, .int 0)]) (st' := [.int (xs 3), .int (xs 2), .int (xs 1), .ref 0]) 16 rfl ?_
  refine k_runV rfl rfl rfl h0 rfl rfl hC ?_
  refine k_runB (pc' := 356) (loc' := [(0, .float 0), (1, .ref 0), (2, .ref 40960), (3, .int 0)]) (st' := [.int (xs 3), .int (xs 2), .int (xs 1), .ref 40960, .int v]) 16 rfl ?_
  refine k_runV rfl rfl rfl h1 rfl rfl hM ?_
  exact k_ic rfl (fun _ => z_tail) (fun h => absurd (of_decide_eq_false h) (fun h => h rfl))
set_option maxRecDepth 100000 in
theorem z_op6 {v : Int32} {H H1 H2 : gH} {fs fs2 : List Value} (h0 : g_get H 0 = some (.inr (11, fs))) (hC : k_run (k_t xs 6) c_lg 40 106 0 [(0, .ref 0), (1, .int (xs 1)), (2, .int (xs 2))] [] H (some (.int v), H1)) (h1 : g_get H1 40960 = some (.inr (12, fs2))) (hM : k_run (k_t xs 6) c_lg 40 205 0 [(0, .ref 40960), (1, .int (xs 1)), (2, .int (xs 2))] [] H1 (some (.int v), H2)) : k_run (k_t xs 6) c_lg 41 271 364 [(0, .float 0), (1, .ref 0), (2, .ref 40960), (3, .int 0)] [] H (some (.int 1), H2) := by
  refine k_runB (pc' := 375) (loc' := [(0, .float 0), (1, .ref 0), (2, .ref 40960), (3, .int 0)]) (st' := [.int (xs 2), .int (xs 1), .ref 0]) 11 rfl ?_
  refine k_runV rfl rfl rfl h0 rfl rfl hC ?_
  refine k_runB (pc' := 389) (loc' := [(0, .float 0), (1, .ref 0), (2, .ref 40960), (3, .int 0)]) (st' := [.int (xs 2), .int (xs 1), .ref 40960, .int v]) 11 rfl ?_
  refine k_runV rfl rfl rfl h1 rfl rfl hM ?_
  exact k_ic rfl (fun _ => z_tail) (fun h => absurd (of_decide_eq_false h) (fun h => h rfl))
set_option maxRecDepth 100000 in
theorem z_op7 {v : Int32} {H H1 H2 : gH} {fs fs2 : List Value} (h0 : g_get H 0 = some (.inr (11, fs))) (hC : k_run (k_t xs 6) c_lg 40 112 0 [(0, .ref 0), (1, .int (xs 1))] [] H (some (.int v), H1)) (h1 : g_get H1 40960 = some (.inr (12, fs2))) (hM : k_run (k_t xs 6) c_lg 40 206 0 [(0, .ref 40960), (1, .int (xs 1))] [] H1 (some (.int v), H2)) : k_run (k_t xs 6) c_lg 41 271 397 [(0, .float 0), (1, .ref 0), (2, .ref 40960), (3, .int 0)] [] H (some (.int 1), H2) := by
  refine k_runB (pc' := 403) (loc' := [(0, .float 0), (1, .ref 0), (2, .ref 40960), (3, .int 0)]) (st' := [.int (xs 1), .ref 0]) 6 rfl ?_
  refine k_runV rfl rfl rfl h0 rfl rfl hC ?_
  refine k_runB (pc' := 412) (loc' := [(0, .float 0), (1, .ref 0), (2, .ref 40960), (3, .int 0)]) (st' := [.int (xs 1), .ref 40960, .int v]) 6 rfl ?_
  refine k_runV rfl rfl rfl h1 rfl rfl hM ?_
  exact k_ic rfl (fun _ => z_tail) (fun h => absurd (of_decide_eq_false h) (fun h => h rfl))
set_option maxRecDepth 100000 in
theorem z_op8 {v : Int32} {H H1 H2 : gH} {fs fs2 : List Value} (h0 : g_get H 0 = some (.inr (11, fs))) (hC : k_run (k_t xs 6) c_lg 40 113 0 [(0, .ref 0), (1, .int (xs 1)), (2, .int (xs 2))] [] H (some (.int v), H1)) (h1 : g_get H1 40960 = some (.inr (12, fs2))) (hM : k_run (k_t xs 6) c_lg 40 207 0 [(0, .ref 40960), (1, .int (xs 1)), (2, .int (xs 2))] [] H1 (some (.int v), H2)) : k_run (k_t xs 6) c_lg 41 271 420 [(0, .float 0), (1, .ref 0), (2, .ref 40960), (3, .int 0)] [] H (some (.int 1), H2) := by
  refine k_runB (pc' := 431) (loc' := [(0, .float 0), (1, .ref 0), (2, .ref 40960), (3, .int 0)]) (st' := [.int (xs 2), .int (xs 1), .ref 0]) 11 rfl ?_
  refine k_runV rfl rfl rfl h0 rfl rfl hC ?_
  refine k_runB (pc' := 445) (loc' := [(0, .float 0), (1, .ref 0), (2, .ref 40960), (3, .int 0)]) (st' := [.int (xs 2), .int (xs 1), .ref 40960, .int v]) 11 rfl ?_
  refine k_runV rfl rfl rfl h1 rfl rfl hM ?_
  exact k_ic rfl (fun _ => z_tail) (fun h => absurd (of_decide_eq_false h) (fun h => h rfl))
set_option maxRecDepth 100000 in
theorem z_op9 {v : Int32} {H H1 H2 : gH} {fs fs2 : List Value} (h0 : g_get H 0 = some (.inr (11, fs))) (hC : k_run (k_t xs 6) c_lg 40 114 0 [(0, .ref 0), (1, .int (xs 1)), (2, .int (xs 2)), (3, .int (xs 3))] [] H (some (.int v), H1)) (h1 : g_get H1 40960 = some (.inr (12, fs2))) (hM : k_run (k_t xs 6) c_lg 40 209 0 [(0, .ref 40960), (1, .int (xs 1)), (2, .int (xs 2)), (3, .int (xs 3))] [] H1 (some (.int v), H2)) : k_run (k_t xs 6) c_lg 41 271 453 [(0, .float 0), (1, .ref 0), (2, .ref 40960), (3, .int 0)] [] H (some (.int 1), H2) := by
  refine k_runB (pc' := 469) (loc' := [(0, .float 0), (1, .ref 0), (2, .ref 40960), (3, .int 0)]) (st' := [.int (xs 3), .int (xs 2), .int (xs 1), .ref 0]) 16 rfl ?_
  refine k_runV rfl rfl rfl h0 rfl rfl hC ?_
  refine k_runB (pc' := 488) (loc' := [(0, .float 0), (1, .ref 0), (2, .ref 40960), (3, .int 0)]) (st' := [.int (xs 3), .int (xs 2), .int (xs 1), .ref 40960, .int v]) 16 rfl ?_
  refine k_runV rfl rfl rfl h1 rfl rfl hM ?_
  exact k_ic rfl (fun _ => z_tail) (fun h => absurd (of_decide_eq_false h) (fun h => h rfl))
set_option maxRecDepth 100000 in
theorem z_op10 {v : Int32} {H H1 H2 : gH} {fs fs2 : List Value} (h0 : g_get H 0 = some (.inr (11, fs))) (hC : k_run (k_t xs 6) c_lg 40 115 0 [(0, .ref 0), (1, .int (xs 1)), (2, .int (xs 2))] [] H (some (.int v), H1)) (h1 : g_get H1 40960 = some (.inr (12, fs2))) (hM : k_run (k_t xs 6) c_lg 40 210 0 [(0, .ref 40960), (1, .int (xs 1)), (2, .int (xs 2))] [] H1 (some (.int v), H2)) : k_run (k_t xs 6) c_lg 41 271 496 [(0, .float 0), (1, .ref 0), (2, .ref 40960), (3, .int 0)] [] H (some (.int 1), H2) := by
  refine k_runB (pc' := 507) (loc' := [(0, .float 0), (1, .ref 0), (2, .ref 40960), (3, .int 0)]) (st' := [.int (xs 2), .int (xs 1), .ref 0]) 11 rfl ?_
  refine k_runV rfl rfl rfl h0 rfl rfl hC ?_
  refine k_runB (pc' := 521) (loc' := [(0, .float 0), (1, .ref 0), (2, .ref 40960), (3, .int 0)]) (st' := [.int (xs 2), .int (xs 1), .ref 40960, .int v]) 11 rfl ?_
  refine k_runV rfl rfl rfl h1 rfl rfl hM ?_
  exact k_ic rfl (fun _ => z_tail) (fun h => absurd (of_decide_eq_false h) (fun h => h rfl))
set_option maxRecDepth 100000 in
theorem z_op11 {v : Int32} {H H1 H2 : gH} {fs fs2 : List Value} (h0 : g_get H 0 = some (.inr (11, fs))) (hC : k_run (k_t xs 6) c_lg 40 116 0 [(0, .ref 0), (1, .int (xs 1)), (2, .int (xs 2))] [] H (some (.int v), H1)) (h1 : g_get H1 40960 = some (.inr (12, fs2))) (hM : k_run (k_t xs 6) c_lg 40 211 0 [(0, .ref 40960), (1, .int (xs 1)), (2, .int (xs 2))] [] H1 (some (.int v), H2)) : k_run (k_t xs 6) c_lg 41 271 529 [(0, .float 0), (1, .ref 0), (2, .ref 40960), (3, .int 0)] [] H (some (.int 1), H2) := by
  refine k_runB (pc' := 540) (loc' := [(0, .float 0), (1, .ref 0), (2, .ref 40960), (3, .int 0)]) (st' := [.int (xs 2), .int (xs 1), .ref 0]) 11 rfl ?_
  refine k_runV rfl rfl rfl h0 rfl rfl hC ?_
  refine k_runB (pc' := 554) (loc' := [(0, .float 0), (1, .ref 0), (2, .ref 40960), (3, .int 0)]) (st' := [.int (xs 2), .int (xs 1), .ref 40960, .int v]) 11 rfl ?_
  refine k_runV rfl rfl rfl h1 rfl rfl hM ?_
  exact k_ic rfl (fun _ => z_tail) (fun h => absurd (of_decide_eq_false h) (fun h => h rfl))
set_option maxRecDepth 100000 in
theorem z_op12 {v : Int32} {H H1 H2 : gH} {fs fs2 : List Value} (h0 : g_get H 0 = some (.inr (11, fs))) (hC : k_run (k_t xs 6) c_lg 40 117 0 [(0, .ref 0), (1, .int (xs 1)), (2, .int (xs 2))] [] H (some (.int v), H1)) (h1 : g_get H1 40960 = some (.inr (12, fs2))) (hM : k_run (k_t xs 6) c_lg 40 212 0 [(0, .ref 40960), (1, .int (xs 1)), (2, .int (xs 2))] [] H1 (some (.int v), H2)) : k_run (k_t xs 6) c_lg 41 271 562 [(0, .float 0), (1, .ref 0), (2, .ref 40960), (3, .int 0)] [] H (some (.int 1), H2) := by
  refine k_runB (pc' := 573) (loc' := [(0, .float 0), (1, .ref 0), (2, .ref 40960), (3, .int 0)]) (st' := [.int (xs 2), .int (xs 1), .ref 0]) 11 rfl ?_
  refine k_runV rfl rfl rfl h0 rfl rfl hC ?_
  refine k_runB (pc' := 587) (loc' := [(0, .float 0), (1, .ref 0), (2, .ref 40960), (3, .int 0)]) (st' := [.int (xs 2), .int (xs 1), .ref 40960, .int v]) 11 rfl ?_
  refine k_runV rfl rfl rfl h1 rfl rfl hM ?_
  exact k_ic rfl (fun _ => z_tail) (fun h => absurd (of_decide_eq_false h) (fun h => h rfl))
set_option maxRecDepth 100000 in
theorem z_op13 {v : Int32} {H H1 H2 : gH} {fs fs2 : List Value} {b : Int32} (hb : b = if xs 2 = 0 then 0 else 1) (h0 : g_get H 0 = some (.inr (11, fs))) (hC : k_run (k_t xs 6) c_lg 40 118 0 [(0, .ref 0), (1, .int (xs 1)), (2, .int b)] [] H (some (.int v), H1)) (h1 : g_get H1 40960 = some (.inr (12, fs2))) (hM : k_run (k_t xs 6) c_lg 40 213 0 [(0, .ref 40960), (1, .int (xs 1)), (2, .int b)] [] H1 (some (.int v), H2)) : k_run (k_t xs 6) c_lg 41 271 595 [(0, .float 0), (1, .ref 0), (2, .ref 40960), (3, .int 0)] [] H (some (.int 1), H2) := by
  refine k_runB (pc' := 606) (loc' := [(0, .float 0), (1, .ref 0), (2, .ref 40960), (3, .int 0)]) (st' := [.int (xs 2), .int (xs 1), .ref 0]) 11 rfl ?_
  refine k_if rfl (fun hc => ?_) (fun hc => ?_)
  · rw [if_pos (of_decide_eq_true hc)] at hb
    subst hb
    refine k_runB (pc' := 614) (loc' := [(0, .float 0), (1, .ref 0), (2, .ref 40960), (3, .int 0)]) (st' := [.int 0, .int (xs 1), .ref 0]) 1 rfl ?_
    refine k_runV rfl rfl rfl h0 rfl rfl hC ?_
    refine k_runB (pc' := 628) (loc' := [(0, .float 0), (1, .ref 0), (2, .ref 40960), (3, .int 0)]) (st' := [.int (xs 2), .int (xs 1), .ref 40960, .int v]) 11 rfl ?_
    refine k_if rfl (fun hc2 => ?_) (fun hc2 => ?_)
    · refine k_runB (pc' := 636) (loc' := [(0, .float 0), (1, .ref 0), (2, .ref 40960), (3, .int 0)]) (st' := [.int 0, .int (xs 1), .ref 40960, .int v]) 1 rfl ?_
      refine k_runV rfl rfl rfl h1 rfl rfl hM ?_
      exact k_ic rfl (fun _ => z_tail) (fun h => absurd (of_decide_eq_false h) (fun h => h rfl))
    · exact absurd (hc.symm.trans hc2) (by decide)
  · rw [if_neg (of_decide_eq_false hc)] at hb
    subst hb
    refine k_runB (pc' := 614) (loc' := [(0, .float 0), (1, .ref 0), (2, .ref 40960), (3, .int 0)]) (st' := [.int 1, .int (xs 1), .ref 0]) 2 rfl ?_
    refine k_runV rfl rfl rfl h0 rfl rfl hC ?_
    refine k_runB (pc' := 628) (loc' := [(0, .float 0), (1, .ref 0), (2, .ref 40960), (3, .int 0)]) (st' := [.int (xs 2), .int (xs 1), .ref 40960, .int v]) 11 rfl ?_
    refine k_if rfl (fun hc2 => ?_) (fun hc2 => ?_)
    · exact absurd (hc.symm.trans hc2) (by decide)
    · refine k_runB (pc' := 636) (loc' := [(0, .float 0), (1, .ref 0), (2, .ref 40960), (3, .int 0)]) (st' := [.int 1, .int (xs 1), .ref 40960, .int v]) 2 rfl ?_
      refine k_runV rfl rfl rfl h1 rfl rfl hM ?_
      exact k_ic rfl (fun _ => z_tail) (fun h => absurd (of_decide_eq_false h) (fun h => h rfl))
set_option maxRecDepth 100000 in
theorem z_op14 {v : Int32} {H H1 H2 : gH} {fs fs2 : List Value} (h0 : g_get H 0 = some (.inr (11, fs))) (hC : k_run (k_t xs 6) c_lg 40 119 0 [(0, .ref 0)] [] H (some (.int v), H1)) (h1 : g_get H1 40960 = some (.inr (12, fs2))) (hM : k_run (k_t xs 6) c_lg 40 214 0 [(0, .ref 40960)] [] H1 (some (.int v), H2)) : k_run (k_t xs 6) c_lg 41 271 644 [(0, .float 0), (1, .ref 0), (2, .ref 40960), (3, .int 0)] [] H (some (.int 1), H2) := by
  refine k_runB (pc' := 645) (loc' := [(0, .float 0), (1, .ref 0), (2, .ref 40960), (3, .int 0)]) (st' := [.ref 0]) 1 rfl ?_
  refine k_runV rfl rfl rfl h0 rfl rfl hC ?_
  refine k_runB (pc' := 649) (loc' := [(0, .float 0), (1, .ref 0), (2, .ref 40960), (3, .int 0)]) (st' := [.ref 40960, .int v]) 1 rfl ?_
  refine k_runV rfl rfl rfl h1 rfl rfl hM ?_
  exact k_ic rfl (fun _ => z_tail) (fun h => absurd (of_decide_eq_false h) (fun h => h rfl))
set_option maxRecDepth 100000 in
theorem z_op15 {v : Int32} {H H1 H2 : gH} {fs fs2 : List Value} (h0 : g_get H 0 = some (.inr (11, fs))) (hC : k_run (k_t xs 6) c_lg 40 120 0 [(0, .ref 0)] [] H (some (.int v), H1)) (h1 : g_get H1 40960 = some (.inr (12, fs2))) (hM : k_run (k_t xs 6) c_lg 40 215 0 [(0, .ref 40960)] [] H1 (some (.int v), H2)) : k_run (k_t xs 6) c_lg 41 271 657 [(0, .float 0), (1, .ref 0), (2, .ref 40960), (3, .int 0)] [] H (some (.int 1), H2) := by
  refine k_runB (pc' := 658) (loc' := [(0, .float 0), (1, .ref 0), (2, .ref 40960), (3, .int 0)]) (st' := [.ref 0]) 1 rfl ?_
  refine k_runV rfl rfl rfl h0 rfl rfl hC ?_
  refine k_runB (pc' := 662) (loc' := [(0, .float 0), (1, .ref 0), (2, .ref 40960), (3, .int 0)]) (st' := [.ref 40960, .int v]) 1 rfl ?_
  refine k_runV rfl rfl rfl h1 rfl rfl hM ?_
  exact k_ic rfl (fun _ => z_tail) (fun h => absurd (of_decide_eq_false h) (fun h => h rfl))
set_option maxRecDepth 100000 in
theorem z_op16 {v : Int32} {H H1 H2 : gH} {fs fs2 : List Value} (h0 : g_get H 0 = some (.inr (11, fs))) (hC : k_run (k_t xs 6) c_lg 40 121 0 [(0, .ref 0)] [] H (some (.int v), H1)) (h1 : g_get H1 40960 = some (.inr (12, fs2))) (hM : k_run (k_t xs 6) c_lg 40 216 0 [(0, .ref 40960)] [] H1 (some (.int v), H2)) : k_run (k_t xs 6) c_lg 41 271 670 [(0, .float 0), (1, .ref 0), (2, .ref 40960), (3, .int 0)] [] H (some (.int 1), H2) := by
  refine k_runB (pc' := 671) (loc' := [(0, .float 0), (1, .ref 0), (2, .ref 40960), (3, .int 0)]) (st' := [.ref 0]) 1 rfl ?_
  refine k_runV rfl rfl rfl h0 rfl rfl hC ?_
  refine k_runB (pc' := 675) (loc' := [(0, .float 0), (1, .ref 0), (2, .ref 40960), (3, .int 0)]) (st' := [.ref 40960, .int v]) 1 rfl ?_
  refine k_runV rfl rfl rfl h1 rfl rfl hM ?_
  exact k_ic rfl (fun _ => z_tail) (fun h => absurd (of_decide_eq_false h) (fun h => h rfl))
set_option maxRecDepth 100000 in
theorem z_op17 {v : Int32} {H H1 H2 : gH} {fs fs2 : List Value} (h0 : g_get H 0 = some (.inr (11, fs))) (hC : k_run (k_t xs 6) c_lg 40 122 0 [(0, .ref 0), (1, .int (xs 1)), (2, .int (xs 2))] [] H (some (.int v), H1)) (h1 : g_get H1 40960 = some (.inr (12, fs2))) (hM : k_run (k_t xs 6) c_lg 40 222 0 [(0, .ref 40960), (1, .int (xs 1)), (2, .int (xs 2))] [] H1 (some (.int v), H2)) : k_run (k_t xs 6) c_lg 41 271 683 [(0, .float 0), (1, .ref 0), (2, .ref 40960), (3, .int 0)] [] H (some (.int 1), H2) := by
  refine k_runB (pc' := 694) (loc' := [(0, .float 0), (1, .ref 0), (2, .ref 40960), (3, .int 0)]) (st' := [.int (xs 2), .int (xs 1), .ref 0]) 11 rfl ?_
  refine k_runV rfl rfl rfl h0 rfl rfl hC ?_
  refine k_runB (pc' := 708) (loc' := [(0, .float 0), (1, .ref 0), (2, .ref 40960), (3, .int 0)]) (st' := [.int (xs 2), .int (xs 1), .ref 40960, .int v]) 11 rfl ?_
  refine k_runV rfl rfl rfl h1 rfl rfl hM ?_
  exact k_ic rfl (fun _ => z_tail) (fun h => absurd (of_decide_eq_false h) (fun h => h rfl))
set_option maxRecDepth 100000 in
theorem z_op18 {v : Int32} {H H1 H2 : gH} {fs fs2 : List Value} (h0 : g_get H 0 = some (.inr (11, fs))) (hC : k_run (k_t xs 6) c_lg 40 123 0 [(0, .ref 0), (1, .int (xs 1)), (2, .int (xs 2)), (3, .int (xs 3))] [] H (some (.int v), H1)) (h1 : g_get H1 40960 = some (.inr (12, fs2))) (hM : k_run (k_t xs 6) c_lg 40 223 0 [(0, .ref 40960), (1, .int (xs 1)), (2, .int (xs 2)), (3, .int (xs 3))] [] H1 (some (.int v), H2)) : k_run (k_t xs 6) c_lg 41 271 716 [(0, .float 0), (1, .ref 0), (2, .ref 40960), (3, .int 0)] [] H (some (.int 1), H2) := by
  refine k_runB (pc' := 732) (loc' := [(0, .float 0), (1, .ref 0), (2, .ref 40960), (3, .int 0)]) (st' := [.int (xs 3), .int (xs 2), .int (xs 1), .ref 0]) 16 rfl ?_
  refine k_runV rfl rfl rfl h0 rfl rfl hC ?_
  refine k_runB (pc' := 751) (loc' := [(0, .float 0), (1, .ref 0), (2, .ref 40960), (3, .int 0)]) (st' := [.int (xs 3), .int (xs 2), .int (xs 1), .ref 40960, .int v]) 16 rfl ?_
  refine k_runV rfl rfl rfl h1 rfl rfl hM ?_
  exact k_ic rfl (fun _ => z_tail) (fun h => absurd (of_decide_eq_false h) (fun h => h rfl))
set_option maxRecDepth 100000 in
theorem z_op19 {v : Int32} {H H1 H2 : gH} {fs fs2 : List Value} (h0 : g_get H 0 = some (.inr (11, fs))) (hC : k_run (k_t xs 6) c_lg 40 125 0 [(0, .ref 0), (1, .int (xs 1))] [] H (some (.int v), H1)) (h1 : g_get H1 40960 = some (.inr (12, fs2))) (hM : k_run (k_t xs 6) c_lg 40 224 0 [(0, .ref 40960), (1, .int (xs 1))] [] H1 (some (.int v), H2)) : k_run (k_t xs 6) c_lg 41 271 759 [(0, .float 0), (1, .ref 0), (2, .ref 40960), (3, .int 0)] [] H (some (.int 1), H2) := by
  refine k_runB (pc' := 765) (loc' := [(0, .float 0), (1, .ref 0), (2, .ref 40960), (3, .int 0)]) (st' := [.int (xs 1), .ref 0]) 6 rfl ?_
  refine k_runV rfl rfl rfl h0 rfl rfl hC ?_
  refine k_runB (pc' := 774) (loc' := [(0, .float 0), (1, .ref 0), (2, .ref 40960), (3, .int 0)]) (st' := [.int (xs 1), .ref 40960, .int v]) 6 rfl ?_
  refine k_runV rfl rfl rfl h1 rfl rfl hM ?_
  exact k_ic rfl (fun _ => z_tail) (fun h => absurd (of_decide_eq_false h) (fun h => h rfl))
set_option maxRecDepth 100000 in
theorem z_op20 {v : Int32} {H H1 H2 : gH} {fs fs2 : List Value} (h0 : g_get H 0 = some (.inr (11, fs))) (hC : k_run (k_t xs 6) c_lg 40 126 0 [(0, .ref 0), (1, .int (xs 1)), (2, .int (xs 2))] [] H (some (.int v), H1)) (h1 : g_get H1 40960 = some (.inr (12, fs2))) (hM : k_run (k_t xs 6) c_lg 40 225 0 [(0, .ref 40960), (1, .int (xs 1)), (2, .int (xs 2))] [] H1 (some (.int v), H2)) : k_run (k_t xs 6) c_lg 41 271 782 [(0, .float 0), (1, .ref 0), (2, .ref 40960), (3, .int 0)] [] H (some (.int 1), H2) := by
  refine k_runB (pc' := 793) (loc' := [(0, .float 0), (1, .ref 0), (2, .ref 40960), (3, .int 0)]) (st' := [.int (xs 2), .int (xs 1), .ref 0]) 11 rfl ?_
  refine k_runV rfl rfl rfl h0 rfl rfl hC ?_
  refine k_runB (pc' := 807) (loc' := [(0, .float 0), (1, .ref 0), (2, .ref 40960), (3, .int 0)]) (st' := [.int (xs 2), .int (xs 1), .ref 40960, .int v]) 11 rfl ?_
  refine k_runV rfl rfl rfl h1 rfl rfl hM ?_
  exact k_ic rfl (fun _ => z_tail) (fun h => absurd (of_decide_eq_false h) (fun h => h rfl))
set_option maxRecDepth 100000 in
theorem z_op21 {v : Int32} {H H1 H2 : gH} {fs fs2 : List Value} (h0 : g_get H 0 = some (.inr (11, fs))) (hC : k_run (k_t xs 6) c_lg 40 127 0 [(0, .ref 0), (1, .int (xs 1))] [] H (some (.int v), H1)) (h1 : g_get H1 40960 = some (.inr (12, fs2))) (hM : k_run (k_t xs 6) c_lg 40 227 0 [(0, .ref 40960), (1, .int (xs 1))] [] H1 (some (.int v), H2)) : k_run (k_t xs 6) c_lg 41 271 815 [(0, .float 0), (1, .ref 0), (2, .ref 40960), (3, .int 0)] [] H (some (.int 1), H2) := by
  refine k_runB (pc' := 821) (loc' := [(0, .float 0), (1, .ref 0), (2, .ref 40960), (3, .int 0)]) (st' := [.int (xs 1), .ref 0]) 6 rfl ?_
  refine k_runV rfl rfl rfl h0 rfl rfl hC ?_
  refine k_runB (pc' := 830) (loc' := [(0, .float 0), (1, .ref 0), (2, .ref 40960), (3, .int 0)]) (st' := [.int (xs 1), .ref 40960, .int v]) 6 rfl ?_
  refine k_runV rfl rfl rfl h1 rfl rfl hM ?_
  exact k_ic rfl (fun _ => z_tail) (fun h => absurd (of_decide_eq_false h) (fun h => h rfl))
set_option maxRecDepth 100000 in
theorem z_op22 {v : Int32} {H H1 H2 : gH} {fs fs2 : List Value} (h0 : g_get H 0 = some (.inr (11, fs))) (hC : k_run (k_t xs 6) c_lg 40 128 0 [(0, .ref 0), (1, .int (xs 1)), (2, .int (xs 2))] [] H (some (.int v), H1)) (h1 : g_get H1 40960 = some (.inr (12, fs2))) (hM : k_run (k_t xs 6) c_lg 40 228 0 [(0, .ref 40960), (1, .int (xs 1)), (2, .int (xs 2))] [] H1 (some (.int v), H2)) : k_run (k_t xs 6) c_lg 41 271 838 [(0, .float 0), (1, .ref 0), (2, .ref 40960), (3, .int 0)] [] H (some (.int 1), H2) := by
  refine k_runB (pc' := 849) (loc' := [(0, .float 0), (1, .ref 0), (2, .ref 40960), (3, .int 0)]) (st' := [.int (xs 2), .int (xs 1), .ref 0]) 11 rfl ?_
  refine k_runV rfl rfl rfl h0 rfl rfl hC ?_
  refine k_runB (pc' := 863) (loc' := [(0, .float 0), (1, .ref 0), (2, .ref 40960), (3, .int 0)]) (st' := [.int (xs 2), .int (xs 1), .ref 40960, .int v]) 11 rfl ?_
  refine k_runV rfl rfl rfl h1 rfl rfl hM ?_
  exact k_ic rfl (fun _ => z_tail) (fun h => absurd (of_decide_eq_false h) (fun h => h rfl))
set_option maxRecDepth 100000 in
theorem z_op23 {v : Int32} {H H1 H2 : gH} {fs fs2 : List Value} (h0 : g_get H 0 = some (.inr (11, fs))) (hC : k_run (k_t xs 6) c_lg 40 129 0 [(0, .ref 0), (1, .int (xs 1)), (2, .int (xs 2))] [] H (some (.int v), H1)) (h1 : g_get H1 40960 = some (.inr (12, fs2))) (hM : k_run (k_t xs 6) c_lg 40 229 0 [(0, .ref 40960), (1, .int (xs 1)), (2, .int (xs 2))] [] H1 (some (.int v), H2)) : k_run (k_t xs 6) c_lg 41 271 871 [(0, .float 0), (1, .ref 0), (2, .ref 40960), (3, .int 0)] [] H (some (.int 1), H2) := by
  refine k_runB (pc' := 882) (loc' := [(0, .float 0), (1, .ref 0), (2, .ref 40960), (3, .int 0)]) (st' := [.int (xs 2), .int (xs 1), .ref 0]) 11 rfl ?_
  refine k_runV rfl rfl rfl h0 rfl rfl hC ?_
  refine k_runB (pc' := 896) (loc' := [(0, .float 0), (1, .ref 0), (2, .ref 40960), (3, .int 0)]) (st' := [.int (xs 2), .int (xs 1), .ref 40960, .int v]) 11 rfl ?_
  refine k_runV rfl rfl rfl h1 rfl rfl hM ?_
  exact k_ic rfl (fun _ => z_tail) (fun h => absurd (of_decide_eq_false h) (fun h => h rfl))
set_option maxRecDepth 100000 in
theorem z_op24 {v : Int32} {H H1 H2 : gH} {fs fs2 : List Value} (h0 : g_get H 0 = some (.inr (11, fs))) (hC : k_run (k_t xs 6) c_lg 40 130 0 [(0, .ref 0), (1, .int (xs 1)), (2, .int (xs 2)), (3, .int (xs 3))] [] H (some (.int v), H1)) (h1 : g_get H1 40960 = some (.inr (12, fs2))) (hM : k_run (k_t xs 6) c_lg 40 230 0 [(0, .ref 40960), (1, .int (xs 1)), (2, .int (xs 2)), (3, .int (xs 3))] [] H1 (some (.int v), H2)) : k_run (k_t xs 6) c_lg 41 271 904 [(0, .float 0), (1, .ref 0), (2, .ref 40960), (3, .int 0)] [] H (some (.int 1), H2) := by
  refine k_runB (pc' := 920) (loc' := [(0, .float 0), (1, .ref 0), (2, .ref 40960), (3, .int 0)]) (st' := [.int (xs 3), .int (xs 2), .int (xs 1), .ref 0]) 16 rfl ?_
  refine k_runV rfl rfl rfl h0 rfl rfl hC ?_
  refine k_runB (pc' := 939) (loc' := [(0, .float 0), (1, .ref 0), (2, .ref 40960), (3, .int 0)]) (st' := [.int (xs 3), .int (xs 2), .int (xs 1), .ref 40960, .int v]) 16 rfl ?_
  refine k_runV rfl rfl rfl h1 rfl rfl hM ?_
  exact k_ic rfl (fun _ => z_tail) (fun h => absurd (of_decide_eq_false h) (fun h => h rfl))
set_option maxRecDepth 100000 in
theorem z_op25 {v : Int32} {H H1 H2 : gH} {fs fs2 : List Value} (h0 : g_get H 0 = some (.inr (11, fs))) (hC : k_run (k_t xs 6) c_lg 40 131 0 [(0, .ref 0)] [] H (some (.int v), H1)) (h1 : g_get H1 40960 = some (.inr (12, fs2))) (hM : k_run (k_t xs 6) c_lg 40 231 0 [(0, .ref 40960)] [] H1 (some (.int v), H2)) : k_run (k_t xs 6) c_lg 41 271 947 [(0, .float 0), (1, .ref 0), (2, .ref 40960), (3, .int 0)] [] H (some (.int 1), H2) := by
  refine k_runB (pc' := 948) (loc' := [(0, .float 0), (1, .ref 0), (2, .ref 40960), (3, .int 0)]) (st' := [.ref 0]) 1 rfl ?_
  refine k_runV rfl rfl rfl h0 rfl rfl hC ?_
  refine k_runB (pc' := 952) (loc' := [(0, .float 0), (1, .ref 0), (2, .ref 40960), (3, .int 0)]) (st' := [.ref 40960, .int v]) 1 rfl ?_
  refine k_runV rfl rfl rfl h1 rfl rfl hM ?_
  exact k_ic rfl (fun _ => z_tail) (fun h => absurd (of_decide_eq_false h) (fun h => h rfl))
set_option maxRecDepth 100000 in
theorem z_op26 {v : Int32} {H H1 H2 : gH} {fs fs2 : List Value} (h0 : g_get H 0 = some (.inr (11, fs))) (hC : k_run (k_t xs 6) c_lg 40 132 0 [(0, .ref 0), (1, .int (xs 1)), (2, .int (xs 2)), (3, .int (xs 3))] [] H (some (.int v), H1)) (h1 : g_get H1 40960 = some (.inr (12, fs2))) (hM : k_run (k_t xs 6) c_lg 40 233 0 [(0, .ref 40960), (1, .int (xs 1)), (2, .int (xs 2)), (3, .int (xs 3))] [] H1 (some (.int v), H2)) : k_run (k_t xs 6) c_lg 41 271 960 [(0, .float 0), (1, .ref 0), (2, .ref 40960), (3, .int 0)] [] H (some (.int 1), H2) := by
  refine k_runB (pc' := 976) (loc' := [(0, .float 0), (1, .ref 0), (2, .ref 40960), (3, .int 0)]) (st' := [.int (xs 3), .int (xs 2), .int (xs 1), .ref 0]) 16 rfl ?_
  refine k_runV rfl rfl rfl h0 rfl rfl hC ?_
  refine k_runB (pc' := 995) (loc' := [(0, .float 0), (1, .ref 0), (2, .ref 40960), (3, .int 0)]) (st' := [.int (xs 3), .int (xs 2), .int (xs 1), .ref 40960, .int v]) 16 rfl ?_
  refine k_runV rfl rfl rfl h1 rfl rfl hM ?_
  exact k_ic rfl (fun _ => z_tail) (fun h => absurd (of_decide_eq_false h) (fun h => h rfl))
set_option maxRecDepth 100000 in
theorem z_op27 {v : Int32} {H H1 H2 : gH} {fs fs2 : List Value} (h0 : g_get H 0 = some (.inr (11, fs))) (hC : k_run (k_t xs 6) c_lg 40 133 0 [(0, .ref 0), (1, .int (xs 1))] [] H (some (.int v), H1)) (h1 : g_get H1 40960 = some (.inr (12, fs2))) (hM : k_run (k_t xs 6) c_lg 40 235 0 [(0, .ref 40960), (1, .int (xs 1))] [] H1 (some (.int v), H2)) : k_run (k_t xs 6) c_lg 41 271 1003 [(0, .float 0), (1, .ref 0), (2, .ref 40960), (3, .int 0)] [] H (some (.int 1), H2) := by
  refine k_runB (pc' := 1009) (loc' := [(0, .float 0), (1, .ref 0), (2, .ref 40960), (3, .int 0)]) (st' := [.int (xs 1), .ref 0]) 6 rfl ?_
  refine k_runV rfl rfl rfl h0 rfl rfl hC ?_
  refine k_runB (pc' := 1018) (loc' := [(0, .float 0), (1, .ref 0), (2, .ref 40960), (3, .int 0)]) (st' := [.int (xs 1), .ref 40960, .int v]) 6 rfl ?_
  refine k_runV rfl rfl rfl h1 rfl rfl hM ?_
  exact k_ic rfl (fun _ => z_tail) (fun h => absurd (of_decide_eq_false h) (fun h => h rfl))
set_option maxRecDepth 100000 in
theorem z_op28 {v : Int32} {H H1 H2 : gH} {fs fs2 : List Value} (h0 : g_get H 0 = some (.inr (11, fs))) (hC : k_run (k_t xs 6) c_lg 40 134 0 [(0, .ref 0), (1, .int (xs 1)), (2, .int (xs 2)), (3, .int (xs 3))] [] H (some (.int v), H1)) (h1 : g_get H1 40960 = some (.inr (12, fs2))) (hM : k_run (k_t xs 6) c_lg 40 236 0 [(0, .ref 40960), (1, .int (xs 1)), (2, .int (xs 2)), (3, .int (xs 3))] [] H1 (some (.int v), H2)) : k_run (k_t xs 6) c_lg 41 271 1026 [(0, .float 0), (1, .ref 0), (2, .ref 40960), (3, .int 0)] [] H (some (.int 1), H2) := by
  refine k_runB (pc' := 1042) (loc' := [(0, .float 0), (1, .ref 0), (2, .ref 40960), (3, .int 0)]) (st' := [.int (xs 3), .int (xs 2), .int (xs 1), .ref 0]) 16 rfl ?_
  refine k_runV rfl rfl rfl h0 rfl rfl hC ?_
  refine k_runB (pc' := 1061) (loc' := [(0, .float 0), (1, .ref 0), (2, .ref 40960), (3, .int 0)]) (st' := [.int (xs 3), .int (xs 2), .int (xs 1), .ref 40960, .int v]) 16 rfl ?_
  refine k_runV rfl rfl rfl h1 rfl rfl hM ?_
  exact k_ic rfl (fun _ => z_tail) (fun h => absurd (of_decide_eq_false h) (fun h => h rfl))
set_option maxRecDepth 100000 in
theorem z_op29 {v : Int32} {H H1 H2 : gH} {fs fs2 : List Value} (h0 : g_get H 0 = some (.inr (11, fs))) (hC : k_run (k_t xs 6) c_lg 40 135 0 [(0, .ref 0), (1, .int (xs 1))] [] H (some (.int v), H1)) (h1 : g_get H1 40960 = some (.inr (12, fs2))) (hM : k_run (k_t xs 6) c_lg 40 237 0 [(0, .ref 40960), (1, .int (xs 1))] [] H1 (some (.int v), H2)) : k_run (k_t xs 6) c_lg 41 271 1069 [(0, .float 0), (1, .ref 0), (2, .ref 40960), (3, .int 0)] [] H (some (.int 1), H2) := by
  refine k_runB (pc' := 1075) (loc' := [(0, .float 0), (1, .ref 0), (2, .ref 40960), (3, .int 0)]) (st' := [.int (xs 1), .ref 0]) 6 rfl ?_
  refine k_runV rfl rfl rfl h0 rfl rfl hC ?_
  refine k_runB (pc' := 1084) (loc' := [(0, .float 0), (1, .ref 0), (2, .ref 40960), (3, .int 0)]) (st' := [.int (xs 1), .ref 40960, .int v]) 6 rfl ?_
  refine k_runV rfl rfl rfl h1 rfl rfl hM ?_
  exact k_ic rfl (fun _ => z_tail) (fun h => absurd (of_decide_eq_false h) (fun h => h rfl))
set_option maxRecDepth 100000 in
theorem z_op30 {v : Int32} {H H1 H2 : gH} {fs fs2 : List Value} (h0 : g_get H 0 = some (.inr (11, fs))) (hC : k_run (k_t xs 6) c_lg 40 136 0 [(0, .ref 0), (1, .int (xs 1))] [] H (some (.int v), H1)) (h1 : g_get H1 40960 = some (.inr (12, fs2))) (hM : k_run (k_t xs 6) c_lg 40 238 0 [(0, .ref 40960), (1, .int (xs 1))] [] H1 (some (.int v), H2)) : k_run (k_t xs 6) c_lg 41 271 1092 [(0, .float 0), (1, .ref 0), (2, .ref 40960), (3, .int 0)] [] H (some (.int 1), H2) := by
  refine k_runB (pc' := 1098) (loc' := [(0, .float 0), (1, .ref 0), (2, .ref 40960), (3, .int 0)]) (st' := [.int (xs 1), .ref 0]) 6 rfl ?_
  refine k_runV rfl rfl rfl h0 rfl rfl hC ?_
  refine k_runB (pc' := 1107) (loc' := [(0, .float 0), (1, .ref 0), (2, .ref 40960), (3, .int 0)]) (st' := [.int (xs 1), .ref 40960, .int v]) 6 rfl ?_
  refine k_runV rfl rfl rfl h1 rfl rfl hM ?_
  exact k_ic rfl (fun _ => z_tail) (fun h => absurd (of_decide_eq_false h) (fun h => h rfl))
set_option maxRecDepth 100000 in
theorem z_op31 {v : Int32} {H H1 H2 : gH} {fs fs2 : List Value} (h0 : g_get H 0 = some (.inr (11, fs))) (hC : k_run (k_t xs 6) c_lg 40 137 0 [(0, .ref 0), (1, .int (xs 1))] [] H (some (.int v), H1)) (h1 : g_get H1 40960 = some (.inr (12, fs2))) (hM : k_run (k_t xs 6) c_lg 40 239 0 [(0, .ref 40960), (1, .int (xs 1))] [] H1 (some (.int v), H2)) : k_run (k_t xs 6) c_lg 41 271 1115 [(0, .float 0), (1, .ref 0), (2, .ref 40960), (3, .int 0)] [] H (some (.int 1), H2) := by
  refine k_runB (pc' := 1121) (loc' := [(0, .float 0), (1, .ref 0), (2, .ref 40960), (3, .int 0)]) (st' := [.int (xs 1), .ref 0]) 6 rfl ?_
  refine k_runV rfl rfl rfl h0 rfl rfl hC ?_
  refine k_runB (pc' := 1130) (loc' := [(0, .float 0), (1, .ref 0), (2, .ref 40960), (3, .int 0)]) (st' := [.int (xs 1), .ref 40960, .int v]) 6 rfl ?_
  refine k_runV rfl rfl rfl h1 rfl rfl hM ?_
  exact k_ic rfl (fun _ => z_tail) (fun h => absurd (of_decide_eq_false h) (fun h => h rfl))
end ZL
