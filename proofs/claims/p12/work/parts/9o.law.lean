/-! the law, whatever the script -/
section S9o
variable {xs : Nat → Int32} {L d : Nat} {z : Option Value × gH} {h : gH}
set_option maxRecDepth 100000 in
theorem z_push {f : Nat → List gE} (hf : f 40 = []) : g_push c_lg ((277, 8315), f) (k_df 12).length (.inr (12, k_df 12)) = some (40960, x_h1 f) := by
  unfold g_push
  have e : c_lg 277 = 40960 := by decide +kernel
  show (if (f (c_lg 277 / 1024)).length = c_lg 277 % 1024 then some (c_lg 277, ((277 + 1, 8315 + (k_df 12).length), va_up f (c_lg 277 / 1024) (f (c_lg 277 / 1024) ++ [.inr (12, k_df 12)]))) else none) = _
  rw [e, show 40960 / 1024 = 40 from rfl, hf]
  rfl
set_option maxRecDepth 100000 in
theorem z_step {f : Nat → List gE} (hf : f 40 = []) {loc : List (Nat × Value)} : g_step (k_t xs L) k_tb c_lg k_df (k_mt 271).1.2.2.1 (.new 10) [12] 8 loc [] ((277, 8315), f) = some (8 + 3, loc, [.ref 40960], x_h1 f) := by
  have e : g_new c_lg k_df (.new 10) [12] [] ((277, 8315), f) = some ([.ref 40960], x_h1 f) := by
    unfold g_new
    simp only
    rw [z_push hf]
    rfl
  unfold g_step
  rw [show g_pure (.new 10) [] = none from rfl, show g_loc (k_mt 271).1.2.2.1 (.new 10) loc [] = none from rfl, show g_br (.new 10) [12] 8 [] = none from rfl, show g_mem (k_t xs L) (.new 10) [12] [] ((277, 8315), f) = none from rfl]
  dsimp only
  rw [e]
  rfl
set_option maxRecDepth 100000 in
theorem z_start (hr : k_run (k_t xs L) c_lg 41 271 18 [(0, .float 0), (1, .ref 0), (2, .ref 40960), (3, .int 0)] [] ((340, 20126), x_f) z) : k_run (k_t xs L) c_lg 41 271 0 [(0, .float 0)] [] ((0, 0), fun _ => []) z := by
  have c1 : k_run (k_t xs L) c_lg 40 98 0 [(0, .ref 0)] [] x_h0 (none, ((277, 8315), x_f1)) := n_run (t := x_t) (t' := k_t xs L) rfl rfl _ _ _ _ _ _ _ _ x_f_1
  have c2 : k_run (k_t xs L) c_lg 40 138 0 [(0, .ref 40960)] [] (x_h1 x_f1) (none, ((340, 20126), x_f)) := n_run (t := x_t) (t' := k_t xs L) rfl rfl _ _ _ _ _ _ _ _ x_f_3
  refine k_runB (pc' := 4) (loc' := [(0, .float 0)]) (st' := [.ref 0, .ref 0]) (h' := x_h0) 2 rfl ?_
  refine k_runC (as := [.ref 0]) (rest := [.ref 0]) rfl rfl rfl rfl c1 ?_
  refine k_runB (pc' := 8) (loc' := [(0, .float 0), (1, .ref 0)]) (st' := []) 1 rfl ?_
  refine k_runS rfl (z_step x_f_2) ?_
  refine k_runB (pc' := 12) (loc' := [(0, .float 0), (1, .ref 0)]) (st' := [.ref 40960, .ref 40960]) 1 rfl ?_
  refine k_runC (as := [.ref 40960]) (rest := [.ref 40960]) rfl rfl rfl rfl c2 ?_
  exact k_runB (pc' := 18) (loc' := [(0, .float 0), (1, .ref 0), (2, .ref 40960), (3, .int 0)]) (st' := []) 3 rfl hr
theorem SEc.rm {c : Nat × Nat} {B : Nat → List gE} {P : Nat → Nat → Nat} (S : SEc c B P) : c.1 ≤ 600000 ∧ c.2 ≤ 7302250 := by
  rcases S with ⟨x, -, -, y⟩ | ⟨j, e, x, y, -, u, v, -, w⟩
  · omega
  · have := two_e v
    omega
theorem z_law (hL : L ≤ 3072) : ∃ (n : Nat) (h' : gH), g_exec (k_t xs L) k_tb c_lg k_df k_mt n 41 k_LAW 0 [(0, .float 0)] [] ((0, 0), fun _ => []) = some (some (.int 1), h') ∧ h'.1.1 ≤ 600000 ∧ h'.1.2 ≤ 7302250 := by
  obtain ⟨z, hz, H', rfl, W⟩ := z_loop (xs := xs) z_WK hL (m := 512) (i := 0) x_W4 (by decide) (by decide) (by rw [show (0 : Int32).toInt = 0 by decide]; omega)
  obtain ⟨n, hn⟩ := z_start hz
  obtain ⟨c, B, P, F, A, J, yF, yA, yJ, rfl, -, S, -⟩ := W
  exact ⟨n, _, hn, S.rm.1, S.rm.2⟩
end S9o
