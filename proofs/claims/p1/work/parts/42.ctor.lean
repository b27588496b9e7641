/-! the constructors: run by the kernel from the empty heap (printed by wip/fresh.py) -/
def x_t : gT := k_t (fun _ => 0) 0
def x_h0 : gH := ((1, 12), va_up (fun _ => []) 0 [.inr (11, k_df 11)])
def x_r1 : Option (Option Value × gH) := n_exec x_t k_tb c_lg k_df k_mt 40000 40 98 0 [(0, .ref 0)] [] x_h0
def x_rs : List Nat := [0, 1, 2, 3, 5, 6, 7, 8, 9, 10, 11, 12, 13, 14, 15, 16, 17, 18, 19, 20, 21, 22, 23, 24, 25, 27, 28, 29, 30, 31, 32, 33, 34, 35, 36, 37]
def x_sh (f : Nat → List gE) (r : Nat) : Bool := x_ses (f r) (c_lay (c_kind r) r (x_P r) (x_F r) (fun _ _ => 0) (fun _ _ => 0) [])
def x_k1 : Option (Option Value × gH) → Bool
  | some (none, h) => decide (h.1 = (277, 8315)) && (h.2 39).isEmpty && (h.2 40).isEmpty && x_rs.all (x_sh h.2) && x_sh h.2 4 && x_sh h.2 26 && (List.range 20).all (fun i => x_rR (x_d (h.2 4) 1) i == some ((5 + i) * 1024)) && (List.range 3).all (fun i => x_rR (x_d (h.2 26) 0) i == some ((29 + i) * 1024))
  | _ => false
theorem x_ok : x_k1 x_r1 = true := by decide +kernel
