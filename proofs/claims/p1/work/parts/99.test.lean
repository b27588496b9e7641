def y_hm (f : Nat → List gE) : gH := ((278, 8315 + (k_df 12).length), va_up f 40 [.inr (12, k_df 12)])
def y_runm (xs : Nat → Int32) (L : Nat) (f : Nat → List gE) : Option (Option Value × gH) := g_exec (k_t xs L) k_tb c_lg k_df k_mt 4000 10 138 0 [(0, .ref 40960)] [] (y_hm f)
def y_ckm : Option (Option Value × gH) → Bool
  | some (none, h) => decide (h.1 = (340, 20126))
  | _ => false
theorem y_m_ok : (fun xs L f => y_ckm (y_runm xs L f)) = fun _ _ _ => true := by eq_refl
