/-! the constructors: run by the kernel from the empty heap (printed by wip/fresh.py) -/
def x_t : gT := k_t (fun _ => 0) 0
def x_o (o : Option (Option Value × gH)) : gH := match o with
  | some (_, h) => h
  | none => ((0, 0), fun _ => [])
def x_h0 : gH := ((1, 12), va_up (fun _ => []) 0 [.inr (11, k_df 11)])
def x_r1 : Option (Option Value × gH) := n_exec x_t c_lg 40000 40 98 0 [(0, .ref 0)] [] x_h0
def x_h1 (f : Nat → List gE) : gH := ((277 + 1, 8315 + 83), va_up f 40 [.inr (12, k_df 12)])
def x_r2 (o : Option (Option Value × gH)) : Option (Option Value × gH) := n_exec x_t c_lg 4000 40 138 0 [(0, .ref 40960)] [] (x_h1 (x_o o).2)
def x_rs : List Nat := [0, 1, 2, 3, 5, 6, 7, 8, 9, 10, 11, 12, 13, 14, 15, 16, 17, 18, 19, 20, 21, 22, 23, 24, 25, 27, 28, 29, 30, 31, 32, 33, 34, 35, 36, 37]
def x_sh (f : Nat → List gE) (r : Nat) : Bool := x_ses (f r) (c_lay (c_kind r) r (x_P r) (x_F r) (fun _ _ => 0) (fun _ _ => 0) [])
def y_F : Nat → Int32 := fun k => bif Nat.beq k 17 then (-1) else 0
def y_A : Nat → Nat → Int32 := fun o => bif Nat.beq o 41 then (upd (fun _ => 0) 0 480) else fun _ => 0
/-- the reference's int rows: place and length -/
def y_L : List (Nat × Nat) := [(1, 2000), (2, 2000), (3, 403), (4, 403), (5, 403), (9, 32), (10, 32), (11, 2), (12, 2), (13, 24), (14, 24), (15, 24), (16, 24), (17, 2), (18, 12), (19, 2), (20, 12), (21, 12), (22, 12), (23, 72), (24, 72), (25, 72), (26, 72), (27, 72), (28, 72), (29, 2), (30, 12), (31, 12), (32, 12), (33, 2), (34, 12), (35, 12), (36, 100), (37, 100), (38, 100), (39, 100), (40, 100), (41, 2), (42, 840), (43, 840), (44, 64), (45, 6), (46, 400), (47, 100), (48, 100), (49, 64), (50, 6), (51, 6), (52, 6), (53, 6), (54, 6), (55, 6), (56, 6), (57, 2000), (58, 30), (59, 30), (60, 30), (61, 3), (62, 300)]
def x_k1 : Option (Option Value × gH) → Bool
  | some (none, h) => decide (h.1 = (277, 8315)) && (h.2 40).isEmpty
  | _ => false
def x_k2 : Option (Option Value × gH) → Bool
  | some (none, h) => decide (h.1 = (340, 20126)) && (h.2 39).isEmpty && x_rs.all (x_sh h.2) && x_sh h.2 4 && x_sh h.2 26 && (List.range 20).all (fun i => x_rR (x_d (h.2 4) 1) i == some ((5 + i) * 1024)) && (List.range 3).all (fun i => x_rR (x_d (h.2 26) 0) i == some ((29 + i) * 1024)) && x_ses (h.2 40) (m_cells y_F y_A (fun _ _ => 0)) && y_L.all (fun q => (List.range q.2).all fun i => decide (x_rI (x_d (h.2 40) q.1) i = y_A q.1 i))
  | _ => false
theorem x_ok : (x_k1 x_r1 && x_k2 (x_r2 x_r1)) = true := by decide +kernel
