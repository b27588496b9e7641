/-! the beginning: what the constructors leave -/
section S9m
def x_L3 : List (Nat × Nat × Nat × Int × Int) := [(27, 1, 12, -1, 7), (27, 2, 12, -1, 7), (27, 4, 6, -1, 7), (27, 5, 6, 0, 0), (27, 10, 36, -2, 5), (27, 12, 6, -1, 7), (28, 1, 12, -1, 7), (28, 2, 12, -1, 7), (28, 4, 6, -1, 7), (28, 5, 6, 0, 6), (28, 10, 36, -2, 5), (28, 12, 6, -1, 7), (25, 1, 30, 0, 35), (36, 4, 6, -1, 5), (36, 5, 6, 0, 5), (2, 3, 6, -1, -1)]
def x_k3 : Option (Option Value × gH) → Bool
  | some (_, h) => x_L3.all (fun q => (List.range q.2.2.1).all fun i => decide (q.2.2.2.1 ≤ (x_rI (x_d (h.2 q.1) q.2.1) i).toInt ∧ (x_rI (x_d (h.2 q.1) q.2.1) i).toInt ≤ q.2.2.2.2))
  | none => false
theorem x_ok3 : x_k3 (x_r2 x_r1) = true := by decide +kernel
end S9m
