section C5m
variable {n m N : Nat} {w : Nat → Int64} {F : Nat → Int32} {A : Nat → Nat → Int32} {J : Nat → Nat → Int64} {x1 x2 x3 x4 x5 x6 x7 x8 x9 x10 s0 s1 s2 s3 s4 : Int32}
def JQ (w : Nat → Int64) {α : Type} (r : mR α) : Prop := r.2.2.2 7 = w
theorem jm_fail (h : J 7 = w) : po (d_fail F A J x1) (JQ w) := by
  unfold d_fail
  ((try dsimp only); repeat' (first | exact po_some (by assumption) | refine po_cond (fun _ => ?_) (fun _ => ?_) | refine po_bl (fun _ _ => ?_)))
theorem jm_failAt (h : J 7 = w) : po (d_failAt F A J x1 x2) (JQ w) := by
  unfold d_failAt
  ((try dsimp only); repeat' (first | exact po_some (by assumption) | refine po_cond (fun _ => ?_) (fun _ => ?_) | refine po_bl (fun _ _ => ?_)))
theorem jm_wrong (h : J 7 = w) : po (d_wrong F A J x1 x2) (JQ w) := by
  unfold d_wrong d_wrong_46
  ((try dsimp only); repeat' (first | exact po_some (by assumption) | refine po_cond (fun _ => ?_) (fun _ => ?_) | refine po_bl (fun _ _ => ?_)))
theorem jm_goes (h : J 7 = w) : po (d_goesOn F A J) (JQ w) := by
  unfold d_goesOn
  ((try dsimp only); repeat' (first | exact po_some (by assumption) | (refine po_call (jm_fail (by assumption)) ?_; rintro ⟨_, _, _, _⟩ _; dsimp only) | exact jm_fail (by assumption) | refine po_cond (fun _ => ?_) (fun _ => ?_) | refine po_bl (fun _ _ => ?_)))
theorem jm_must (h : J 7 = w) : po (d_must F A J x1) (JQ w) := by
  unfold d_must
  ((try dsimp only); repeat' (first | exact po_some (by assumption) | (refine po_call (jm_fail (by assumption)) ?_; rintro ⟨_, _, _, _⟩ _; dsimp only) | exact jm_fail (by assumption) | (refine po_call (jm_goes (by assumption)) ?_; rintro ⟨_, _, _, _⟩ _; dsimp only) | exact jm_goes (by assumption) | refine po_cond (fun _ => ?_) (fun _ => ?_) | refine po_bl (fun _ _ => ?_)))
theorem jm_named12 : ∀ {n : Nat} {F : Nat → Int32} {A : Nat → Nat → Int32} {J : Nat → Nat → Int64} {x1 x2 : Int32}, J 7 = w → po (d_named_12 n F A J x1 x2) (JQ w) := by
  intro n
  induction n with
  | zero => intro F A J x1 x2 _ r hr; cases hr
  | succ n ih =>
    intro F A J x1 x2 h
    unfold d_named_12 d_named_49
    refine po_cond (fun _ => po_some h) (fun _ => po_cond (fun _ => po_some h) (fun _ => po_bl (fun _ _ => po_bl (fun _ _ => po_cond (fun _ => ih h) (fun _ => ?_)))))
    refine po_call (jm_wrong h) ?_
    rintro ⟨_, _, _, _⟩ h1
    exact ih h1
theorem jm_named (h : J 7 = w) : po (d_named n F A J) (JQ w) := by
  unfold d_named
  refine po_call (jm_must h) ?_
  rintro ⟨_, _, _, _⟩ h1
  exact jm_named12 h1
theorem jm_notes (h : J 7 = w) : po (d_notes F A J x1 x2 x3) (JQ w) := by
  intro r hr
  obtain ⟨F', A', J', rfl, -, -, -, -, -, -, -, -, -, -, -, -, hJ⟩ := g_notes hr
  show J' 7 = w
  rw [hJ 7 (by decide)]
  exact h
theorem jm_known21 : ∀ {n : Nat} {F : Nat → Int32} {A : Nat → Nat → Int32} {J : Nat → Nat → Int64} {x1 x2 x3 : Int32}, J 7 = w → po (d_known_21 n F A J x1 x2 x3) (JQ w) := by
  intro n
  induction n with
  | zero => intro F A J x1 x2 x3 _ r hr; cases hr
  | succ n ih =>
    intro F A J x1 x2 x3 h
    unfold d_known_21 d_known_62
    refine po_cond (fun _ => ?_) (fun _ => po_bl (fun _ _ => po_bl (fun _ _ => po_cond (fun _ => ih h) (fun _ => po_bl (fun _ _ => po_cond (fun _ => ih h) (fun _ => po_bl (fun _ _ => po_some h)))))))
    ((try dsimp only); repeat' (first | exact po_some (by assumption) | (refine po_call (jm_wrong (by assumption)) ?_; rintro ⟨_, _, _, _⟩ _; dsimp only) | exact jm_wrong (by assumption) | refine po_cond (fun _ => ?_) (fun _ => ?_) | refine po_bl (fun _ _ => ?_)))
theorem jm_known (h : J 7 = w) : po (d_known n F A J x1) (JQ w) := by
  unfold d_known
  refine po_call (jm_must h) ?_
  rintro ⟨_, _, _, _⟩ h1
  exact po_cond (fun _ => jm_known21 h1) (fun _ => po_some h1)
theorem jm_num (h : J 7 = w) : po (d_bounded F A J x1 x2) (JQ w) := by
  unfold d_bounded d_bounded_15 d_bounded_42 d_bounded_51
  ((try dsimp only); repeat' (first | exact po_some (by assumption) | (refine po_call (jm_fail (by assumption)) ?_; rintro ⟨_, _, _, _⟩ _; dsimp only) | exact jm_fail (by assumption) | (refine po_call (jm_wrong (by assumption)) ?_; rintro ⟨_, _, _, _⟩ _; dsimp only) | exact jm_wrong (by assumption) | (refine po_call (jm_goes (by assumption)) ?_; rintro ⟨_, _, _, _⟩ _; dsimp only) | exact jm_goes (by assumption) | refine po_cond (fun _ => ?_) (fun _ => ?_) | refine po_bl (fun _ _ => ?_)))
theorem jm_first (h : J 7 = w) : po (d_roomFor F A J x1 x2) (JQ w) := by
  unfold d_roomFor d_roomFor_10
  ((try dsimp only); repeat' (first | exact po_some (by assumption) | (refine po_call (jm_fail (by assumption)) ?_; rintro ⟨_, _, _, _⟩ _; dsimp only) | exact jm_fail (by assumption) | (refine po_call (jm_goes (by assumption)) ?_; rintro ⟨_, _, _, _⟩ _; dsimp only) | exact jm_goes (by assumption) | refine po_cond (fun _ => ?_) (fun _ => ?_) | refine po_bl (fun _ _ => ?_)))
theorem jm_emit (h : J 7 = w) : po (d_emit F A J x1 x2) (JQ w) := by
  unfold d_emit
  ((try dsimp only); repeat' (first | exact po_some (by assumption) | refine po_cond (fun _ => ?_) (fun _ => ?_) | refine po_bl (fun _ _ => ?_)))
theorem jm_out (h : J 7 = w) : po (d_comesOut n F A J x1) (JQ w) := by
  refine po_mono out_po ?_
  rintro _ ⟨F', A', rfl, -⟩
  exact h
theorem jm_unit (h : J 7 = w) : po (d_unit F A J) (JQ w) := by
  have z88 : po (d_unit_88 F A J) (JQ w) := by
    unfold d_unit_88
    refine po_call (jm_fail h) ?_
    rintro ⟨_, F1, A1, J1⟩ h1
    exact po_some h1
  have ze : ∀ {y1 y2 : Int32}, po ((d_emit F A J y1 y2).bind fun (_, F10, A11, J12) => (d_goesOn F10 A11 J12).bind fun (_, F14, A15, J16) => some ((), F14, A15, J16)) (JQ w) := by
    intro y1 y2
    refine po_call (jm_emit h) ?_
    rintro ⟨_, F1, A1, J1⟩ h1
    refine po_call (jm_goes h1) ?_
    rintro ⟨_, F2, A2, J2⟩ h2
    exact po_some h2
  unfold d_unit
  exact po_bl (fun _ _ => po_cond (fun _ => po_cond (fun _ => z88) (fun _ => po_bl (fun _ _ => po_cond (fun _ => z88) (fun _ => po_bl (fun _ _ => po_cond (fun _ => z88) (fun _ => po_bl (fun _ _ => ze))))))) (fun _ => po_bl (fun _ _ => ze)))
theorem jm_y {K12 : (Nat → Int32) → (Nat → Nat → Int32) → (Nat → Nat → Int64) → Int32 → Int32 → Option (mR Unit)} (hK : ∀ F A J y z, J 7 = w → po (K12 F A J y z) (JQ w)) : ∀ {n : Nat} {F : Nat → Int32} {A : Nat → Nat → Int32} {J : Nat → Nat → Int64} {x1 : Int32}, J 7 = w → po (d_expression_96 K12 n F A J x1) (JQ w) := by
  have z234 : ∀ {n : Nat} {F A J} {x1 x2 s : Int32}, J 7 = w → po (d_expression_234 K12 n F A J x1 x2 s) (JQ w) := by
    intro n F A J x1 x2 s h
    unfold d_expression_234
    refine po_call (jm_out h) ?_
    rintro ⟨_, F1, A1, J1⟩ h1
    refine po_bl (fun _ _ => po_bl (fun _ _ => po_bl (fun _ _ => ?_)))
    refine po_call (jm_goes h1) ?_
    rintro ⟨_, F2, A2, J2⟩ h2
    exact hK _ _ _ _ _ h2
  have z186 : ∀ {n : Nat} {F A J} {x1 s : Int32}, J 7 = w → po (d_expression_186 K12 n F A J x1 s) (JQ w) := by
    intro n F A J x1 s h
    unfold d_expression_186 d_expression_229 d_expression_204
    refine po_cond (fun _ => po_bl (fun _ _ => po_cond (fun _ => z234 h) (fun _ => po_bl (fun _ _ => po_cond (fun _ => z234 h) (fun _ => z234 h))))) (fun _ => po_cond (fun _ => ?_) (fun _ => ?_))
    · ((try dsimp only); repeat' (first | exact po_some (by assumption) | (refine po_call (jm_out (by assumption)) ?_; rintro ⟨_, _, _, _⟩ _; dsimp only) | exact jm_out (by assumption) | refine po_cond (fun _ => ?_) (fun _ => ?_) | refine po_bl (fun _ _ => ?_)))
    · ((try dsimp only); repeat' (first | exact po_some (by assumption) | (refine po_call (jm_fail (by assumption)) ?_; rintro ⟨_, _, _, _⟩ _; dsimp only) | exact jm_fail (by assumption) | (refine po_call (jm_out (by assumption)) ?_; rintro ⟨_, _, _, _⟩ _; dsimp only) | exact jm_out (by assumption) | refine po_cond (fun _ => ?_) (fun _ => ?_) | refine po_bl (fun _ _ => ?_)))
  have z145 : ∀ {n : Nat} {F A J} {x1 : Int32}, J 7 = w → po (d_expression_145 K12 n F A J x1) (JQ w) := by
    intro n F A J x1 h
    unfold d_expression_145 d_expression_181
    exact po_bl (fun _ _ => po_cond (fun _ => z186 h) (fun _ => po_bl (fun _ _ => po_cond (fun _ => z186 h) (fun _ => po_bl (fun _ _ => po_cond (fun _ => z186 h) (fun _ => po_bl (fun _ _ => po_cond (fun _ => z186 h) (fun _ => z186 h))))))))
  intro n
  induction n with
  | zero => intro F A J x1 _ r hr; cases hr
  | succ n ih =>
    intro F A J x1 h
    unfold d_expression_96
    refine po_bl (fun _ _ => po_cond (fun _ => z145 h) (fun _ => po_cond (fun _ => z145 h) (fun _ => ?_)))
    refine po_call (jm_out h) ?_
    rintro ⟨_, F1, A1, J1⟩ h1
    refine po_bl (fun _ _ => po_bl (fun _ _ => ?_))
    refine po_call (jm_goes h1) ?_
    rintro ⟨_, F2, A2, J2⟩ h2
    exact ih h2
theorem jm_x {K12 : (Nat → Int32) → (Nat → Nat → Int32) → (Nat → Nat → Int64) → Int32 → Int32 → Option (mR Unit)} (hK : ∀ F A J y z, J 7 = w → po (K12 F A J y z) (JQ w)) : ∀ {n : Nat} {F : Nat → Int32} {A : Nat → Nat → Int32} {J : Nat → Nat → Int64} {x1 : Int32}, J 7 = w → po (d_expression_23 K12 n F A J x1) (JQ w) := by
  intro n
  induction n with
  | zero => intro F A J x1 _ r hr; cases hr
  | succ n ih =>
    intro F A J x1 h
    unfold d_expression_23 d_expression_46
    refine po_bl (fun _ _ => po_cond (fun _ => ?_) (fun _ => po_cond (fun _ => ?_) (fun _ => ?_)))
    · refine po_call (jm_unit h) ?_
      rintro ⟨_, F1, A1, J1⟩ h1
      exact po_cond (fun _ => jm_y hK h1) (fun _ => po_some h1)
    · refine po_bl (fun _ _ => ?_)
      refine po_call (jm_goes h) ?_
      rintro ⟨_, F1, A1, J1⟩ h1
      exact po_bl (fun _ _ => po_bl (fun _ _ => ih h1))
    · refine po_call (jm_fail h) ?_
      rintro ⟨_, F1, A1, J1⟩ h1
      refine po_bl (fun _ _ => ?_)
      refine po_call (jm_goes h1) ?_
      rintro ⟨_, F2, A2, J2⟩ h2
      exact po_bl (fun _ _ => po_bl (fun _ _ => ih h2))
theorem jm_12 : ∀ {N : Nat} {F : Nat → Int32} {A : Nat → Nat → Int32} {J : Nat → Nat → Int64} {x1 x2 : Int32}, J 7 = w → po (d_expression_12 N F A J x1 x2) (JQ w) := by
  intro N
  induction N with
  | zero => intro F A J x1 x2 _ r hr; cases hr
  | succ N ih =>
    intro F A J x1 x2 h
    unfold d_expression_12
    exact po_cond (fun _ => po_some h) (fun _ => po_cond (fun _ => po_some h) (fun _ => jm_x (fun _ _ _ _ _ hh => ih hh) h))
theorem jm_expr (h : J 7 = w) : po (d_expression n F A J) (JQ w) := by
  unfold d_expression
  exact po_bl (fun _ _ => jm_12 h)
theorem jm_term (h : J 7 = w) : po (d_term n F A J) (JQ w) := by
  unfold d_term d_term_24
  ((try dsimp only); repeat' (first | exact po_some (by assumption) | (refine po_call (jm_expr (by assumption)) ?_; rintro ⟨_, _, _, _⟩ _; dsimp only) | exact jm_expr (by assumption) | refine po_cond (fun _ => ?_) (fun _ => ?_) | refine po_bl (fun _ _ => ?_)))
theorem jm_135 (h : J 7 = w) : po (d_tellLaw_135 n F A J x1 x2) (JQ w) := by
  unfold d_tellLaw_135
  refine po_bl (fun _ _ => ?_)
  refine po_call (jm_term h) ?_
  rintro ⟨_, F1, A1, J1⟩ h1
  refine po_call (jm_must h1) ?_
  rintro ⟨_, F2, A2, J2⟩ h2
  exact po_cond (fun _ => po_bl (fun _ _ => po_bl (fun _ _ => po_cond (fun _ => po_bl (fun _ _ => po_bl (fun _ _ => po_some h2))) (fun _ => po_some h2)))) (fun _ => po_some h2)
theorem jm_18 : ∀ {n : Nat} {F : Nat → Int32} {A : Nat → Nat → Int32} {J : Nat → Nat → Int64} {x1 x2 x3 : Int32}, J 7 = w → po (d_tellLaw_18 n F A J x1 x2 x3) (JQ w) := by
  intro n
  induction n with
  | zero => intro F A J x1 x2 x3 _ r hr; cases hr
  | succ n ih =>
    intro F A J x1 x2 x3 h
    have z116 : ∀ {n' : Nat} {F A J} {y : Int32}, J 7 = w → po (d_tellLaw_116 (d_tellLaw_18 n) n' F A J x1 x2 y) (JQ w) := by
      intro n' F A J y h
      unfold d_tellLaw_116
      refine po_call (jm_must h) ?_
      rintro ⟨_, F1, A1, J1⟩ h1
      refine po_call (jm_term h1) ?_
      rintro ⟨_, F2, A2, J2⟩ h2
      refine po_call (jm_must h2) ?_
      rintro ⟨_, F3, A3, J3⟩ h3
      exact ih h3
    have z44 : ∀ {F A J} {y : Int32}, J 7 = w → po (d_tellLaw_44 (d_tellLaw_18 n) n F A J x1 x2 y) (JQ w) := by
      intro F A J y h
      unfold d_tellLaw_44
      refine po_cond (fun _ => ?_) (fun _ => po_some h)
      refine po_call (jm_goes h) ?_
      rintro ⟨_, F1, A1, J1⟩ h1
      refine po_bl (fun _ _ => po_bl (fun _ _ => ?_))
      refine po_call (jm_expr h1) ?_
      rintro ⟨_, F2, A2, J2⟩ h2
      refine po_call (jm_must h2) ?_
      rintro ⟨_, F3, A3, J3⟩ h3
      refine po_bl (fun _ _ => po_cond (fun _ => z116 h3) (fun _ => ?_))
      refine po_call (jm_expr h3) ?_
      rintro ⟨_, F4, A4, J4⟩ h4
      exact z116 h4
    unfold d_tellLaw_18
    refine po_cond (fun _ => jm_135 h) (fun _ => po_bl (fun _ _ => po_cond (fun _ => jm_135 h) (fun _ => po_cond (fun _ => z44 h) (fun _ => ?_))))
    refine po_call (jm_fail h) ?_
    rintro ⟨_, F1, A1, J1⟩ h1
    exact z44 h1
theorem jm_tLaw (h : J 7 = w) : po (d_tellLaw n F A J) (JQ w) := by
  unfold d_tellLaw
  ((try dsimp only); repeat' (first | exact po_some (by assumption) | (refine po_call (jm_known (by assumption)) ?_; rintro ⟨_, _, _, _⟩ _; dsimp only) | exact jm_known (by assumption) | (refine po_call (jm_must (by assumption)) ?_; rintro ⟨_, _, _, _⟩ _; dsimp only) | exact jm_must (by assumption) | (refine po_call (jm_18 (by assumption)) ?_; rintro ⟨_, _, _, _⟩ _; dsimp only) | exact jm_18 (by assumption) | refine po_cond (fun _ => ?_) (fun _ => ?_) | refine po_bl (fun _ _ => ?_)))
theorem jm_tRoom (h : J 7 = w) : po (d_tellRoom n F A J) (JQ w) := by
  unfold d_tellRoom
  ((try dsimp only); repeat' (first | exact po_some (by assumption) | (refine po_call (jm_named (by assumption)) ?_; rintro ⟨_, _, _, _⟩ _; dsimp only) | exact jm_named (by assumption) | (refine po_call (jm_must (by assumption)) ?_; rintro ⟨_, _, _, _⟩ _; dsimp only) | exact jm_must (by assumption) | (refine po_call (jm_notes (by assumption)) ?_; rintro ⟨_, _, _, _⟩ _; dsimp only) | exact jm_notes (by assumption) | refine po_cond (fun _ => ?_) (fun _ => ?_) | refine po_bl (fun _ _ => ?_)))
theorem jm_d135 (h : J 7 = w) : po (d_tellDoor_135 n F A J) (JQ w) := by
  unfold d_tellDoor_135
  ((try dsimp only); repeat' (first | exact po_some (by assumption) | (refine po_call (jm_must (by assumption)) ?_; rintro ⟨_, _, _, _⟩ _; dsimp only) | exact jm_must (by assumption) | refine po_cond (fun _ => ?_) (fun _ => ?_) | refine po_bl (fun _ _ => ?_)))
theorem jm_d121 (h : J 7 = w) : po (d_tellDoor_121 n F A J x1 s1 s2) (JQ w) := by
  unfold d_tellDoor_121
  ((try dsimp only); repeat' (first | exact po_some (by assumption) | (refine po_call (jm_d135 (by assumption)) ?_; rintro ⟨_, _, _, _⟩ _; dsimp only) | exact jm_d135 (by assumption) | (refine po_call (jm_goes (by assumption)) ?_; rintro ⟨_, _, _, _⟩ _; dsimp only) | exact jm_goes (by assumption) | (refine po_call (jm_must (by assumption)) ?_; rintro ⟨_, _, _, _⟩ _; dsimp only) | exact jm_must (by assumption) | refine po_cond (fun _ => ?_) (fun _ => ?_) | refine po_bl (fun _ _ => ?_)))
theorem jm_d120 (h : J 7 = w) : po (d_tellDoor_120 n F A J x1 s1) (JQ w) := jm_d121 h
theorem jm_d82 (h : J 7 = w) : po (d_tellDoor_82 n F A J x1) (JQ w) := by
  unfold d_tellDoor_82
  ((try dsimp only); repeat' (first | exact po_some (by assumption) | (refine po_call (jm_num (by assumption)) ?_; rintro ⟨_, _, _, _⟩ _; dsimp only) | exact jm_num (by assumption) | (refine po_call (jm_d120 (by assumption)) ?_; rintro ⟨_, _, _, _⟩ _; dsimp only) | exact jm_d120 (by assumption) | (refine po_call (jm_d121 (by assumption)) ?_; rintro ⟨_, _, _, _⟩ _; dsimp only) | exact jm_d121 (by assumption) | refine po_cond (fun _ => ?_) (fun _ => ?_) | refine po_bl (fun _ _ => ?_)))
theorem jm_tDoor (h : J 7 = w) : po (d_tellDoor n F A J) (JQ w) := by
  unfold d_tellDoor
  ((try dsimp only); repeat' (first | exact po_some (by assumption) | (refine po_call (jm_known (by assumption)) ?_; rintro ⟨_, _, _, _⟩ _; dsimp only) | exact jm_known (by assumption) | (refine po_call (jm_d82 (by assumption)) ?_; rintro ⟨_, _, _, _⟩ _; dsimp only) | exact jm_d82 (by assumption) | (refine po_call (jm_wrong (by assumption)) ?_; rintro ⟨_, _, _, _⟩ _; dsimp only) | exact jm_wrong (by assumption) | (refine po_call (jm_num (by assumption)) ?_; rintro ⟨_, _, _, _⟩ _; dsimp only) | exact jm_num (by assumption) | (refine po_call (jm_d120 (by assumption)) ?_; rintro ⟨_, _, _, _⟩ _; dsimp only) | exact jm_d120 (by assumption) | (refine po_call (jm_d121 (by assumption)) ?_; rintro ⟨_, _, _, _⟩ _; dsimp only) | exact jm_d121 (by assumption) | refine po_cond (fun _ => ?_) (fun _ => ?_) | refine po_bl (fun _ _ => ?_)))
theorem jm_tTool (h : J 7 = w) : po (d_tellTool n F A J) (JQ w) := by
  unfold d_tellTool
  ((try dsimp only); repeat' (first | exact po_some (by assumption) | (refine po_call (jm_named (by assumption)) ?_; rintro ⟨_, _, _, _⟩ _; dsimp only) | exact jm_named (by assumption) | (refine po_call (jm_known (by assumption)) ?_; rintro ⟨_, _, _, _⟩ _; dsimp only) | exact jm_known (by assumption) | (refine po_call (jm_must (by assumption)) ?_; rintro ⟨_, _, _, _⟩ _; dsimp only) | exact jm_must (by assumption) | (refine po_call (jm_notes (by assumption)) ?_; rintro ⟨_, _, _, _⟩ _; dsimp only) | exact jm_notes (by assumption) | refine po_cond (fun _ => ?_) (fun _ => ?_) | refine po_bl (fun _ _ => ?_)))
theorem jm_tTask (h : J 7 = w) : po (d_tellTask n F A J) (JQ w) := by
  unfold d_tellTask
  ((try dsimp only); repeat' (first | exact po_some (by assumption) | (refine po_call (jm_named (by assumption)) ?_; rintro ⟨_, _, _, _⟩ _; dsimp only) | exact jm_named (by assumption) | (refine po_call (jm_known (by assumption)) ?_; rintro ⟨_, _, _, _⟩ _; dsimp only) | exact jm_known (by assumption) | (refine po_call (jm_num (by assumption)) ?_; rintro ⟨_, _, _, _⟩ _; dsimp only) | exact jm_num (by assumption) | (refine po_call (jm_must (by assumption)) ?_; rintro ⟨_, _, _, _⟩ _; dsimp only) | exact jm_must (by assumption) | (refine po_call (jm_notes (by assumption)) ?_; rintro ⟨_, _, _, _⟩ _; dsimp only) | exact jm_notes (by assumption) | refine po_cond (fun _ => ?_) (fun _ => ?_) | refine po_bl (fun _ _ => ?_)))
theorem jm_174 (h : J 7 = w) : po (d_tellStep_174 n F A J x2 x4 x5 x6 x7 x8 x9 x10) (JQ w) := by
  unfold d_tellStep_174
  ((try dsimp only); repeat' (first | exact po_some (by assumption) | (refine po_call (jm_must (by assumption)) ?_; rintro ⟨_, _, _, _⟩ _; dsimp only) | exact jm_must (by assumption) | refine po_cond (fun _ => ?_) (fun _ => ?_) | refine po_bl (fun _ _ => ?_)))
theorem jm_169 (h : J 7 = w) : po (d_tellStep_169 n F A J x2 x4 x5 x6 x7 x8 x9 s1 s2) (JQ w) := by
  unfold d_tellStep_169
  ((try dsimp only); repeat' (first | exact po_some (by assumption) | (refine po_call (jm_num (by assumption)) ?_; rintro ⟨_, _, _, _⟩ _; dsimp only) | exact jm_num (by assumption) | (refine po_call (jm_174 (by assumption)) ?_; rintro ⟨_, _, _, _⟩ _; dsimp only) | exact jm_174 (by assumption) | refine po_cond (fun _ => ?_) (fun _ => ?_) | refine po_bl (fun _ _ => ?_)))
theorem jm_134 (h : J 7 = w) : po (d_tellStep_134 n F A J x2 x3 x4 x5 x6 x7 x8 x9 x10) (JQ w) := by
  unfold d_tellStep_134
  ((try dsimp only); repeat' (first | exact po_some (by assumption) | (refine po_call (jm_174 (by assumption)) ?_; rintro ⟨_, _, _, _⟩ _; dsimp only) | exact jm_174 (by assumption) | (refine po_call (jm_goes (by assumption)) ?_; rintro ⟨_, _, _, _⟩ _; dsimp only) | exact jm_goes (by assumption) | (refine po_call (jm_169 (by assumption)) ?_; rintro ⟨_, _, _, _⟩ _; dsimp only) | exact jm_169 (by assumption) | refine po_cond (fun _ => ?_) (fun _ => ?_) | refine po_bl (fun _ _ => ?_)))
theorem jm_59 (h : J 7 = w) : po (d_tellStep_59 n F A J x2 x3 s0 s1 s2) (JQ w) := by
  unfold d_tellStep_59
  ((try dsimp only); repeat' (first | exact po_some (by assumption) | (refine po_call (jm_num (by assumption)) ?_; rintro ⟨_, _, _, _⟩ _; dsimp only) | exact jm_num (by assumption) | (refine po_call (jm_134 (by assumption)) ?_; rintro ⟨_, _, _, _⟩ _; dsimp only) | exact jm_134 (by assumption) | (refine po_call (jm_goes (by assumption)) ?_; rintro ⟨_, _, _, _⟩ _; dsimp only) | exact jm_goes (by assumption) | (refine po_call (jm_known (by assumption)) ?_; rintro ⟨_, _, _, _⟩ _; dsimp only) | exact jm_known (by assumption) | refine po_cond (fun _ => ?_) (fun _ => ?_) | refine po_bl (fun _ _ => ?_)))
theorem jm_41 (h : J 7 = w) : po (d_tellStep_41 n F A J x2 x3) (JQ w) := by
  unfold d_tellStep_41
  ((try dsimp only); repeat' (first | exact po_some (by assumption) | (refine po_call (jm_59 (by assumption)) ?_; rintro ⟨_, _, _, _⟩ _; dsimp only) | exact jm_59 (by assumption) | refine po_cond (fun _ => ?_) (fun _ => ?_) | refine po_bl (fun _ _ => ?_)))
theorem jm_28 (h : J 7 = w) : po (d_tellStep_28 n F A J x1 x2 s0) (JQ w) := by
  unfold d_tellStep_28
  ((try dsimp only); repeat' (first | exact po_some (by assumption) | (refine po_call (jm_41 (by assumption)) ?_; rintro ⟨_, _, _, _⟩ _; dsimp only) | exact jm_41 (by assumption) | (refine po_call (jm_failAt (by assumption)) ?_; rintro ⟨_, _, _, _⟩ _; dsimp only) | exact jm_failAt (by assumption) | (refine po_call (jm_59 (by assumption)) ?_; rintro ⟨_, _, _, _⟩ _; dsimp only) | exact jm_59 (by assumption) | refine po_cond (fun _ => ?_) (fun _ => ?_) | refine po_bl (fun _ _ => ?_)))
theorem jm_tStep (h : J 7 = w) : po (d_tellStep n F A J x1) (JQ w) := by
  unfold d_tellStep
  ((try dsimp only); repeat' (first | exact po_some (by assumption) | (refine po_call (jm_known (by assumption)) ?_; rintro ⟨_, _, _, _⟩ _; dsimp only) | exact jm_known (by assumption) | (refine po_call (jm_41 (by assumption)) ?_; rintro ⟨_, _, _, _⟩ _; dsimp only) | exact jm_41 (by assumption) | (refine po_call (jm_failAt (by assumption)) ?_; rintro ⟨_, _, _, _⟩ _; dsimp only) | exact jm_failAt (by assumption) | (refine po_call (jm_59 (by assumption)) ?_; rintro ⟨_, _, _, _⟩ _; dsimp only) | exact jm_59 (by assumption) | (refine po_call (jm_28 (by assumption)) ?_; rintro ⟨_, _, _, _⟩ _; dsimp only) | exact jm_28 (by assumption) | refine po_cond (fun _ => ?_) (fun _ => ?_) | refine po_bl (fun _ _ => ?_)))
theorem jm_118 (h : J 7 = w) : po (d_tellMan_118 n F A J x2) (JQ w) := by
  unfold d_tellMan_118
  ((try dsimp only); repeat' (first | exact po_some (by assumption) | (refine po_call (jm_must (by assumption)) ?_; rintro ⟨_, _, _, _⟩ _; dsimp only) | exact jm_must (by assumption) | (refine po_call (jm_notes (by assumption)) ?_; rintro ⟨_, _, _, _⟩ _; dsimp only) | exact jm_notes (by assumption) | refine po_cond (fun _ => ?_) (fun _ => ?_) | refine po_bl (fun _ _ => ?_)))
theorem jm_114 (h : J 7 = w) : po (d_tellMan_114 n F A J x2 s1 s3 s4) (JQ w) := by
  unfold d_tellMan_114
  ((try dsimp only); repeat' (first | exact po_some (by assumption) | (refine po_call (jm_num (by assumption)) ?_; rintro ⟨_, _, _, _⟩ _; dsimp only) | exact jm_num (by assumption) | (refine po_call (jm_must (by assumption)) ?_; rintro ⟨_, _, _, _⟩ _; dsimp only) | exact jm_must (by assumption) | (refine po_call (jm_notes (by assumption)) ?_; rintro ⟨_, _, _, _⟩ _; dsimp only) | exact jm_notes (by assumption) | refine po_cond (fun _ => ?_) (fun _ => ?_) | refine po_bl (fun _ _ => ?_)))
theorem jm_tMan (h : J 7 = w) : po (d_tellMan n F A J) (JQ w) := by
  unfold d_tellMan
  ((try dsimp only); repeat' (first | exact po_some (by assumption) | (refine po_call (jm_named (by assumption)) ?_; rintro ⟨_, _, _, _⟩ _; dsimp only) | exact jm_named (by assumption) | (refine po_call (jm_known (by assumption)) ?_; rintro ⟨_, _, _, _⟩ _; dsimp only) | exact jm_known (by assumption) | (refine po_call (jm_118 (by assumption)) ?_; rintro ⟨_, _, _, _⟩ _; dsimp only) | exact jm_118 (by assumption) | (refine po_call (jm_goes (by assumption)) ?_; rintro ⟨_, _, _, _⟩ _; dsimp only) | exact jm_goes (by assumption) | (refine po_call (jm_114 (by assumption)) ?_; rintro ⟨_, _, _, _⟩ _; dsimp only) | exact jm_114 (by assumption) | refine po_cond (fun _ => ?_) (fun _ => ?_) | refine po_bl (fun _ _ => ?_)))
theorem jm_tell0 (h : J 7 = w) : po (d_tell0 n F A J) (JQ w) := by
  have zr : ∀ {D : (Nat → Int32) → (Nat → Nat → Int32) → (Nat → Nat → Int64) → Option (mR Unit)} {y1 y2 : Int32}, (∀ F A J, J 7 = w → po (D F A J) (JQ w)) → po ((d_roomFor F A J y1 y2).bind fun (_, F5, A6, J7) => cond (g_cnd .ne (F5 13) 0) (some ((), F5, A6, J7)) ((D F5 A6 J7).bind fun (_, F10, A11, J12) => some ((), F10, A11, J12))) (JQ w) := by
    intro D y1 y2 hD
    refine po_call (jm_first h) ?_
    rintro ⟨_, F1, A1, J1⟩ h1
    refine po_cond (fun _ => po_some h1) (fun _ => ?_)
    refine po_call (hD F1 A1 J1 h1) ?_
    rintro ⟨_, F2, A2, J2⟩ h2
    exact po_some h2
  have zf : po ((d_fail F A J 1).bind fun (_, F24, A25, J26) => some ((), F24, A25, J26)) (JQ w) := by
    refine po_call (jm_fail h) ?_
    rintro ⟨_, F1, A1, J1⟩ h1
    exact po_some h1
  unfold d_tell0
  refine po_bl (fun _ _ => ?_)
  refine po_cond (fun _ => po_bl (fun _ _ => zr (fun _ _ _ hh => jm_tRoom hh))) (fun _ => ?_)
  refine po_cond (fun _ => po_bl (fun _ _ => zr (fun _ _ _ hh => jm_tDoor hh))) (fun _ => ?_)
  refine po_cond (fun _ => zf) (fun _ => ?_)
  refine po_cond (fun _ => po_bl (fun _ _ => zr (fun _ _ _ hh => jm_tTool hh))) (fun _ => ?_)
  refine po_cond (fun _ => po_bl (fun _ _ => zr (fun _ _ _ hh => jm_tTask hh))) (fun _ => ?_)
  refine po_cond (fun _ => ?_) (fun _ => ?_)
  · ((try dsimp only); repeat' (first | exact po_some (by assumption) | (refine po_call (jm_goes (by assumption)) ?_; rintro ⟨_, _, _, _⟩ _; dsimp only) | exact jm_goes (by assumption) | (refine po_call (jm_tStep (by assumption)) ?_; rintro ⟨_, _, _, _⟩ _; dsimp only) | exact jm_tStep (by assumption) | refine po_cond (fun _ => ?_) (fun _ => ?_) | refine po_bl (fun _ _ => ?_)))
  refine po_cond (fun _ => zf) (fun _ => ?_)
  refine po_cond (fun _ => zf) (fun _ => ?_)
  refine po_cond (fun _ => po_bl (fun _ _ => zr (fun _ _ _ hh => jm_tMan hh))) (fun _ => ?_)
  refine po_cond (fun _ => zf) (fun _ => ?_)
  refine po_cond (fun _ => po_bl (fun _ _ => zr (fun _ _ _ hh => jm_tLaw hh))) (fun _ => ?_)
  refine po_cond (fun _ => zf) (fun _ => ?_)
  refine po_cond (fun _ => zf) (fun _ => ?_)
  refine po_cond (fun _ => zf) (fun _ => ?_)
  refine po_cond (fun _ => ?_) (fun _ => zf)
  ((try dsimp only); repeat' (first | exact po_some (by assumption) | (refine po_call (jm_goes (by assumption)) ?_; rintro ⟨_, _, _, _⟩ _; dsimp only) | exact jm_goes (by assumption) | (refine po_call (jm_num (by assumption)) ?_; rintro ⟨_, _, _, _⟩ _; dsimp only) | exact jm_num (by assumption) | (refine po_call (jm_must (by assumption)) ?_; rintro ⟨_, _, _, _⟩ _; dsimp only) | exact jm_must (by assumption) | refine po_cond (fun _ => ?_) (fun _ => ?_) | refine po_bl (fun _ _ => ?_)))
theorem jm_176 : ∀ {n : Nat} {A : Nat → Nat → Int32} {x1 : Int32}, J 7 = w → po (d_begins_176 n F A J x1) (JQ w) := by
  intro n
  induction n with
  | zero => intro A x1 _ r hr; cases hr
  | succ n ih =>
    intro A x1 h
    unfold d_begins_176 d_begins_219
    exact po_bl (fun _ _ => po_cond (fun _ => po_some h) (fun _ => po_bl (fun _ _ => po_cond (fun _ => ih h) (fun _ => po_bl (fun _ _ => po_bl (fun _ _ => ih h))))))
theorem jm_132 : ∀ {n : Nat} {A : Nat → Nat → Int32} {x1 : Int32}, J 7 = w → po (d_begins_132 n F A J x1) (JQ w) := by
  intro n
  induction n with
  | zero => intro A x1 _ r hr; cases hr
  | succ n ih =>
    intro A x1 h
    unfold d_begins_132
    exact po_bl (fun _ _ => po_cond (fun _ => jm_176 h) (fun _ => po_bl (fun _ _ => po_bl (fun _ _ => ih h))))
theorem jm_59b : ∀ {n : Nat} {A : Nat → Nat → Int32} {x1 : Int32}, J 7 = w → po (d_begins_59 n F A J x1) (JQ w) := by
  intro n
  induction n with
  | zero => intro A x1 _ r hr; cases hr
  | succ n ih =>
    intro A x1 h
    unfold d_begins_59
    exact po_bl (fun _ _ => po_cond (fun _ => jm_132 h) (fun _ => po_bl (fun _ _ => po_bl (fun _ _ => po_bl (fun _ _ => po_bl (fun _ _ => po_bl (fun _ _ => ih h)))))))
theorem jm_23 : ∀ {n : Nat} {A : Nat → Nat → Int32} {x1 : Int32}, J 7 = w → po (d_begins_23 n F A J x1) (JQ w) := by
  intro n
  induction n with
  | zero => intro A x1 _ r hr; cases hr
  | succ n ih =>
    intro A x1 h
    unfold d_begins_23
    exact po_bl (fun _ _ => po_cond (fun _ => jm_59b h) (fun _ => po_bl (fun _ _ => po_bl (fun _ _ => ih h))))
theorem jm_begins2 : ∀ {n : Nat} {A : Nat → Nat → Int32} {x1 : Int32}, J 7 = w → po (d_begins_2 n F A J x1) (JQ w) := by
  intro n
  induction n with
  | zero => intro A x1 _ r hr; cases hr
  | succ n ih =>
    intro A x1 h
    unfold d_begins_2
    exact po_cond (fun _ => jm_23 h) (fun _ => po_bl (fun _ _ => ih h))
theorem jm_begins (h : J 7 = w) : po (d_begins n F A J) (JQ w) := jm_begins2 h
theorem jm_322 : ∀ {n : Nat} {A : Nat → Nat → Int32} {x1 : Int32}, J 7 = w → po (d_read_322 n F A J x1) (JQ w) := by
  intro n
  induction n with
  | zero => intro A x1 _ r hr; cases hr
  | succ n ih =>
    intro A x1 h
    unfold d_read_322
    exact po_cond (fun _ => po_some h) (fun _ => po_bl (fun _ _ => ih h))
theorem jm_271 (h : J 7 = w) : po (d_read_271 n F A J s1) (JQ w) := by
  unfold d_read_271
  ((try dsimp only); repeat' (first | exact po_some (by assumption) | (refine po_call (jm_begins (by assumption)) ?_; rintro ⟨_, _, _, _⟩ _; dsimp only) | exact jm_begins (by assumption) | (refine po_call (jm_322 (by assumption)) ?_; rintro ⟨_, _, _, _⟩ _; dsimp only) | exact jm_322 (by assumption) | refine po_cond (fun _ => ?_) (fun _ => ?_) | refine po_bl (fun _ _ => ?_)))
theorem jm_241 (h : J 7 = w) : po (d_read_241 n F A J) (JQ w) := by
  unfold d_read_241
  exact po_cond (fun _ => po_cond (fun _ => jm_271 h) (fun _ => jm_271 h)) (fun _ => jm_271 h)
theorem jm_219 : ∀ {n : Nat} {F : Nat → Int32} {A : Nat → Nat → Int32} {J : Nat → Nat → Int64}, J 7 = w → po (d_read_219 n F A J) (JQ w) := by
  intro n
  induction n with
  | zero => intro F A J _ r hr; cases hr
  | succ n ih =>
    intro F A J h
    unfold d_read_219
    refine po_cond (fun _ => jm_241 h) (fun _ => po_bl (fun _ _ => po_cond (fun _ => jm_241 h) (fun _ => ?_)))
    refine po_call (jm_tell0 h) ?_
    rintro ⟨_, F1, A1, J1⟩ h1
    exact ih h1
end C5m
