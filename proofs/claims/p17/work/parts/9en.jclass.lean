/-! rows of words stay as they are -/
section C5c
variable {n m q d : Nat} {w : Nat → Int64} {P : Nat → Nat → Nat} {F : Nat → Nat → Int32} {A : Nat → Nat → Nat → Int32} {J : Nat → Nat → Nat → Int64} {x1 x2 x3 x4 x5 x6 x7 x8 : Int32}
def JP (w : Nat → Int64) {α : Type} (r : cR α) : Prop := r.2.2.2.2 37 6 = w
theorem jc_fail (h : J 37 6 = w) : po (e_Reader_fail P F A J x1 x2) (JP w) := by
  unfold e_Reader_fail e_Reader_fail_15
  ((try dsimp only); repeat' (first | exact po_some (by assumption) | refine po_cond (fun _ => ?_) (fun _ => ?_) | refine po_bl (fun _ _ => ?_)))
theorem jc_take (h : J 37 6 = w) : po (e_Reader_take P F A J x1) (JP w) := by
  unfold e_Reader_take
  ((try dsimp only); repeat' (first | exact po_some (by assumption) | (refine po_call (jc_fail (by assumption)) ?_; rintro ⟨_, _, _, _, _⟩ _; dsimp only) | exact jc_fail (by assumption) | refine po_cond (fun _ => ?_) (fun _ => ?_) | refine po_bl (fun _ _ => ?_)))
theorem jc_first (h : J 37 6 = w) : po (e_Reader_takeFirst P F A J x1 x2 x3) (JP w) := by
  unfold e_Reader_takeFirst e_Reader_takeFirst_22
  ((try dsimp only); repeat' (first | exact po_some (by assumption) | (refine po_call (jc_take (by assumption)) ?_; rintro ⟨_, _, _, _, _⟩ _; dsimp only) | exact jc_take (by assumption) | (refine po_call (jc_fail (by assumption)) ?_; rintro ⟨_, _, _, _, _⟩ _; dsimp only) | exact jc_fail (by assumption) | refine po_cond (fun _ => ?_) (fun _ => ?_) | refine po_bl (fun _ _ => ?_)))
theorem jc_late (h : J 37 6 = w) : po (e_Reader_failLate P F A J x1) (JP w) := by
  unfold e_Reader_failLate
  ((try dsimp only); repeat' (first | exact po_some (by assumption) | refine po_cond (fun _ => ?_) (fun _ => ?_) | refine po_bl (fun _ _ => ?_)))
theorem jc_gnew (h : J 37 6 = w) : po (gnew q n P F A J x2) (JP w) := by
  unfold gnew
  refine po_call (jc_take h) ?_
  rintro ⟨v1, P2, F3, A4, J5⟩ h1
  dsimp only
  have h1 : J5 37 6 = w := h1
  have z0 : ∀ {P1 F1 A1 J1 y1 y2}, J1 37 6 = w → po (gnew0 q P1 F1 A1 J1 y1 y2) (JP w) := by
    intro P1 F1 A1 J1 y1 y2 hJ r hr
    obtain ⟨J', rfl, ju⟩ := g_new0 hr
    show J' 37 6 = w
    rw [ju.2.2 37 6 (by omega)]
    exact hJ
  have z1 : ∀ {y1 y2}, po (gnew1 q P2 F3 A4 J5 y1 y2) (JP w) := by
    intro y1 y2
    unfold gnew1
    refine po_call (jc_late h1) ?_
    rintro ⟨u, P3, F4, A5, J6⟩ h2
    exact z0 h2
  refine po_cond (fun _ => po_some h1) (fun _ => po_cond (fun _ => ?_) (fun _ => po_some h1))
  refine po_bl (fun _ _ => po_bl (fun _ _ => po_bl (fun _ _ => po_cond (fun _ => z1) (fun _ => ?_))))
  refine po_bl (fun _ _ => po_bl (fun _ _ => po_cond (fun _ => z1) (fun _ => ?_)))
  refine po_bl (fun _ _ => po_bl (fun _ _ => po_cond (fun _ => z1) (fun _ => ?_)))
  exact po_bl (fun _ _ => po_bl (fun _ _ => po_cond (fun _ => z0 h1) (fun _ => z1)))
theorem jc_gknown (h : J 37 6 = w) : po (gknown q n P F A J x2) (JP w) := by
  unfold gknown
  ((try dsimp only); repeat' (first | exact po_some (by assumption) | (refine po_call (jc_take (by assumption)) ?_; rintro ⟨_, _, _, _, _⟩ _; dsimp only) | exact jc_take (by assumption) | (refine po_call (jc_late (by assumption)) ?_; rintro ⟨_, _, _, _, _⟩ _; dsimp only) | exact jc_late (by assumption) | refine po_cond (fun _ => ?_) (fun _ => ?_) | refine po_bl (fun _ _ => ?_)))
theorem jc_num (h : J 37 6 = w) : po (e_Reader_takeNumber P F A J x1 x2) (JP w) := by
  unfold e_Reader_takeNumber e_Reader_takeNumber_34
  ((try dsimp only); repeat' (first | exact po_some (by assumption) | (refine po_call (jc_take (by assumption)) ?_; rintro ⟨_, _, _, _, _⟩ _; dsimp only) | exact jc_take (by assumption) | (refine po_call (jc_late (by assumption)) ?_; rintro ⟨_, _, _, _, _⟩ _; dsimp only) | exact jc_late (by assumption) | refine po_cond (fun _ => ?_) (fun _ => ?_) | refine po_bl (fun _ _ => ?_)))
theorem jc_sn (h : J 37 6 = w) : po (e_Reader_takeStepNumber P F A J x1) (JP w) := by
  unfold e_Reader_takeStepNumber e_Reader_takeStepNumber_23
  ((try dsimp only); repeat' (first | exact po_some (by assumption) | (refine po_call (jc_num (by assumption)) ?_; rintro ⟨_, _, _, _, _⟩ _; dsimp only) | exact jc_num (by assumption) | refine po_cond (fun _ => ?_) (fun _ => ?_) | refine po_bl (fun _ _ => ?_)))
theorem jc_add (h : J 37 6 = w) : po (e_Laws_add P F A J d x1 x2) (JP w) := by
  unfold e_Laws_add
  ((try dsimp only); repeat' (first | exact po_some (by assumption) | refine po_cond (fun _ => ?_) (fun _ => ?_) | refine po_bl (fun _ _ => ?_)))
theorem jc_aim (h : J 37 6 = w) : po (e_Laws_aimHere P F A J d x1) (JP w) := by
  unfold e_Laws_aimHere
  ((try dsimp only); repeat' (first | exact po_some (by assumption) | refine po_cond (fun _ => ?_) (fun _ => ?_) | refine po_bl (fun _ _ => ?_)))
theorem jc_sign (h : J 37 6 = w) : po (e_Reader_addSign P F A J x1) (JP w) := by
  unfold e_Reader_addSign
  ((try dsimp only); repeat' (first | exact po_some (by assumption) | (refine po_call (jc_add (by assumption)) ?_; rintro ⟨_, _, _, _, _⟩ _; dsimp only) | exact jc_add (by assumption) | refine po_cond (fun _ => ?_) (fun _ => ?_) | refine po_bl (fun _ _ => ?_)))
theorem jc_either18 (h : J 37 6 = w) : po (e_Reader_takeEither_18 P F A J x2) (JP w) := by
  unfold e_Reader_takeEither_18
  ((try dsimp only); repeat' (first | exact po_some (by assumption) | (refine po_call (jc_take (by assumption)) ?_; rintro ⟨_, _, _, _, _⟩ _; dsimp only) | exact jc_take (by assumption) | refine po_cond (fun _ => ?_) (fun _ => ?_) | refine po_bl (fun _ _ => ?_)))
theorem jc_either (h : J 37 6 = w) : po (e_Reader_takeEither P F A J x1 x2) (JP w) := by
  unfold e_Reader_takeEither
  ((try dsimp only); repeat' (first | exact po_some (by assumption) | (refine po_call (jc_take (by assumption)) ?_; rintro ⟨_, _, _, _, _⟩ _; dsimp only) | exact jc_take (by assumption) | (refine po_call (jc_either18 (by assumption)) ?_; rintro ⟨_, _, _, _, _⟩ _; dsimp only) | exact jc_either18 (by assumption) | refine po_cond (fun _ => ?_) (fun _ => ?_) | refine po_bl (fun _ _ => ?_)))
theorem jc_58 {KS : cKS} : ∀ {n : Nat} {P : Nat → Nat → Nat} {F : Nat → Nat → Int32} {A : Nat → Nat → Nat → Int32} {J : Nat → Nat → Nat → Int64} {x2 : Int32}, J 37 6 = w → po (e_Reader_readUnit_58 KS n P F A J x2) (JP w) := by
  intro n
  induction n with
  | zero => intro P F A J x2 _ r hr; cases hr
  | succ n ih =>
    intro P F A J x2 h
    unfold e_Reader_readUnit_58 e_Reader_readUnit_97
    refine po_cond (fun _ => ?_) (fun _ => po_bl (fun _ _ => po_cond (fun _ => ih h) (fun _ => ?_)))
    · ((try dsimp only); repeat' (first | exact po_some (by assumption) | (refine po_call (jc_take (by assumption)) ?_; rintro ⟨_, _, _, _, _⟩ _; dsimp only) | exact jc_take (by assumption) | (refine po_call (jc_add (by assumption)) ?_; rintro ⟨_, _, _, _, _⟩ _; dsimp only) | exact jc_add (by assumption) | refine po_cond (fun _ => ?_) (fun _ => ?_) | refine po_bl (fun _ _ => ?_)))
    · refine po_call (jc_take h) ?_
      rintro ⟨v, P1, F1, A1, J1⟩ h1
      refine po_cond (fun _ => ih h1) (fun _ => ?_)
      have h1 : J1 37 6 = w := h1
      ((try dsimp only); repeat' (first | exact po_some (by assumption) | (refine po_call (jc_take (by assumption)) ?_; rintro ⟨_, _, _, _, _⟩ _; dsimp only) | exact jc_take (by assumption) | (refine po_call (jc_add (by assumption)) ?_; rintro ⟨_, _, _, _, _⟩ _; dsimp only) | exact jc_add (by assumption) | refine po_cond (fun _ => ?_) (fun _ => ?_) | refine po_bl (fun _ _ => ?_)))
theorem jc_sumP {KS : cKS} (hS : ∀ P F A J x, J 37 6 = w → po (KS P F A J x) (JP w)) (h : J 37 6 = w) : po (e_Reader_readUnit KS n P F A J x1) (JP w) := by
  unfold e_Reader_readUnit
  refine po_bl (fun _ _ => po_cond (fun _ => jc_58 h) (fun _ => po_cond (fun _ => ?_) (fun _ => ?_)))
  · refine po_call (jc_take h) ?_
    rintro ⟨v, P1, F1, A1, J1⟩ h1
    refine po_call (hS P1 F1 A1 J1 _ h1) ?_
    rintro ⟨v2, P2, F2, A2, J2⟩ h2
    have h2 : J2 37 6 = w := h2
    ((try dsimp only); repeat' (first | exact po_some (by assumption) | (refine po_call (jc_take (by assumption)) ?_; rintro ⟨_, _, _, _, _⟩ _; dsimp only) | exact jc_take (by assumption) | (refine po_call (jc_fail (by assumption)) ?_; rintro ⟨_, _, _, _, _⟩ _; dsimp only) | exact jc_fail (by assumption) | refine po_cond (fun _ => ?_) (fun _ => ?_) | refine po_bl (fun _ _ => ?_)))
  · ((try dsimp only); repeat' (first | exact po_some (by assumption) | (refine po_call (jc_take (by assumption)) ?_; rintro ⟨_, _, _, _, _⟩ _; dsimp only) | exact jc_take (by assumption) | (refine po_call (jc_fail (by assumption)) ?_; rintro ⟨_, _, _, _, _⟩ _; dsimp only) | exact jc_fail (by assumption) | refine po_cond (fun _ => ?_) (fun _ => ?_) | refine po_bl (fun _ _ => ?_)))
theorem jc_sum10 {KS : cKS} (hS : ∀ P F A J x, J 37 6 = w → po (KS P F A J x) (JP w)) : ∀ {n : Nat} {P : Nat → Nat → Nat} {F : Nat → Nat → Int32} {A : Nat → Nat → Nat → Int32} {J : Nat → Nat → Nat → Int64} {x1 x2 x3 x4 x5 : Int32}, J 37 6 = w → po (e_Reader_readSum_10 KS n P F A J x1 x2 x3 x4 x5) (JP w) := by
  intro n
  induction n with
  | zero => intro P F A J x1 x2 x3 x4 x5 _ r hr; cases hr
  | succ n ih =>
    intro P F A J x1 x2 x3 x4 x5 h
    unfold e_Reader_readSum_10 e_Reader_readSum_69 e_Reader_readSum_71
    refine po_cond (fun _ => po_some h) (fun _ => po_cond (fun _ => po_some h) (fun _ => ?_))
    refine po_call (jc_sumP hS h) ?_
    rintro ⟨v, P1, F1, A1, J1⟩ h1
    refine po_call (jc_sign h1) ?_
    rintro ⟨v, P2, F2, A2, J2⟩ h2
    refine po_call (jc_either h2) ?_
    rintro ⟨v, P3, F3, A3, J3⟩ h3
    refine po_cond (fun _ => ih h3) (fun _ => ?_)
    refine po_call (jc_sign h3) ?_
    rintro ⟨v, P4, F4, A4, J4⟩ h4
    refine po_call (jc_either h4) ?_
    rintro ⟨v, P5, F5, A5, J5⟩ h5
    exact po_cond (fun _ => ih h5) (fun _ => ih h5)
theorem jc_sum (h : J 37 6 = w) : po (e_Reader_readSum m n P F A J x1) (JP w) := by
  have z : ∀ m, ∀ P F A J x, J 37 6 = w → po (e_Reader_readSum m n P F A J x) (JP w) := by
    intro m
    induction m with
    | zero => intro P F A J x _ r hr; cases hr
    | succ m ih =>
      intro P F A J x h
      exact jc_sum10 ih h
  exact z m P F A J x1 h
theorem jc_if (h : J 37 6 = w) : po (e_Reader_readIf n P F A J) (JP w) := by
  unfold e_Reader_readIf
  ((try dsimp only); repeat' (first | exact po_some (by assumption) | (refine po_call (jc_take (by assumption)) ?_; rintro ⟨_, _, _, _, _⟩ _; dsimp only) | exact jc_take (by assumption) | (refine po_call (jc_sum (by assumption)) ?_; rintro ⟨_, _, _, _, _⟩ _; dsimp only) | exact jc_sum (by assumption) | (refine po_call (jc_add (by assumption)) ?_; rintro ⟨_, _, _, _, _⟩ _; dsimp only) | exact jc_add (by assumption) | (refine po_call (jc_aim (by assumption)) ?_; rintro ⟨_, _, _, _, _⟩ _; dsimp only) | exact jc_aim (by assumption) | refine po_cond (fun _ => ?_) (fun _ => ?_) | refine po_bl (fun _ _ => ?_)))
theorem jc_94 (h : J 37 6 = w) : po (e_Reader_readLaw_94 n P F A J x1 x2) (JP w) := by
  unfold e_Reader_readLaw_94
  ((try dsimp only); repeat' (first | exact po_some (by assumption) | (refine po_call (jc_sum (by assumption)) ?_; rintro ⟨_, _, _, _, _⟩ _; dsimp only) | exact jc_sum (by assumption) | (refine po_call (jc_add (by assumption)) ?_; rintro ⟨_, _, _, _, _⟩ _; dsimp only) | exact jc_add (by assumption) | (refine po_call (jc_take (by assumption)) ?_; rintro ⟨_, _, _, _, _⟩ _; dsimp only) | exact jc_take (by assumption) | refine po_cond (fun _ => ?_) (fun _ => ?_) | refine po_bl (fun _ _ => ?_)))
theorem jc_48 : ∀ {n : Nat} {P : Nat → Nat → Nat} {F : Nat → Nat → Int32} {A : Nat → Nat → Nat → Int32} {J : Nat → Nat → Nat → Int64} {x1 x2 x3 : Int32}, J 37 6 = w → po (e_Reader_readLaw_48 n P F A J x1 x2 x3) (JP w) := by
  intro n
  induction n with
  | zero => intro P F A J x1 x2 x3 _ r hr; cases hr
  | succ n ih =>
    intro P F A J x1 x2 x3 h
    unfold e_Reader_readLaw_48 e_Reader_readLaw_84
    refine po_cond (fun _ => jc_94 h) (fun _ => po_bl (fun _ _ => po_cond (fun _ => jc_94 h) (fun _ => po_cond (fun _ => ?_) (fun _ => ?_))))
    · refine po_call (jc_if h) ?_
      rintro ⟨v, P1, F1, A1, J1⟩ h1
      exact ih h1
    · refine po_bl (fun _ _ => ?_)
      refine po_call (jc_fail h) ?_
      rintro ⟨v, P1, F1, A1, J1⟩ h1
      refine po_call (jc_if h1) ?_
      rintro ⟨v, P2, F2, A2, J2⟩ h2
      exact ih h2
theorem jc_law (h : J 37 6 = w) : po (e_Reader_readLaw n P F A J) (JP w) := by
  unfold e_Reader_readLaw
  simp only [known_3]
  ((try dsimp only); repeat' (first | exact po_some (by assumption) | (refine po_call (jc_first (by assumption)) ?_; rintro ⟨_, _, _, _, _⟩ _; dsimp only) | exact jc_first (by assumption) | (refine po_call (jc_gknown (by assumption)) ?_; rintro ⟨_, _, _, _, _⟩ _; dsimp only) | exact jc_gknown (by assumption) | (refine po_call (jc_take (by assumption)) ?_; rintro ⟨_, _, _, _, _⟩ _; dsimp only) | exact jc_take (by assumption) | (refine po_call (jc_48 (by assumption)) ?_; rintro ⟨_, _, _, _, _⟩ _; dsimp only) | exact jc_48 (by assumption) | refine po_cond (fun _ => ?_) (fun _ => ?_) | refine po_bl (fun _ _ => ?_)))
theorem jc_room (h : J 37 6 = w) : po (e_Reader_readRoom n P F A J) (JP w) := by
  unfold e_Reader_readRoom
  simp only [new_0]
  ((try dsimp only); repeat' (first | exact po_some (by assumption) | (refine po_call (jc_first (by assumption)) ?_; rintro ⟨_, _, _, _, _⟩ _; dsimp only) | exact jc_first (by assumption) | (refine po_call (jc_gnew (by assumption)) ?_; rintro ⟨_, _, _, _, _⟩ _; dsimp only) | exact jc_gnew (by assumption) | (refine po_call (jc_take (by assumption)) ?_; rintro ⟨_, _, _, _, _⟩ _; dsimp only) | exact jc_take (by assumption) | refine po_cond (fun _ => ?_) (fun _ => ?_) | refine po_bl (fun _ _ => ?_)))
theorem jc_165 (h : J 37 6 = w) : po (e_Reader_readDoor_165 n P F A J d x1 x2) (JP w) := by
  unfold e_Reader_readDoor_165
  ((try dsimp only); repeat' (first | exact po_some (by assumption) | refine po_cond (fun _ => ?_) (fun _ => ?_) | refine po_bl (fun _ _ => ?_)))
theorem jc_91 (h : J 37 6 = w) : po (e_Reader_readDoor_91 n P F A J x1 x2 x3 x4) (JP w) := by
  unfold e_Reader_readDoor_91
  ((try dsimp only); repeat' (first | exact po_some (by assumption) | (refine po_call (jc_take (by assumption)) ?_; rintro ⟨_, _, _, _, _⟩ _; dsimp only) | exact jc_take (by assumption) | (refine po_call (jc_165 (by assumption)) ?_; rintro ⟨_, _, _, _, _⟩ _; dsimp only) | exact jc_165 (by assumption) | refine po_cond (fun _ => ?_) (fun _ => ?_) | refine po_bl (fun _ _ => ?_)))
theorem jc_90 (h : J 37 6 = w) : po (e_Reader_readDoor_90 n P F A J x1 x2 x3) (JP w) := jc_91 h
theorem jc_60 (h : J 37 6 = w) : po (e_Reader_readDoor_60 n P F A J x1 x2) (JP w) := by
  unfold e_Reader_readDoor_60
  ((try dsimp only); repeat' (first | exact po_some (by assumption) | (refine po_call (jc_num (by assumption)) ?_; rintro ⟨_, _, _, _, _⟩ _; dsimp only) | exact jc_num (by assumption) | (refine po_call (jc_take (by assumption)) ?_; rintro ⟨_, _, _, _, _⟩ _; dsimp only) | exact jc_take (by assumption) | (refine po_call (jc_90 (by assumption)) ?_; rintro ⟨_, _, _, _, _⟩ _; dsimp only) | exact jc_90 (by assumption) | (refine po_call (jc_91 (by assumption)) ?_; rintro ⟨_, _, _, _, _⟩ _; dsimp only) | exact jc_91 (by assumption) | refine po_cond (fun _ => ?_) (fun _ => ?_) | refine po_bl (fun _ _ => ?_)))
theorem jc_door (h : J 37 6 = w) : po (e_Reader_readDoor n P F A J) (JP w) := by
  unfold e_Reader_readDoor
  simp only [known_0]
  ((try dsimp only); repeat' (first | exact po_some (by assumption) | (refine po_call (jc_first (by assumption)) ?_; rintro ⟨_, _, _, _, _⟩ _; dsimp only) | exact jc_first (by assumption) | (refine po_call (jc_gknown (by assumption)) ?_; rintro ⟨_, _, _, _, _⟩ _; dsimp only) | exact jc_gknown (by assumption) | (refine po_call (jc_60 (by assumption)) ?_; rintro ⟨_, _, _, _, _⟩ _; dsimp only) | exact jc_60 (by assumption) | (refine po_call (jc_late (by assumption)) ?_; rintro ⟨_, _, _, _, _⟩ _; dsimp only) | exact jc_late (by assumption) | (refine po_call (jc_num (by assumption)) ?_; rintro ⟨_, _, _, _, _⟩ _; dsimp only) | exact jc_num (by assumption) | (refine po_call (jc_take (by assumption)) ?_; rintro ⟨_, _, _, _, _⟩ _; dsimp only) | exact jc_take (by assumption) | (refine po_call (jc_90 (by assumption)) ?_; rintro ⟨_, _, _, _, _⟩ _; dsimp only) | exact jc_90 (by assumption) | (refine po_call (jc_91 (by assumption)) ?_; rintro ⟨_, _, _, _, _⟩ _; dsimp only) | exact jc_91 (by assumption) | refine po_cond (fun _ => ?_) (fun _ => ?_) | refine po_bl (fun _ _ => ?_)))
theorem jc_tool (h : J 37 6 = w) : po (e_Reader_readTool n P F A J) (JP w) := by
  unfold e_Reader_readTool
  simp only [new_1, known_0]
  ((try dsimp only); repeat' (first | exact po_some (by assumption) | (refine po_call (jc_first (by assumption)) ?_; rintro ⟨_, _, _, _, _⟩ _; dsimp only) | exact jc_first (by assumption) | (refine po_call (jc_gnew (by assumption)) ?_; rintro ⟨_, _, _, _, _⟩ _; dsimp only) | exact jc_gnew (by assumption) | (refine po_call (jc_gknown (by assumption)) ?_; rintro ⟨_, _, _, _, _⟩ _; dsimp only) | exact jc_gknown (by assumption) | (refine po_call (jc_take (by assumption)) ?_; rintro ⟨_, _, _, _, _⟩ _; dsimp only) | exact jc_take (by assumption) | refine po_cond (fun _ => ?_) (fun _ => ?_) | refine po_bl (fun _ _ => ?_)))
theorem jc_tsk (h : J 37 6 = w) : po (e_Reader_readTask n P F A J) (JP w) := by
  unfold e_Reader_readTask
  simp only [new_2, known_0]
  ((try dsimp only); repeat' (first | exact po_some (by assumption) | (refine po_call (jc_first (by assumption)) ?_; rintro ⟨_, _, _, _, _⟩ _; dsimp only) | exact jc_first (by assumption) | (refine po_call (jc_gnew (by assumption)) ?_; rintro ⟨_, _, _, _, _⟩ _; dsimp only) | exact jc_gnew (by assumption) | (refine po_call (jc_gknown (by assumption)) ?_; rintro ⟨_, _, _, _, _⟩ _; dsimp only) | exact jc_gknown (by assumption) | (refine po_call (jc_num (by assumption)) ?_; rintro ⟨_, _, _, _, _⟩ _; dsimp only) | exact jc_num (by assumption) | (refine po_call (jc_take (by assumption)) ?_; rintro ⟨_, _, _, _, _⟩ _; dsimp only) | exact jc_take (by assumption) | refine po_cond (fun _ => ?_) (fun _ => ?_) | refine po_bl (fun _ _ => ?_)))
theorem jc_57 (h : J 37 6 = w) : po (e_Reader_takeTaskOfStep_57 n P F A J x1 x2) (JP w) := by
  unfold e_Reader_takeTaskOfStep_57
  simp only [known_2]
  ((try dsimp only); repeat' (first | exact po_some (by assumption) | (refine po_call (jc_gknown (by assumption)) ?_; rintro ⟨_, _, _, _, _⟩ _; dsimp only) | exact jc_gknown (by assumption) | (refine po_call (jc_fail (by assumption)) ?_; rintro ⟨_, _, _, _, _⟩ _; dsimp only) | exact jc_fail (by assumption) | refine po_cond (fun _ => ?_) (fun _ => ?_) | refine po_bl (fun _ _ => ?_)))
theorem jc_task (h : J 37 6 = w) : po (e_Reader_takeTaskOfStep n P F A J) (JP w) := by
  unfold e_Reader_takeTaskOfStep
  ((try dsimp only); repeat' (first | exact po_some (by assumption) | (refine po_call (jc_take (by assumption)) ?_; rintro ⟨_, _, _, _, _⟩ _; dsimp only) | exact jc_take (by assumption) | (refine po_call (jc_57 (by assumption)) ?_; rintro ⟨_, _, _, _, _⟩ _; dsimp only) | exact jc_57 (by assumption) | refine po_cond (fun _ => ?_) (fun _ => ?_) | refine po_bl (fun _ _ => ?_)))
theorem jc_107 (h : J 37 6 = w) : po (e_Reader_readStep_107 n P F A J x1 x2 x3 x4 x5 x6 x7) (JP w) := by
  unfold e_Reader_readStep_107
  ((try dsimp only); repeat' (first | exact po_some (by assumption) | (refine po_call (jc_take (by assumption)) ?_; rintro ⟨_, _, _, _, _⟩ _; dsimp only) | exact jc_take (by assumption) | refine po_cond (fun _ => ?_) (fun _ => ?_) | refine po_bl (fun _ _ => ?_)))
theorem jc_78 (h : J 37 6 = w) : po (e_Reader_readStep_78 n P F A J x1 x2 x3 x4 x5 x6) (JP w) := by
  unfold e_Reader_readStep_78
  ((try dsimp only); repeat' (first | exact po_some (by assumption) | (refine po_call (jc_take (by assumption)) ?_; rintro ⟨_, _, _, _, _⟩ _; dsimp only) | exact jc_take (by assumption) | (refine po_call (jc_sn (by assumption)) ?_; rintro ⟨_, _, _, _, _⟩ _; dsimp only) | exact jc_sn (by assumption) | (refine po_call (jc_107 (by assumption)) ?_; rintro ⟨_, _, _, _, _⟩ _; dsimp only) | exact jc_107 (by assumption) | refine po_cond (fun _ => ?_) (fun _ => ?_) | refine po_bl (fun _ _ => ?_)))
theorem jc_step (h : J 37 6 = w) : po (e_Reader_readStep n P F A J) (JP w) := by
  unfold e_Reader_readStep
  simp only [known_1]
  ((try dsimp only); repeat' (first | exact po_some (by assumption) | (refine po_call (jc_task (by assumption)) ?_; rintro ⟨_, _, _, _, _⟩ _; dsimp only) | exact jc_task (by assumption) | (refine po_call (jc_num (by assumption)) ?_; rintro ⟨_, _, _, _, _⟩ _; dsimp only) | exact jc_num (by assumption) | (refine po_call (jc_take (by assumption)) ?_; rintro ⟨_, _, _, _, _⟩ _; dsimp only) | exact jc_take (by assumption) | (refine po_call (jc_gknown (by assumption)) ?_; rintro ⟨_, _, _, _, _⟩ _; dsimp only) | exact jc_gknown (by assumption) | (refine po_call (jc_78 (by assumption)) ?_; rintro ⟨_, _, _, _, _⟩ _; dsimp only) | exact jc_78 (by assumption) | refine po_cond (fun _ => ?_) (fun _ => ?_) | refine po_bl (fun _ _ => ?_)))
theorem jc_92 (h : J 37 6 = w) : po (e_Reader_readMan_92 n P F A J x1 x2) (JP w) := by
  unfold e_Reader_readMan_92
  ((try dsimp only); repeat' (first | exact po_some (by assumption) | (refine po_call (jc_take (by assumption)) ?_; rintro ⟨_, _, _, _, _⟩ _; dsimp only) | exact jc_take (by assumption) | refine po_cond (fun _ => ?_) (fun _ => ?_) | refine po_bl (fun _ _ => ?_)))
theorem jc_man (h : J 37 6 = w) : po (e_Reader_readMan n P F A J) (JP w) := by
  unfold e_Reader_readMan
  simp only [new_3, known_0, known_2]
  ((try dsimp only); repeat' (first | exact po_some (by assumption) | (refine po_call (jc_first (by assumption)) ?_; rintro ⟨_, _, _, _, _⟩ _; dsimp only) | exact jc_first (by assumption) | (refine po_call (jc_gnew (by assumption)) ?_; rintro ⟨_, _, _, _, _⟩ _; dsimp only) | exact jc_gnew (by assumption) | (refine po_call (jc_gknown (by assumption)) ?_; rintro ⟨_, _, _, _, _⟩ _; dsimp only) | exact jc_gknown (by assumption) | (refine po_call (jc_take (by assumption)) ?_; rintro ⟨_, _, _, _, _⟩ _; dsimp only) | exact jc_take (by assumption) | (refine po_call (jc_sn (by assumption)) ?_; rintro ⟨_, _, _, _, _⟩ _; dsimp only) | exact jc_sn (by assumption) | (refine po_call (jc_92 (by assumption)) ?_; rintro ⟨_, _, _, _, _⟩ _; dsimp only) | exact jc_92 (by assumption) | refine po_cond (fun _ => ?_) (fun _ => ?_) | refine po_bl (fun _ _ => ?_)))
theorem jc_night (h : J 37 6 = w) : po (e_Reader_readNight P F A J) (JP w) := by
  unfold e_Reader_readNight
  ((try dsimp only); repeat' (first | exact po_some (by assumption) | (refine po_call (jc_take (by assumption)) ?_; rintro ⟨_, _, _, _, _⟩ _; dsimp only) | exact jc_take (by assumption) | (refine po_call (jc_num (by assumption)) ?_; rintro ⟨_, _, _, _, _⟩ _; dsimp only) | exact jc_num (by assumption) | refine po_cond (fun _ => ?_) (fun _ => ?_) | refine po_bl (fun _ _ => ?_)))
theorem jc_sent (h : J 37 6 = w) : po (gsent n P F A J) (JP w) := by
  unfold gsent
  exact po_bl (fun _ _ => po_cond (fun _ => jc_room h) (fun _ => po_cond (fun _ => jc_door h) (fun _ => po_cond (fun _ => jc_tool h) (fun _ => po_cond (fun _ => jc_tsk h) (fun _ => po_cond (fun _ => jc_step h) (fun _ => po_cond (fun _ => jc_man h) (fun _ => po_cond (fun _ => jc_law h) (fun _ => po_cond (fun _ => jc_night h) (fun _ => po_bl (fun _ _ => jc_fail h)))))))))) 
theorem jc_171 (h : J 37 6 = w) : po (e_Reader_readText_171 n P F A J) (JP w) := by
  unfold e_Reader_readText_171
  ((try dsimp only); repeat' (first | exact po_some (by assumption) | refine po_cond (fun _ => ?_) (fun _ => ?_) | refine po_bl (fun _ _ => ?_)))
theorem jc_10 : ∀ {n : Nat} {P : Nat → Nat → Nat} {F : Nat → Nat → Int32} {A : Nat → Nat → Nat → Int32} {J : Nat → Nat → Nat → Int64} {x4 : Int32}, J 37 6 = w → po (e_Reader_readText_10 n P F A J x4) (JP w) := by
  intro n
  induction n with
  | zero => intro P F A J x4 _ r hr; cases hr
  | succ n ih =>
    intro P F A J x4 h
    rw [text_g]
    refine po_cond (fun _ => jc_171 h) (fun _ => po_cond (fun _ => jc_171 h) (fun _ => po_bl (fun _ _ => po_cond (fun _ => jc_171 h) (fun _ => ?_))))
    refine po_call (jc_sent h) ?_
    rintro ⟨v, P1, F1, A1, J1⟩ h1
    exact ih h1
end C5c
