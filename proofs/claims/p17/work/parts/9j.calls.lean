/-! every call of the class, over what holds between calls (printed by wip/wcalls.py) -/
section S9j
variable {t : gT} {JW JK : Nat → Int64} {H : gH}
/-- what holds of the heap between calls: a and b, the lengths of the two tapes -/
def W4 (JW JK : Nat → Int64) (H : gH) : Prop := ∃ c B P F A J yF yA yJ, H = c_h c B P F A J ∧ Gc P F A ∧ SEc c B P ∧ B 40 = m_cells yF yA yJ ∧ SAm yF yA ∧ TPx F A yF yA ∧ J 37 6 = JW ∧ yJ 7 = JK ∧ CY P F A yF yA
theorem W4.g0 (W : W4 JW JK H) : ∃ fs, g_get H 0 = some (.inr (11, fs)) := by
  obtain ⟨c, B, P, F, A, J, yF, yA, yJ, rfl, -⟩ := W
  exact ⟨_, (c_get (r := 0) (o := 0) (K := 0) rfl (by decide)).trans rfl⟩
theorem W4.g1 (W : W4 JW JK H) : ∃ fs, g_get H 40960 = some (.inr (12, fs)) := by
  obtain ⟨c, B, P, F, A, J, yF, yA, yJ, rfl, -, -, e, -⟩ := W
  exact ⟨_, (c_get (r := 40) (o := 0) (K := 99) rfl (by decide)).trans (by show (B 40)[0]? = _; rw [e]; rfl)⟩
/-- the class has answered, the reference not yet -/
def WE (JW JK : Nat → Int64) (o : (Nat → Nat → Nat) → (Nat → Nat → Int32) → (Nat → Nat → Nat → Int32) → (Nat → Nat → Nat → Int64) → Option (cR Int32)) (v : Int32) (H : gH) : Prop := ∃ c B P F A J yF yA yJ w, o P F A J = some w ∧ w.1 = v ∧ H = c_h c B w.2.1 w.2.2.1 w.2.2.2.1 w.2.2.2.2 ∧ Gc w.2.1 w.2.2.1 w.2.2.2.1 ∧ SEc c B w.2.1 ∧ B 40 = m_cells yF yA yJ ∧ SAm yF yA ∧ Gc P F A ∧ TPx F A yF yA ∧ J 37 6 = JW ∧ yJ 7 = JK ∧ CY P F A yF yA
theorem WE.g1 {JW JK o v} (W : WE JW JK o v H) : ∃ fs, g_get H 40960 = some (.inr (12, fs)) := by
  obtain ⟨c, B, P, F, A, J, yF, yA, yJ, w, -, -, rfl, -, -, e, -⟩ := W
  exact ⟨_, (c_get (r := 40) (o := 0) (K := 99) rfl (by decide)).trans (by show (B 40)[0]? = _; rw [e]; rfl)⟩
theorem SEc.p {c : Nat × Nat} {B : Nat → List gE} {P P' : Nat → Nat → Nat} (S : SEc c B P) (h : P' 32 9 = P 32 9) : SEc c B P' := by
  rcases S with ⟨x, y, z, u⟩ | ⟨j, e, S⟩
  · exact .inl ⟨x, y, h.trans z, u⟩
  · exact .inr ⟨j, e, S.1, S.2.1, h.trans S.2.2.1, S.2.2.2⟩
theorem w_ca {M : Nat} (hL : k_sL.contains M = true) (hB : k_sB.contains M = true) {loc : List (Nat × Value)} {o : (Nat → Nat → Nat) → (Nat → Nat → Int32) → (Nat → Nat → Nat → Int32) → (Nat → Nat → Nat → Int64) → Option (Int32 × (Nat → Nat → Nat) × (Nat → Nat → Int32) × (Nat → Nat → Nat → Int32) × (Nat → Nat → Nat → Int64))} (hs : ∀ {P F A J}, Gc P F A → ok (o P F A J) (CBc P F A)) (hk2 : ∀ {P F A J}, po (o P F A J) (fun r => KS F r.2.2.1)) (hr : ∀ {c B P F A J w}, o P F A J = some w → k_run t c_lg 40 M 0 loc [] (c_h c B P F A J) (some (.int w.1), c_h c B w.2.1 w.2.2.1 w.2.2.2.1 w.2.2.2.2)) (W : W4 JW JK H) : kx t 40 M 0 loc [] H (fun z => ∃ v H', z = (some (.int v), H') ∧ W4 JW JK H') := by
  obtain ⟨c, B, P, F, A, J, yF, yA, yJ, rfl, G, S, e, s, tp, jw, jk, hc⟩ := W
  obtain ⟨w, hw, G', e', hk⟩ := hs (J := J) G
  obtain ⟨e1, e2⟩ := Prod.mk.inj e'
  have rr := hr (c := c) (B := B) hw
  have hJ := tk_J (k_longs hL rr)
  have hA := tk_A (k_bytes hB rr)
  exact ⟨_, rr, w.1, _, rfl, c, B, w.2.1, w.2.2.1, w.2.2.2.1, w.2.2.2.2, yF, yA, yJ, rfl, G', S.p e2, e, s, ⟨e1.trans tp.1, by rw [hA]; exact tp.2⟩, hJ.trans jw, jk, ⟨hc.1.c G hk, hc.2.c (hk2 w hw)⟩⟩
theorem w_cr {M : Nat} {loc : List (Nat × Value)} {o : (Nat → Nat → Nat) → (Nat → Nat → Int32) → (Nat → Nat → Nat → Int32) → (Nat → Nat → Nat → Int64) → Option Int32} (hs : ∀ {P F A J}, Gc P F A → ok (o P F A J) (fun _ => True)) (hr : ∀ {c B P F A J w}, o P F A J = some w → k_run t c_lg 40 M 0 loc [] (c_h c B P F A J) (some (.int w), c_h c B P F A J)) (W : W4 JW JK H) : kx t 40 M 0 loc [] H (fun z => ∃ v H', z = (some (.int v), H') ∧ W4 JW JK H') := by
  obtain ⟨c, B, P, F, A, J, yF, yA, yJ, rfl, G, W⟩ := W
  obtain ⟨w, hw, -⟩ := hs (J := J) G
  exact ⟨_, hr hw, w, _, rfl, c, B, P, F, A, J, yF, yA, yJ, rfl, G, W⟩
theorem w_c_place (ht : ∀ ci k, t.1 ci k = k_ty ci k) (W : W4 JW JK H) : kx t 40 103 0 [(0, .ref 0)] [] H (fun z => ∃ v H', z = (some (.int v), H') ∧ W4 JW JK H') := w_cr (o := fun P F A J => e_SleepWork_place P F A J) (fun _ => ⟨_, rfl, trivial⟩) (fun h => t_e_SleepWork_place (d := 40) h) W
theorem w_c_task {x1 x2 : Int32} (ht : ∀ ci k, t.1 ci k = k_ty ci k) (W : W4 JW JK H) : kx t 40 104 0 [(0, .ref 0), (1, .int x1), (2, .int x2)] [] H (fun z => ∃ v H', z = (some (.int v), H') ∧ W4 JW JK H') := w_cr (o := fun P F A J => e_SleepWork_task 20000 P F A J x1 x2) (fun G => s_cTask (n := 20000) G (by decide)) (fun h => t_e_SleepWork_task (d := 39) h) W
theorem w_c_step {x1 x2 x3 : Int32} (ht : ∀ ci k, t.1 ci k = k_ty ci k) (W : W4 JW JK H) : kx t 40 105 0 [(0, .ref 0), (1, .int x1), (2, .int x2), (3, .int x3)] [] H (fun z => ∃ v H', z = (some (.int v), H') ∧ W4 JW JK H') := w_cr (o := fun P F A J => e_SleepWork_step P F A J x1 x2 x3) (fun G => s_cStep G) (fun h => t_e_SleepWork_step (d := 39) h) W
theorem w_c_man {x1 x2 : Int32} (ht : ∀ ci k, t.1 ci k = k_ty ci k) (W : W4 JW JK H) : kx t 40 106 0 [(0, .ref 0), (1, .int x1), (2, .int x2)] [] H (fun z => ∃ v H', z = (some (.int v), H') ∧ W4 JW JK H') := w_cr (o := fun P F A J => e_SleepWork_man P F A J x1 x2) (fun G => s_cMan G) (fun h => t_e_SleepWork_man (d := 39) h) W
theorem w_c_tool {x1 : Int32} (ht : ∀ ci k, t.1 ci k = k_ty ci k) (W : W4 JW JK H) : kx t 40 112 0 [(0, .ref 0), (1, .int x1)] [] H (fun z => ∃ v H', z = (some (.int v), H') ∧ W4 JW JK H') := w_cr (o := fun P F A J => e_SleepWork_tool P F A J x1) (fun G => s_cTool G) (fun h => t_e_SleepWork_tool (d := 39) h) W
theorem w_c_way {x1 x2 : Int32} (ht : ∀ ci k, t.1 ci k = k_ty ci k) (W : W4 JW JK H) : kx t 40 113 0 [(0, .ref 0), (1, .int x1), (2, .int x2)] [] H (fun z => ∃ v H', z = (some (.int v), H') ∧ W4 JW JK H') := w_ca (by decide) (by decide) (o := fun P F A J => e_SleepWork_way 20000 P F A J x1 x2) (fun G => h_cWay (n := 20000) G (by decide)) (ks_e_SleepWork_way KS.rfl') (fun h => t_e_SleepWork_way (d := 36) ht h) W
theorem w_c_leave {x1 x2 x3 : Int32} (ht : ∀ ci k, t.1 ci k = k_ty ci k) (W : W4 JW JK H) : kx t 40 114 0 [(0, .ref 0), (1, .int x1), (2, .int x2), (3, .int x3)] [] H (fun z => ∃ v H', z = (some (.int v), H') ∧ W4 JW JK H') := w_ca (by decide) (by decide) (o := fun P F A J => e_SleepWork_leave P F A J x1 x2 x3) (fun G => h_cLeave G) (ks_e_SleepWork_leave KS.rfl') (fun h => t_e_SleepWork_leave (d := 39) ht h) W
theorem w_c_work {x1 x2 : Int32} (ht : ∀ ci k, t.1 ci k = k_ty ci k) (W : W4 JW JK H) : kx t 40 115 0 [(0, .ref 0), (1, .int x1), (2, .int x2)] [] H (fun z => ∃ v H', z = (some (.int v), H') ∧ W4 JW JK H') := w_ca (by decide) (by decide) (o := fun P F A J => e_SleepWork_work P F A J x1 x2) (fun G => h_cWork G) (ks_e_SleepWork_work KS.rfl') (fun h => t_e_SleepWork_work (d := 39) ht h) W
theorem w_c_lay {x1 x2 : Int32} (ht : ∀ ci k, t.1 ci k = k_ty ci k) (W : W4 JW JK H) : kx t 40 116 0 [(0, .ref 0), (1, .int x1), (2, .int x2)] [] H (fun z => ∃ v H', z = (some (.int v), H') ∧ W4 JW JK H') := w_ca (by decide) (by decide) (o := fun P F A J => e_SleepWork_lay P F A J x1 x2) (fun G => h_cLay G) (ks_e_SleepWork_lay KS.rfl') (fun h => t_e_SleepWork_lay (d := 39) ht h) W
theorem w_c_give {x1 x2 : Int32} (ht : ∀ ci k, t.1 ci k = k_ty ci k) (W : W4 JW JK H) : kx t 40 117 0 [(0, .ref 0), (1, .int x1), (2, .int x2)] [] H (fun z => ∃ v H', z = (some (.int v), H') ∧ W4 JW JK H') := w_ca (by decide) (by decide) (o := fun P F A J => e_SleepWork_give P F A J x1 x2) (fun G => h_cGive G) (ks_e_SleepWork_give KS.rfl') (fun h => t_e_SleepWork_give (d := 39) ht h) W
theorem w_c_bar {x1 x2 : Int32} (ht : ∀ ci k, t.1 ci k = k_ty ci k) (W : W4 JW JK H) : kx t 40 118 0 [(0, .ref 0), (1, .int x1), (2, .int x2)] [] H (fun z => ∃ v H', z = (some (.int v), H') ∧ W4 JW JK H') := w_ca (by decide) (by decide) (o := fun P F A J => e_SleepWork_bar P F A J x1 x2) (fun G => h_cBar G) (ks_e_SleepWork_bar KS.rfl') (fun h => t_e_SleepWork_bar (d := 39) ht h) W
theorem w_c_gain (ht : ∀ ci k, t.1 ci k = k_ty ci k) (W : W4 JW JK H) : kx t 40 121 0 [(0, .ref 0)] [] H (fun z => ∃ v H', z = (some (.int v), H') ∧ W4 JW JK H') := w_ca (by decide) (by decide) (o := fun P F A J => e_SleepWork_gain 20000 P F A J) (fun G => h_cGain (n := 20000) G (by decide)) (ks_e_SleepWork_gain KS.rfl') (fun h => t_e_SleepWork_gain (d := 33) ht h) W
theorem w_c_best {x1 x2 : Int32} (ht : ∀ ci k, t.1 ci k = k_ty ci k) (W : W4 JW JK H) : kx t 40 122 0 [(0, .ref 0), (1, .int x1), (2, .int x2)] [] H (fun z => ∃ v H', z = (some (.int v), H') ∧ W4 JW JK H') := w_ca (by decide) (by decide) (o := fun P F A J => e_SleepWork_best 20000 P F A J x1 x2) (fun G => h_cBest (n := 20000) G (by decide)) (ks_e_SleepWork_best KS.rfl') (fun h => t_e_SleepWork_best (d := 33) ht h) W
theorem w_c_bestOfTwo {x1 x2 x3 : Int32} (ht : ∀ ci k, t.1 ci k = k_ty ci k) (W : W4 JW JK H) : kx t 40 123 0 [(0, .ref 0), (1, .int x1), (2, .int x2), (3, .int x3)] [] H (fun z => ∃ v H', z = (some (.int v), H') ∧ W4 JW JK H') := w_ca (by decide) (by decide) (o := fun P F A J => e_SleepWork_bestOfTwo 20000 P F A J x1 x2 x3) (fun G => h_cBestOfTwo (n := 20000) G (by decide)) (ks_e_SleepWork_bestOfTwo KS.rfl') (fun h => t_e_SleepWork_bestOfTwo (d := 33) ht h) W
theorem w_c_hire {x1 : Int32} (ht : ∀ ci k, t.1 ci k = k_ty ci k) (W : W4 JW JK H) : kx t 40 125 0 [(0, .ref 0), (1, .int x1)] [] H (fun z => ∃ v H', z = (some (.int v), H') ∧ W4 JW JK H') := w_ca (by decide) (by decide) (o := fun P F A J => e_SleepWork_hire 20000 P F A J x1) (fun G => h_cHire (n := 20000) G (by decide)) (ks_e_SleepWork_hire KS.rfl') (fun h => t_e_SleepWork_hire (d := 33) ht h) W
theorem w_c_hide {x1 x2 : Int32} (ht : ∀ ci k, t.1 ci k = k_ty ci k) (W : W4 JW JK H) : kx t 40 126 0 [(0, .ref 0), (1, .int x1), (2, .int x2)] [] H (fun z => ∃ v H', z = (some (.int v), H') ∧ W4 JW JK H') := w_ca (by decide) (by decide) (o := fun P F A J => e_SleepWork_hide 20000 P F A J x1 x2) (fun G => h_cHide (n := 20000) G (by decide)) (ks_e_SleepWork_hide KS.rfl') (fun h => t_e_SleepWork_hide (d := 33) ht h) W
theorem w_c_where {x1 x2 : Int32} (ht : ∀ ci k, t.1 ci k = k_ty ci k) (W : W4 JW JK H) : kx t 40 128 0 [(0, .ref 0), (1, .int x1), (2, .int x2)] [] H (fun z => ∃ v H', z = (some (.int v), H') ∧ W4 JW JK H') := w_ca (by decide) (by decide) (o := fun P F A J => e_SleepWork_where 20000 P F A J x1 x2) (fun G => h_cWhere (n := 20000) G (by decide)) (ks_e_SleepWork_where KS.rfl') (fun h => t_e_SleepWork_where (d := 36) ht h) W
theorem w_c_strokes {x1 x2 : Int32} (ht : ∀ ci k, t.1 ci k = k_ty ci k) (W : W4 JW JK H) : kx t 40 129 0 [(0, .ref 0), (1, .int x1), (2, .int x2)] [] H (fun z => ∃ v H', z = (some (.int v), H') ∧ W4 JW JK H') := w_ca (by decide) (by decide) (o := fun P F A J => e_SleepWork_strokes 20000 P F A J x1 x2) (fun G => h_cStrokes (n := 20000) G (by decide)) (ks_e_SleepWork_strokes KS.rfl') (fun h => t_e_SleepWork_strokes (d := 34) ht h) W
theorem w_c_fits {x1 x2 x3 : Int32} (ht : ∀ ci k, t.1 ci k = k_ty ci k) (W : W4 JW JK H) : kx t 40 132 0 [(0, .ref 0), (1, .int x1), (2, .int x2), (3, .int x3)] [] H (fun z => ∃ v H', z = (some (.int v), H') ∧ W4 JW JK H') := w_ca (by decide) (by decide) (o := fun P F A J => e_SleepWork_fits 20000 P F A J x1 x2 x3) (fun G => h_cFits (n := 20000) G (by decide)) (ks_e_SleepWork_fits KS.rfl') (fun h => t_e_SleepWork_fits (d := 34) ht h) W
theorem w_c_suspects {x1 : Int32} (ht : ∀ ci k, t.1 ci k = k_ty ci k) (W : W4 JW JK H) : kx t 40 133 0 [(0, .ref 0), (1, .int x1)] [] H (fun z => ∃ v H', z = (some (.int v), H') ∧ W4 JW JK H') := w_ca (by decide) (by decide) (o := fun P F A J => e_SleepWork_suspects 20000 P F A J x1) (fun G => h_cSuspects (n := 20000) G (by decide)) (ks_e_SleepWork_suspects KS.rfl') (fun h => t_e_SleepWork_suspects (d := 33) ht h) W
theorem w_c_pairs {x1 x2 x3 : Int32} (ht : ∀ ci k, t.1 ci k = k_ty ci k) (W : W4 JW JK H) : kx t 40 134 0 [(0, .ref 0), (1, .int x1), (2, .int x2), (3, .int x3)] [] H (fun z => ∃ v H', z = (some (.int v), H') ∧ W4 JW JK H') := w_ca (by decide) (by decide) (o := fun P F A J => e_SleepWork_pairs 20000 P F A J x1 x2 x3) (fun G => h_cPairs (n := 20000) G (by decide)) (ks_e_SleepWork_pairs KS.rfl') (fun h => t_e_SleepWork_pairs (d := 34) ht h) W
theorem w_c_count {x1 : Int32} (ht : ∀ ci k, t.1 ci k = k_ty ci k) (W : W4 JW JK H) : kx t 40 137 0 [(0, .ref 0), (1, .int x1)] [] H (fun z => ∃ v H', z = (some (.int v), H') ∧ W4 JW JK H') := w_cr (o := fun P F A J => e_SleepWork_count 20000 P F A J x1) (fun G => s_cCount (n := 20000) G (by decide)) (fun h => t_e_SleepWork_count (d := 38) h) W
theorem w_c_feed {x1 x2 x3 x4 x5 : Int32} (ht : ∀ ci k, t.1 ci k = k_ty ci k) (W : W4 JW JK H) : kx t 40 99 0 [(0, .ref 0), (1, .int x1), (2, .int x2), (3, .int x3), (4, .int x4), (5, .int x5)] [] H (fun z => ∃ v H', z = (some (.int v), H') ∧ WE JW JK (fun P F A J => e_SleepWork_feed 20000 P F A J x1 x2 x3 x4 x5) v H') := by
  obtain ⟨c, B, P, F, A, J, yF, yA, yJ, rfl, G, S, e, s, tp, jw, jk, hc⟩ := W
  obtain ⟨w, hw, ⟨G', e2⟩, q⟩ := s_cFeed (n := 20000) (J := J) (x1 := x1) (x2 := x2) (x3 := x3) (x4 := x4) (x5 := x5) G (by decide)
  exact ⟨_, t_e_SleepWork_feed (d := 39) ht hw, w.1, _, rfl, c, B, P, F, A, J, yF, yA, yJ, w, hw, rfl, rfl, G', S.p e2, e, s, G, tp, jw, jk, hc⟩
theorem w_c_back {x1 : Int32} (ht : ∀ ci k, t.1 ci k = k_ty ci k) (W : W4 JW JK H) : kx t 40 100 0 [(0, .ref 0), (1, .int x1)] [] H (fun z => ∃ v H', z = (some (.int v), H') ∧ WE JW JK (fun P F A J => e_SleepWork_back P F A J x1) v H') := by
  obtain ⟨c, B, P, F, A, J, yF, yA, yJ, rfl, G, S, e, s, tp, jw, jk, hc⟩ := W
  obtain ⟨w, hw, ⟨G', e2⟩, q⟩ := s_cBack (J := J) (x1 := x1) G
  exact ⟨_, t_e_SleepWork_back (d := 40) ht hw, w.1, _, rfl, c, B, P, F, A, J, yF, yA, yJ, w, hw, rfl, rfl, G', S.p e2, e, s, G, tp, jw, jk, hc⟩
theorem w_c_read (ht : ∀ ci k, t.1 ci k = k_ty ci k) (W : W4 JW JK H) : kx t 40 101 0 [(0, .ref 0)] [] H (fun z => ∃ v H', z = (some (.int v), H') ∧ WE JW JK (fun P F A J => e_SleepWork_read 20000 P F A J) v H') := by
  obtain ⟨c, B, P, F, A, J, yF, yA, yJ, rfl, G, S, e, s, tp, jw, jk, hc⟩ := W
  obtain ⟨w, hw, ⟨G', e2⟩, q⟩ := s_cRead (n := 20000) (J := J) G (by decide)
  exact ⟨_, t_e_SleepWork_read (d := 16) ht hw, w.1, _, rfl, c, B, P, F, A, J, yF, yA, yJ, w, hw, rfl, rfl, G', S.p e2, e, s, G, tp, jw, jk, hc⟩
theorem w_c_bars {x1 : Int32} (ht : ∀ ci k, t.1 ci k = k_ty ci k) (W : W4 JW JK H) : kx t 40 127 0 [(0, .ref 0), (1, .int x1)] [] H (fun z => ∃ v H', z = (some (.int v), H') ∧ W4 JW JK H') := by
  obtain ⟨c, B, P, F, A, J, yF, yA, yJ, rfl, G, S, e, s, tp, jw, jk, hc⟩ := W
  obtain ⟨z, hz, v, c', B', P', F', A', J', rfl, G', S', f, q, hJ, hk, hs⟩ := s_cBars (d := 33) (x1 := x1) (J := J) ht G S jw
  have hA := tk_A (k_bytes (by decide) hz)
  exact ⟨_, hz, v, _, rfl, c', B', P', F', A', J', yF, yA, yJ, rfl, G', S', (q 40 (by decide)).trans e, s, ⟨f.trans tp.1, by rw [hA]; exact tp.2⟩, hJ, jk, ⟨hc.1.c G hk, hc.2.c hs⟩⟩
theorem w_c_leaveE {x1 x2 x3 : Int32} (ht : ∀ ci k, t.1 ci k = k_ty ci k) (W : W4 JW JK H) : kx t 40 114 0 [(0, .ref 0), (1, .int x1), (2, .int x2), (3, .int x3)] [] H (fun z => ∃ v H', z = (some (.int v), H') ∧ WE JW JK (fun P F A J => e_SleepWork_leave P F A J x1 x2 x3) v H') := by
  obtain ⟨c, B, P, F, A, J, yF, yA, yJ, rfl, G, S, e, s, tp, jw, jk, hc⟩ := W
  obtain ⟨w, hw, G', e', hk⟩ := h_cLeave (J := J) (x1 := x1) (x2 := x2) (x3 := x3) G
  obtain ⟨e1, e2⟩ := Prod.mk.inj e'
  exact ⟨_, t_e_SleepWork_leave (d := 39) ht hw, w.1, _, rfl, c, B, P, F, A, J, yF, yA, yJ, w, hw, rfl, rfl, G', S.p e2, e, s, G, tp, jw, jk, hc⟩
theorem w_c_layE {x1 x2 : Int32} (ht : ∀ ci k, t.1 ci k = k_ty ci k) (W : W4 JW JK H) : kx t 40 116 0 [(0, .ref 0), (1, .int x1), (2, .int x2)] [] H (fun z => ∃ v H', z = (some (.int v), H') ∧ WE JW JK (fun P F A J => e_SleepWork_lay P F A J x1 x2) v H') := by
  obtain ⟨c, B, P, F, A, J, yF, yA, yJ, rfl, G, S, e, s, tp, jw, jk, hc⟩ := W
  obtain ⟨w, hw, G', e', hk⟩ := h_cLay (J := J) (x1 := x1) (x2 := x2) G
  obtain ⟨e1, e2⟩ := Prod.mk.inj e'
  exact ⟨_, t_e_SleepWork_lay (d := 39) ht hw, w.1, _, rfl, c, B, P, F, A, J, yF, yA, yJ, w, hw, rfl, rfl, G', S.p e2, e, s, G, tp, jw, jk, hc⟩
theorem w_c_giveE {x1 x2 : Int32} (ht : ∀ ci k, t.1 ci k = k_ty ci k) (W : W4 JW JK H) : kx t 40 117 0 [(0, .ref 0), (1, .int x1), (2, .int x2)] [] H (fun z => ∃ v H', z = (some (.int v), H') ∧ WE JW JK (fun P F A J => e_SleepWork_give P F A J x1 x2) v H') := by
  obtain ⟨c, B, P, F, A, J, yF, yA, yJ, rfl, G, S, e, s, tp, jw, jk, hc⟩ := W
  obtain ⟨w, hw, G', e', hk⟩ := h_cGive (J := J) (x1 := x1) (x2 := x2) G
  obtain ⟨e1, e2⟩ := Prod.mk.inj e'
  exact ⟨_, t_e_SleepWork_give (d := 39) ht hw, w.1, _, rfl, c, B, P, F, A, J, yF, yA, yJ, w, hw, rfl, rfl, G', S.p e2, e, s, G, tp, jw, jk, hc⟩
theorem w_c_barE {x1 x2 : Int32} (ht : ∀ ci k, t.1 ci k = k_ty ci k) (W : W4 JW JK H) : kx t 40 118 0 [(0, .ref 0), (1, .int x1), (2, .int x2)] [] H (fun z => ∃ v H', z = (some (.int v), H') ∧ WE JW JK (fun P F A J => e_SleepWork_bar P F A J x1 x2) v H') := by
  obtain ⟨c, B, P, F, A, J, yF, yA, yJ, rfl, G, S, e, s, tp, jw, jk, hc⟩ := W
  obtain ⟨w, hw, G', e', hk⟩ := h_cBar (J := J) (x1 := x1) (x2 := x2) G
  obtain ⟨e1, e2⟩ := Prod.mk.inj e'
  exact ⟨_, t_e_SleepWork_bar (d := 39) ht hw, w.1, _, rfl, c, B, P, F, A, J, yF, yA, yJ, w, hw, rfl, rfl, G', S.p e2, e, s, G, tp, jw, jk, hc⟩
theorem w_c_nightE (ht : ∀ ci k, t.1 ci k = k_ty ci k) (W : W4 JW JK H) : kx t 40 119 0 [(0, .ref 0)] [] H (fun z => ∃ v H', z = (some (.int v), H') ∧ WE JW JK (fun P F A J => e_SleepWork_night 20000 P F A J) v H') := by
  obtain ⟨c, B, P, F, A, J, yF, yA, yJ, rfl, G, S, e, s, tp, jw, jk, hc⟩ := W
  obtain ⟨w, hw, G', e', hk⟩ := h_cNight (n := 20000) (J := J) G (by decide)
  obtain ⟨e1, e2⟩ := Prod.mk.inj e'
  exact ⟨_, t_e_SleepWork_night (d := 34) ht hw, w.1, _, rfl, c, B, P, F, A, J, yF, yA, yJ, w, hw, rfl, rfl, G', S.p e2, e, s, G, tp, jw, jk, hc⟩
theorem w_c_undoE (ht : ∀ ci k, t.1 ci k = k_ty ci k) (W : W4 JW JK H) : kx t 40 120 0 [(0, .ref 0)] [] H (fun z => ∃ v H', z = (some (.int v), H') ∧ WE JW JK (fun P F A J => e_SleepWork_undo P F A J) v H') := by
  obtain ⟨c, B, P, F, A, J, yF, yA, yJ, rfl, G, S, e, s, tp, jw, jk, hc⟩ := W
  obtain ⟨w, hw, G', e', hk⟩ := h_cUndo (J := J) G
  obtain ⟨e1, e2⟩ := Prod.mk.inj e'
  exact ⟨_, t_e_SleepWork_undo (d := 38) ht hw, w.1, _, rfl, c, B, P, F, A, J, yF, yA, yJ, w, hw, rfl, rfl, G', S.p e2, e, s, G, tp, jw, jk, hc⟩
theorem w_c_tellE {x1 x2 x3 : Int32} (ht : ∀ ci k, t.1 ci k = k_ty ci k) (W : W4 JW JK H) : kx t 40 130 0 [(0, .ref 0), (1, .int x1), (2, .int x2), (3, .int x3)] [] H (fun z => ∃ v H', z = (some (.int v), H') ∧ WE JW JK (fun P F A J => e_SleepWork_tell P F A J x1 x2 x3) v H') := by
  obtain ⟨c, B, P, F, A, J, yF, yA, yJ, rfl, G, S, e, s, tp, jw, jk, hc⟩ := W
  obtain ⟨w, hw, G', e', hk⟩ := h_cTell (J := J) (x1 := x1) (x2 := x2) (x3 := x3) G
  obtain ⟨e1, e2⟩ := Prod.mk.inj e'
  exact ⟨_, t_e_SleepWork_tell (d := 39) ht hw, w.1, _, rfl, c, B, P, F, A, J, yF, yA, yJ, w, hw, rfl, rfl, G', S.p e2, e, s, G, tp, jw, jk, hc⟩
theorem w_c_forgetE (ht : ∀ ci k, t.1 ci k = k_ty ci k) (W : W4 JW JK H) : kx t 40 131 0 [(0, .ref 0)] [] H (fun z => ∃ v H', z = (some (.int v), H') ∧ WE JW JK (fun P F A J => e_SleepWork_forget P F A J) v H') := by
  obtain ⟨c, B, P, F, A, J, yF, yA, yJ, rfl, G, S, e, s, tp, jw, jk, hc⟩ := W
  obtain ⟨w, hw, G', e', hk⟩ := h_cForget (J := J) G
  obtain ⟨e1, e2⟩ := Prod.mk.inj e'
  exact ⟨_, t_e_SleepWork_forget (d := 39) ht hw, w.1, _, rfl, c, B, P, F, A, J, yF, yA, yJ, w, hw, rfl, rfl, G', S.p e2, e, s, G, tp, jw, jk, hc⟩
theorem w_c_holdE {x1 : Int32} (ht : ∀ ci k, t.1 ci k = k_ty ci k) (W : W4 JW JK H) : kx t 40 135 0 [(0, .ref 0), (1, .int x1)] [] H (fun z => ∃ v H', z = (some (.int v), H') ∧ WE JW JK (fun P F A J => e_SleepWork_hold P F A J x1) v H') := by
  obtain ⟨c, B, P, F, A, J, yF, yA, yJ, rfl, G, S, e, s, tp, jw, jk, hc⟩ := W
  obtain ⟨w, hw, G', e', hk⟩ := h_cHold (J := J) (x1 := x1) G
  obtain ⟨e1, e2⟩ := Prod.mk.inj e'
  exact ⟨_, t_e_SleepWork_hold (d := 39) ht hw, w.1, _, rfl, c, B, P, F, A, J, yF, yA, yJ, w, hw, rfl, rfl, G', S.p e2, e, s, G, tp, jw, jk, hc⟩
theorem w_c_restoreE {x1 : Int32} (ht : ∀ ci k, t.1 ci k = k_ty ci k) (W : W4 JW JK H) : kx t 40 136 0 [(0, .ref 0), (1, .int x1)] [] H (fun z => ∃ v H', z = (some (.int v), H') ∧ WE JW JK (fun P F A J => e_SleepWork_restore P F A J x1) v H') := by
  obtain ⟨c, B, P, F, A, J, yF, yA, yJ, rfl, G, S, e, s, tp, jw, jk, hc⟩ := W
  obtain ⟨w, hw, G', e', hk⟩ := h_cRestore (J := J) (x1 := x1) G
  obtain ⟨e1, e2⟩ := Prod.mk.inj e'
  exact ⟨_, t_e_SleepWork_restore (d := 39) ht hw, w.1, _, rfl, c, B, P, F, A, J, yF, yA, yJ, w, hw, rfl, rfl, G', S.p e2, e, s, G, tp, jw, jk, hc⟩
end S9j
