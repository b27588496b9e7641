/-! every call of the reference, over what holds between calls (printed by wip/wcalls.py) -/
section S9k
variable {t : gT} {JW JK : Nat → Int64} {H : gH} {F F' : Nat → Int32} {A A' : Nat → Nat → Int32}
theorem SAm.fr (S : SAm F A) (hF : IFm F') (hA : IAm A') (e18 : F' 18 = F 18) (o : ∀ q, 8 ≤ q → q ≤ 44 → A' q = A q) (r : RVm F' A' 47 (ai A 29 (F 18).toInt)) (hi : HIm F' A' (ai A 29 (F 18).toInt)) (he : HEm F' A' (ai A 29 (F 18).toInt)) : SAm F' A' := by
  refine ⟨hF, hA, S.2.2.1.fr e18 (fun q h0 h => o q h0 (by omega)), ?_, ?_, ?_, ?_⟩
  · have g := S.2.2.2.1
    unfold LGm at g ⊢
    rw [e18, ai_fr (o 29 (by decide) (by decide)), ai_fr (o 34 (by decide) (by decide)), ai_fr (o 35 (by decide) (by decide)), ai_fr (o 36 (by decide) (by decide)), ai_fr (o 37 (by decide) (by decide)), ai_fr (o 39 (by decide) (by decide)), ai_fr (o 40 (by decide) (by decide))]
    exact g
  · rw [e18, ai_fr (o 29 (by decide) (by decide))]; exact r
  · rw [e18, ai_fr (o 29 (by decide) (by decide))]; exact hi
  · rw [e18, ai_fr (o 29 (by decide) (by decide))]; exact he
theorem SAm.k0 (S : SAm F A) : ai A 29 (F 18).toInt ≤ 6 ∧ 0 ≤ ai A 29 (F 18).toInt := by
  have r18 : 0 ≤ (F 18).toInt ∧ (F 18).toInt ≤ 1 := S.1 18
  have : 0 ≤ ai A 29 (F 18).toInt ∧ ai A 29 (F 18).toInt ≤ 6 := S.2.1 29 _ r18.1
  exact ⟨this.2, this.1⟩
theorem SAm.of {Lf La : List Nat} (S : SAm F A) (hF : IFm F') (hA : IAm A') (fF : ∀ q, q ∉ Lf → F' q = F q) (fA : ∀ q, q ∉ La → A' q = A q) (cF : (Lf.contains 18 || Lf.contains 2) = false) (cA : (List.range 45).all (fun q => decide (q < 8) || !La.contains q) = true) (r : RVm F' A' 47 (ai A 29 (F 18).toInt)) (hi : HIm F' A' (ai A 29 (F 18).toInt)) (he : HEm F' A' (ai A 29 (F 18).toInt)) : SAm F' A' ∧ F' 2 = F 2 ∧ MF F F' A A' := by
  simp only [Bool.or_eq_false_iff, List.contains_eq_mem, decide_eq_false_iff_not] at cF
  have o : ∀ q, 8 ≤ q → q ≤ 44 → A' q = A q := fun q h8 hq => fA q (by
    have := List.all_eq_true.mp cA q (List.mem_range.mpr (by omega))
    simp only [Bool.or_eq_true, decide_eq_true_eq, Bool.not_eq_true', List.contains_eq_mem, decide_eq_false_iff_not] at this
    exact this.resolve_left (by omega))
  exact ⟨S.fr hF hA (fF 18 cF.1) o r hi he, fF 2 cF.2, fF 18 cF.1, o⟩
theorem SAm.rv (S : SAm F A) (e18 : F' 18 = F 18) (h19 : A' 19 = A 19) (h22 : A' 22 = A 22) (h47 : A' 47 = A 47) : RVm F' A' 47 (ai A 29 (F 18).toInt) := S.2.2.2.2.1.cg e18 h19 h22 (fun m _ _ => by rw [ai_fr h47]; exact ⟨rfl, rfl⟩)
theorem SAm.tp (S : SAm F A) (hF : IFm F') (hA : IAm A') (f : ∀ q, q ≠ 2 → F' q = F q) (g : ∀ q, q ≠ 1 → A' q = A q) : SAm F' A' :=
  S.fr hF hA (f 18 (by decide)) (fun q h8 _ => g q (by omega)) (S.rv (f 18 (by decide)) (g 19 (by decide)) (g 22 (by decide)) (g 47 (by decide))) (S.2.2.2.2.2.1.fr (f 18 (by decide)) (f 74 (by decide)) (g 19 (by decide)) (g 22 (by decide)) (g 57 (by decide))) (S.2.2.2.2.2.2.fr (f 18 (by decide)) (g 19 (by decide)) (g 22 (by decide)) (g 61 (by decide)) (g 62 (by decide)))
theorem m_of_c {c : Nat × Nat} {B : Nat → List gE} {P : Nat → Nat → Nat} {F : Nat → Nat → Int32} {A : Nat → Nat → Nat → Int32} {J : Nat → Nat → Nat → Int64} {yF yA yJ} (e : B 40 = m_cells yF yA yJ) : c_h c B P F A J = m_h c (c_f B P F A J) yF yA yJ := by
  refine Prod.ext rfl ?_
  funext q
  show c_f B P F A J q = va_up (c_f B P F A J) 40 (m_cells yF yA yJ) q
  by_cases hq : q = 40
  · subst hq
    rw [c_up_same]
    exact e
  · rw [c_up_ne hq]
theorem c_of_m {c : Nat × Nat} {B : Nat → List gE} {P : Nat → Nat → Nat} {F : Nat → Nat → Int32} {A : Nat → Nat → Nat → Int32} {J : Nat → Nat → Nat → Int64} {yF yA yJ} : m_h c (c_f B P F A J) yF yA yJ = c_h c (va_up B 40 (m_cells yF yA yJ)) P F A J := by
  refine Prod.ext rfl ?_
  funext q
  show va_up (c_f B P F A J) 40 (m_cells yF yA yJ) q = c_f (va_up B 40 (m_cells yF yA yJ)) P F A J q
  by_cases hq : q = 40
  · subst hq
    rw [c_up_same]
    show m_cells yF yA yJ = va_up B 40 (m_cells yF yA yJ) 40
    rw [c_up_same]
  · rw [c_up_ne hq]
    unfold c_f
    rw [c_up_ne hq]
theorem SEc.up {c : Nat × Nat} {B : Nat → List gE} {P : Nat → Nat → Nat} {l : List gE} (S : SEc c B P) : SEc c (va_up B 40 l) P := by
  have e : va_up B 40 l 39 = B 39 := c_up_ne (by decide)
  unfold SEc SEb at S ⊢
  rw [e]
  exact S
theorem tk_Jm {c c' : Nat × Nat} {B B' : Nat → List gE} {F F' : Nat → Int32} {A A' : Nat → Nat → Int32} {J J' : Nat → Nat → Int64} (h : tkp 3 (m_h c B F A J) (m_h c' B' F' A' J')) : J' 7 = J 7 := by
  have g : ∀ {c : Nat × Nat} {B : Nat → List gE} {F : Nat → Int32} {A : Nat → Nat → Int32} {J : Nat → Nat → Int64}, g_get (m_h c B F A J) (40 * 1024 + 7) = some (.inl (3, 21, .inr (.inl (J 7)))) := fun {c B F A J} => rfl
  have e := (h _ _ g).symm.trans g
  injection e with e
  injection e with e
  injection e with e1 e
  injection e with e2 e
  injection e with e
  injection e with e
  exact e.symm
theorem w_dk {M : Nat} {loc : List (Nat × Value)} (hL : k_sL.contains M = true) (W : W4 JW JK H) (hs : ∀ {F A J}, SAm F A → ∃ v F' A' J', (∀ {c B}, k_run t c_lg 40 M 0 loc [] (m_h c B F A J) (some (.int v), m_h c B F' A' J')) ∧ SAm F' A' ∧ F' 2 = F 2 ∧ A' 1 = A 1 ∧ MF F F' A A' ∧ KM F A F' A') : kx t 40 M 0 loc [] H (fun z => ∃ v H', z = (some (.int v), H') ∧ W4 JW JK H') := by
  obtain ⟨c, B, P, F, A, J, yF, yA, yJ, rfl, G, S, e, s, tp, jw, jk, hc⟩ := W
  obtain ⟨v, F', A', J', hr, s', q2, q1, mf, km⟩ := hs (J := yJ) s
  have rr := hr (c := c) (B := c_f B P F A J)
  have hJ := tk_Jm (k_longs hL rr)
  rw [m_of_c e]
  exact ⟨_, rr, v, _, rfl, c, va_up B 40 (m_cells F' A' J'), P, F, A, J, F', A', J', c_of_m, G, S.up, c_up_same _ _ _, s', ⟨tp.1.trans q2.symm, by rw [q2, q1]; exact tp.2⟩, jw, hJ.trans jk, ⟨hc.1.m mf, hc.2.m km⟩⟩
theorem w_dE {M : Nat} {loc : List (Nat × Value)} {o : (Nat → Nat → Nat) → (Nat → Nat → Int32) → (Nat → Nat → Nat → Int32) → (Nat → Nat → Nat → Int64) → Option (cR Int32)} {v1 : Int32} {R : Int32 → Int32 → Prop} (W : WE JW JK o v1 H) (hs : ∀ {P F A J Fm Am Jm w}, o P F A J = some w → Gc P F A → SAm Fm Am → TPx F A Fm Am → J 37 6 = JW → Jm 7 = JK → Gc w.2.1 w.2.2.1 w.2.2.2.1 → CY P F A Fm Am → ∃ v F' A' J', (∀ {c B}, k_run t c_lg 40 M 0 loc [] (m_h c B Fm Am Jm) (some (.int v), m_h c B F' A' J')) ∧ SAm F' A' ∧ TPx w.2.2.1 w.2.2.2.1 F' A' ∧ w.2.2.2.2 37 6 = JW ∧ J' 7 = JK ∧ CY w.2.1 w.2.2.1 w.2.2.2.1 F' A' ∧ R w.1 v) : kx t 40 M 0 loc [] H (fun z => ∃ v H', z = (some (.int v), H') ∧ W4 JW JK H' ∧ R v1 v) := by
  obtain ⟨c, B, P, F, A, J, yF, yA, yJ, w, ho, rfl, rfl, G', S, e, s, G, tp, jw, jk, hc⟩ := W
  obtain ⟨v, F', A', J', hr, s', tp', jw', jk', hc', r⟩ := hs ho G s tp jw jk G' hc
  have rr := hr (c := c) (B := c_f B w.2.1 w.2.2.1 w.2.2.2.1 w.2.2.2.2)
  rw [m_of_c e]
  exact ⟨_, rr, v, _, rfl, ⟨c, va_up B 40 (m_cells F' A' J'), w.2.1, w.2.2.1, w.2.2.2.1, w.2.2.2.2, F', A', J', c_of_m, G', S.up, c_up_same _ _ _, s', tp', jw', jk', hc'⟩, r⟩
theorem w_d_feed {x1 x2 x3 x4 x5 : Int32} (ht : ∀ ci k, t.1 ci k = k_ty ci k) {v1 : Int32} (W : WE JW JK (fun P F A J => e_SleepWork_feed 20000 P F A J x1 x2 x3 x4 x5) v1 H) : kx t 40 139 0 [(0, .ref 40960), (1, .int x1), (2, .int x2), (3, .int x3), (4, .int x4), (5, .int x5)] [] H (fun z => ∃ v H', z = (some (.int v), H') ∧ W4 JW JK H' ∧ True) := w_dE (R := fun _ _ => True) W (fun {P F A J Fm Am Jm w} ho G S tp jw jk G' hc => by
  obtain ⟨⟨v, F', A', J'⟩, hw, h1, h2, h3, h4, h5⟩ := s_d_feed (n := 20000) (J := Jm) (x1 := x1) (x2 := x2) (x3 := x3) (x4 := x4) (x5 := x5) S.1 S.2.1 (by decide)
  dsimp only at h1 h2 h3 h4 h5
  have f := fun q (hq : q ≠ 2) => h3 q (by simpa using hq)
  have g := fun q (hq : q ≠ 1) => h4 q (by simpa using hq)
  obtain ⟨t1, j1, j2⟩ := p2_feed tp _ _ ho hw
  have hk := ((h_cFeed (n := 20000) (J := J) (x1 := x1) (x2 := x2) (x3 := x3) (x4 := x4) (x5 := x5) G (by decide)).po _ ho).1
  exact ⟨v, F', A', J', t_d_feed (fun k => ht 12 k) (d := 39) hw, S.tp h1 h2 f g, t1, by rw [j1]; exact jw, by rw [show J' = Jm from j2]; exact jk, ⟨(hc.1.c G hk).m ⟨f 18 (by decide), fun q h8 _ => g q (by omega)⟩, (hc.2.c (ks_e_SleepWork_feed KS.rfl' _ ho)).m ⟨f 77 (by decide), f 74 (by decide), g 61 (by decide)⟩⟩, trivial⟩)
theorem w_d_back {x1 : Int32} (ht : ∀ ci k, t.1 ci k = k_ty ci k) {v1 : Int32} (W : WE JW JK (fun P F A J => e_SleepWork_back P F A J x1) v1 H) : kx t 40 141 0 [(0, .ref 40960), (1, .int x1)] [] H (fun z => ∃ v H', z = (some (.int v), H') ∧ W4 JW JK H' ∧ True) := w_dE (R := fun _ _ => True) W (fun {P F A J Fm Am Jm w} ho G S tp jw jk G' hc => by
  obtain ⟨⟨v, F', A', J'⟩, hw, h1, h2, h3, h4, h5⟩ := s_d_back (J := Jm) (x1 := x1) S.1 S.2.1
  dsimp only at h1 h2 h3 h4 h5
  have f := fun q (hq : q ≠ 2) => h3 q (by simpa using hq)
  have g := fun q (hq : q ≠ 1) => h4 q (by simp)
  obtain ⟨t1, j1, j2⟩ := p2_back tp (show 0 ≤ (Fm 2).toInt from (S.1 2).1) _ _ ho hw
  have hk := ((h_cBack (J := J) (x1 := x1) G).po _ ho).1
  exact ⟨v, F', A', J', t_d_back (fun k => ht 12 k) (d := 40) hw, S.tp h1 h2 f g, t1, by rw [j1]; exact jw, by rw [show J' = Jm from j2]; exact jk, ⟨(hc.1.c G hk).m ⟨f 18 (by decide), fun q h8 _ => g q (by omega)⟩, (hc.2.c (ks_e_SleepWork_back KS.rfl' _ ho)).m ⟨f 77 (by decide), f 74 (by decide), g 61 (by decide)⟩⟩, trivial⟩)
theorem w_d_read (hW : WKx JW JK) (ht : ∀ ci k, t.1 ci k = k_ty ci k) {v1 : Int32} (W : WE JW JK (fun P F A J => e_SleepWork_read 20000 P F A J) v1 H) : kx t 40 155 0 [(0, .ref 40960)] [] H (fun z => ∃ v H', z = (some (.int v), H') ∧ W4 JW JK H' ∧ v1.toInt = v.toInt) := w_dE (R := fun v1 v => v1.toInt = v.toInt) W (fun {P F A J Fm Am Jm w} ho G S tp jw jk G' hc => by
  obtain ⟨⟨v, F', A', J'⟩, hw, h1, h2⟩ := s_d_read (n := 20000) (J := Jm) S (by decide)
  obtain ⟨⟨e1, j1, j2⟩, hc'⟩ := p2_cread6 hW G S tp hc jw jk (by decide) (by decide) _ _ ho hw
  have z : cf w.2.2.1 1 1 = 0 := ((s_cRead (n := 20000) (J := J) G (by decide)).po _ ho).2
  have h2 : (F' 2).toInt = 0 := h2
  exact ⟨v, F', A', J', t_d_read (fun k => ht 12 k) (d := 33) hw, h1, ⟨i_ext (z.trans h2.symm), fun i hi => by rw [h2] at hi; omega⟩, j1, j2, hc', by rw [e1]⟩)
theorem w_d_place (ht : ∀ ci k, t.1 ci k = k_ty ci k) (W : W4 JW JK H) : kx t 40 156 0 [(0, .ref 40960)] [] H (fun z => ∃ v H', z = (some (.int v), H') ∧ W4 JW JK H') := w_dk (by decide) W (fun {F A J} S => by
  obtain ⟨v, hw, -⟩ := s_d_place (J := J) S.1 S.2.1
  exact ⟨v, F, A, J, t_d_place (d := 40) hw, S, rfl, rfl, MF.rfl', KM.rfl'⟩)
theorem w_d_task {x1 x2 : Int32} (ht : ∀ ci k, t.1 ci k = k_ty ci k) (W : W4 JW JK H) : kx t 40 202 0 [(0, .ref 40960), (1, .int x1), (2, .int x2)] [] H (fun z => ∃ v H', z = (some (.int v), H') ∧ W4 JW JK H') := w_dk (by decide) W (fun {F A J} S => by
  obtain ⟨⟨v, F', A', J'⟩, hw, h1, h2, h3, h4, -⟩ := s_d_task (n := 20000) (J := J) (x1 := x1) (x2 := x2) S.1 S.2.1 (by decide) S.k0.1 S.2.2.2.2.1
  have s := S.of h1 h2 h3 h4 (by decide) (by decide) (S.rv (h3 18 (by decide)) (h4 19 (by decide)) (h4 22 (by decide)) (h4 47 (by decide))) (S.2.2.2.2.2.1.fr (h3 18 (by decide)) (h3 74 (by decide)) (h4 19 (by decide)) (h4 22 (by decide)) (h4 57 (by decide))) (S.2.2.2.2.2.2.fr (h3 18 (by decide)) (h4 19 (by decide)) (h4 22 (by decide)) (h4 61 (by decide)) (h4 62 (by decide)))
  exact ⟨v, F', A', J', t_d_task (d := 38) hw, s.1, s.2.1, h4 1 (by decide), s.2.2, km_d_task KM.rfl' _ hw⟩)
theorem w_d_step {x1 x2 x3 : Int32} (ht : ∀ ci k, t.1 ci k = k_ty ci k) (W : W4 JW JK H) : kx t 40 204 0 [(0, .ref 40960), (1, .int x1), (2, .int x2), (3, .int x3)] [] H (fun z => ∃ v H', z = (some (.int v), H') ∧ W4 JW JK H') := w_dk (by decide) W (fun {F A J} S => by
  obtain ⟨v, hw, -⟩ := s_d_step (J := J) (x1 := x1) (x2 := x2) (x3 := x3) S.1 S.2.1
  exact ⟨v, F, A, J, t_d_step (d := 37) hw, S, rfl, rfl, MF.rfl', KM.rfl'⟩)
theorem w_d_man {x1 x2 : Int32} (ht : ∀ ci k, t.1 ci k = k_ty ci k) (W : W4 JW JK H) : kx t 40 205 0 [(0, .ref 40960), (1, .int x1), (2, .int x2)] [] H (fun z => ∃ v H', z = (some (.int v), H') ∧ W4 JW JK H') := w_dk (by decide) W (fun {F A J} S => by
  obtain ⟨v, hw, -⟩ := s_d_man (J := J) (x1 := x1) (x2 := x2) S.1 S.2.1
  exact ⟨v, F, A, J, t_d_man (d := 38) hw, S, rfl, rfl, MF.rfl', KM.rfl'⟩)
theorem w_d_tool {x1 : Int32} (ht : ∀ ci k, t.1 ci k = k_ty ci k) (W : W4 JW JK H) : kx t 40 206 0 [(0, .ref 40960), (1, .int x1)] [] H (fun z => ∃ v H', z = (some (.int v), H') ∧ W4 JW JK H') := w_dk (by decide) W (fun {F A J} S => by
  obtain ⟨v, hw, -⟩ := s_d_tool (J := J) (x1 := x1) S.1 S.2.1
  exact ⟨v, F, A, J, t_d_tool (d := 38) hw, S, rfl, rfl, MF.rfl', KM.rfl'⟩)
theorem w_d_way {x1 x2 : Int32} (ht : ∀ ci k, t.1 ci k = k_ty ci k) (W : W4 JW JK H) : kx t 40 207 0 [(0, .ref 40960), (1, .int x1), (2, .int x2)] [] H (fun z => ∃ v H', z = (some (.int v), H') ∧ W4 JW JK H') := w_dk (by decide) W (fun {F A J} S => by
  obtain ⟨⟨v, F', A', J'⟩, hw, h1, h2, h3, h4, -⟩ := s_d_way (n := 20000) (J := J) (x1 := x1) (x2 := x2) S.1 S.2.1 (by decide) S.k0.1 S.k0.2 S.2.2.1 rfl S.2.2.2.2.1
  have s := S.of h1 h2 h3 h4 (by decide) (by decide) (S.rv (h3 18 (by decide)) (h4 19 (by decide)) (h4 22 (by decide)) (h4 47 (by decide))) (S.2.2.2.2.2.1.fr (h3 18 (by decide)) (h3 74 (by decide)) (h4 19 (by decide)) (h4 22 (by decide)) (h4 57 (by decide))) (S.2.2.2.2.2.2.fr (h3 18 (by decide)) (h4 19 (by decide)) (h4 22 (by decide)) (h4 61 (by decide)) (h4 62 (by decide)))
  exact ⟨v, F', A', J', t_d_way (d := 38) hw, s.1, s.2.1, h4 1 (by decide), s.2.2, km_d_way KM.rfl' _ hw⟩)
theorem w_d_leave {x1 x2 x3 : Int32} (ht : ∀ ci k, t.1 ci k = k_ty ci k) (W : W4 JW JK H) : kx t 40 209 0 [(0, .ref 40960), (1, .int x1), (2, .int x2), (3, .int x3)] [] H (fun z => ∃ v H', z = (some (.int v), H') ∧ W4 JW JK H') := w_dk (by decide) W (fun {F A J} S => by
  obtain ⟨⟨v, F', A', J'⟩, hw, h1, h2, h3, h4, p1⟩ := s_d_leave (J := J) (x1 := x1) (x2 := x2) (x3 := x3) S.1 S.2.1 S.k0.1 rfl S.2.2.2.2.1
  have s := S.of h1 h2 h3 h4 (by decide) (by decide) (p1) (S.2.2.2.2.2.1.fr (h3 18 (by decide)) (h3 74 (by decide)) (h4 19 (by decide)) (h4 22 (by decide)) (h4 57 (by decide))) (S.2.2.2.2.2.2.fr (h3 18 (by decide)) (h4 19 (by decide)) (h4 22 (by decide)) (h4 61 (by decide)) (h4 62 (by decide)))
  exact ⟨v, F', A', J', t_d_leave (d := 36) hw, s.1, s.2.1, h4 1 (by decide), s.2.2, km_d_leave KM.rfl' _ hw⟩)
theorem w_d_work {x1 x2 : Int32} (ht : ∀ ci k, t.1 ci k = k_ty ci k) (W : W4 JW JK H) : kx t 40 210 0 [(0, .ref 40960), (1, .int x1), (2, .int x2)] [] H (fun z => ∃ v H', z = (some (.int v), H') ∧ W4 JW JK H') := w_dk (by decide) W (fun {F A J} S => by
  obtain ⟨⟨v, F', A', J'⟩, hw, h1, h2, h3, h4, p1⟩ := s_d_work (n := 20000) (J := J) (x1 := x1) (x2 := x2) S.1 S.2.1 (by decide) S.k0.1 S.k0.2 S.2.2.1 rfl S.2.2.2.2.1
  have s := S.of h1 h2 h3 h4 (by decide) (by decide) (p1) (S.2.2.2.2.2.1.fr (h3 18 (by decide)) (h3 74 (by decide)) (h4 19 (by decide)) (h4 22 (by decide)) (h4 57 (by decide))) (S.2.2.2.2.2.2.fr (h3 18 (by decide)) (h4 19 (by decide)) (h4 22 (by decide)) (h4 61 (by decide)) (h4 62 (by decide)))
  exact ⟨v, F', A', J', t_d_work (d := 37) hw, s.1, s.2.1, h4 1 (by decide), s.2.2, km_d_work KM.rfl' _ hw⟩)
theorem w_d_lay {x1 x2 : Int32} (ht : ∀ ci k, t.1 ci k = k_ty ci k) (W : W4 JW JK H) : kx t 40 211 0 [(0, .ref 40960), (1, .int x1), (2, .int x2)] [] H (fun z => ∃ v H', z = (some (.int v), H') ∧ W4 JW JK H') := w_dk (by decide) W (fun {F A J} S => by
  obtain ⟨⟨v, F', A', J'⟩, hw, h1, h2, h3, h4, p1⟩ := s_d_lay (J := J) (x1 := x1) (x2 := x2) S.1 S.2.1 S.k0.1 S.2.2.2.2.1
  have s := S.of h1 h2 h3 h4 (by decide) (by decide) (p1) (S.2.2.2.2.2.1.fr (h3 18 (by decide)) (h3 74 (by decide)) (h4 19 (by decide)) (h4 22 (by decide)) (h4 57 (by decide))) (S.2.2.2.2.2.2.fr (h3 18 (by decide)) (h4 19 (by decide)) (h4 22 (by decide)) (h4 61 (by decide)) (h4 62 (by decide)))
  exact ⟨v, F', A', J', t_d_lay (d := 38) hw, s.1, s.2.1, h4 1 (by decide), s.2.2, km_d_lay KM.rfl' _ hw⟩)
theorem w_d_give {x1 x2 : Int32} (ht : ∀ ci k, t.1 ci k = k_ty ci k) (W : W4 JW JK H) : kx t 40 212 0 [(0, .ref 40960), (1, .int x1), (2, .int x2)] [] H (fun z => ∃ v H', z = (some (.int v), H') ∧ W4 JW JK H') := w_dk (by decide) W (fun {F A J} S => by
  obtain ⟨⟨v, F', A', J'⟩, hw, h1, h2, h3, h4, p1⟩ := s_d_give (J := J) (x1 := x1) (x2 := x2) S.1 S.2.1 S.k0.1 S.2.2.2.2.1
  have s := S.of h1 h2 h3 h4 (by decide) (by decide) (p1) (S.2.2.2.2.2.1.fr (h3 18 (by decide)) (h3 74 (by decide)) (h4 19 (by decide)) (h4 22 (by decide)) (h4 57 (by decide))) (S.2.2.2.2.2.2.fr (h3 18 (by decide)) (h4 19 (by decide)) (h4 22 (by decide)) (h4 61 (by decide)) (h4 62 (by decide)))
  exact ⟨v, F', A', J', t_d_give (d := 38) hw, s.1, s.2.1, h4 1 (by decide), s.2.2, km_d_give KM.rfl' _ hw⟩)
theorem w_d_bar {x1 x2 : Int32} (ht : ∀ ci k, t.1 ci k = k_ty ci k) (W : W4 JW JK H) : kx t 40 213 0 [(0, .ref 40960), (1, .int x1), (2, .int x2)] [] H (fun z => ∃ v H', z = (some (.int v), H') ∧ W4 JW JK H') := w_dk (by decide) W (fun {F A J} S => by
  obtain ⟨⟨v, F', A', J'⟩, hw, h1, h2, h3, h4, p1⟩ := s_d_bar (J := J) (x1 := x1) (x2 := x2) S.1 S.2.1 S.k0.1 S.2.2.2.2.1
  have s := S.of h1 h2 h3 h4 (by decide) (by decide) (p1) (S.2.2.2.2.2.1.fr (h3 18 (by decide)) (h3 74 (by decide)) (h4 19 (by decide)) (h4 22 (by decide)) (h4 57 (by decide))) (S.2.2.2.2.2.2.fr (h3 18 (by decide)) (h4 19 (by decide)) (h4 22 (by decide)) (h4 61 (by decide)) (h4 62 (by decide)))
  exact ⟨v, F', A', J', t_d_bar (d := 39) hw, s.1, s.2.1, h4 1 (by decide), s.2.2, km_d_bar KM.rfl' _ hw⟩)
theorem w_d_gain (ht : ∀ ci k, t.1 ci k = k_ty ci k) (W : W4 JW JK H) : kx t 40 216 0 [(0, .ref 40960)] [] H (fun z => ∃ v H', z = (some (.int v), H') ∧ W4 JW JK H') := w_dk (by decide) W (fun {F A J} S => by
  obtain ⟨⟨v, F', A', J'⟩, hw, h1, h2, h3, h4, -⟩ := s_d_gain (n := 20000) (J := J) S.1 S.2.1 (by decide) S.k0.1 S.k0.2 S.2.2.1 rfl S.2.2.2.2.1
  have s := S.of h1 h2 h3 h4 (by decide) (by decide) (S.rv (h3 18 (by decide)) (h4 19 (by decide)) (h4 22 (by decide)) (h4 47 (by decide))) (S.2.2.2.2.2.1.fr (h3 18 (by decide)) (h3 74 (by decide)) (h4 19 (by decide)) (h4 22 (by decide)) (h4 57 (by decide))) (S.2.2.2.2.2.2.fr (h3 18 (by decide)) (h4 19 (by decide)) (h4 22 (by decide)) (h4 61 (by decide)) (h4 62 (by decide)))
  exact ⟨v, F', A', J', t_d_gain (fun k => ht 12 k) (d := 35) hw, s.1, s.2.1, h4 1 (by decide), s.2.2, km_d_gain KM.rfl' _ hw⟩)
theorem w_d_best {x1 x2 : Int32} (ht : ∀ ci k, t.1 ci k = k_ty ci k) (W : W4 JW JK H) : kx t 40 222 0 [(0, .ref 40960), (1, .int x1), (2, .int x2)] [] H (fun z => ∃ v H', z = (some (.int v), H') ∧ W4 JW JK H') := w_dk (by decide) W (fun {F A J} S => by
  obtain ⟨⟨v, F', A', J'⟩, hw, h1, h2, h3, h4, -⟩ := s_d_best (n := 20000) (J := J) (x1 := x1) (x2 := x2) S.1 S.2.1 (by decide) S.k0.1 S.k0.2 S.2.2.1 rfl S.2.2.2.2.1
  have s := S.of h1 h2 h3 h4 (by decide) (by decide) (S.rv (h3 18 (by decide)) (h4 19 (by decide)) (h4 22 (by decide)) (h4 47 (by decide))) (S.2.2.2.2.2.1.fr (h3 18 (by decide)) (h3 74 (by decide)) (h4 19 (by decide)) (h4 22 (by decide)) (h4 57 (by decide))) (S.2.2.2.2.2.2.fr (h3 18 (by decide)) (h4 19 (by decide)) (h4 22 (by decide)) (h4 61 (by decide)) (h4 62 (by decide)))
  exact ⟨v, F', A', J', t_d_best (fun k => ht 12 k) (d := 33) hw, s.1, s.2.1, h4 1 (by decide), s.2.2, km_d_best KM.rfl' _ hw⟩)
theorem w_d_bestOfTwo {x1 x2 x3 : Int32} (ht : ∀ ci k, t.1 ci k = k_ty ci k) (W : W4 JW JK H) : kx t 40 223 0 [(0, .ref 40960), (1, .int x1), (2, .int x2), (3, .int x3)] [] H (fun z => ∃ v H', z = (some (.int v), H') ∧ W4 JW JK H') := w_dk (by decide) W (fun {F A J} S => by
  obtain ⟨⟨v, F', A', J'⟩, hw, h1, h2, h3, h4, -⟩ := s_d_bestOfTwo (n := 20000) (J := J) (x1 := x1) (x2 := x2) (x3 := x3) S.1 S.2.1 (by decide) S.k0.1 S.k0.2 S.2.2.1 rfl S.2.2.2.2.1
  have s := S.of h1 h2 h3 h4 (by decide) (by decide) (S.rv (h3 18 (by decide)) (h4 19 (by decide)) (h4 22 (by decide)) (h4 47 (by decide))) (S.2.2.2.2.2.1.fr (h3 18 (by decide)) (h3 74 (by decide)) (h4 19 (by decide)) (h4 22 (by decide)) (h4 57 (by decide))) (S.2.2.2.2.2.2.fr (h3 18 (by decide)) (h4 19 (by decide)) (h4 22 (by decide)) (h4 61 (by decide)) (h4 62 (by decide)))
  exact ⟨v, F', A', J', t_d_bestOfTwo (fun k => ht 12 k) (d := 35) hw, s.1, s.2.1, h4 1 (by decide), s.2.2, km_d_bestOfTwo KM.rfl' _ hw⟩)
theorem w_d_hire {x1 : Int32} (ht : ∀ ci k, t.1 ci k = k_ty ci k) (W : W4 JW JK H) : kx t 40 224 0 [(0, .ref 40960), (1, .int x1)] [] H (fun z => ∃ v H', z = (some (.int v), H') ∧ W4 JW JK H') := w_dk (by decide) W (fun {F A J} S => by
  obtain ⟨⟨v, F', A', J'⟩, hw, h1, h2, h3, h4, -⟩ := s_d_hire (n := 20000) (J := J) (x1 := x1) S.1 S.2.1 (by decide) S.k0.1 S.k0.2 S.2.2.1 rfl S.2.2.2.2.1
  have s := S.of h1 h2 h3 h4 (by decide) (by decide) (S.rv (h3 18 (by decide)) (h4 19 (by decide)) (h4 22 (by decide)) (h4 47 (by decide))) (S.2.2.2.2.2.1.fr (h3 18 (by decide)) (h3 74 (by decide)) (h4 19 (by decide)) (h4 22 (by decide)) (h4 57 (by decide))) (S.2.2.2.2.2.2.fr (h3 18 (by decide)) (h4 19 (by decide)) (h4 22 (by decide)) (h4 61 (by decide)) (h4 62 (by decide)))
  exact ⟨v, F', A', J', t_d_hire (fun k => ht 12 k) (d := 33) hw, s.1, s.2.1, h4 1 (by decide), s.2.2, km_d_hire KM.rfl' _ hw⟩)
theorem w_d_hide {x1 x2 : Int32} (ht : ∀ ci k, t.1 ci k = k_ty ci k) (W : W4 JW JK H) : kx t 40 225 0 [(0, .ref 40960), (1, .int x1), (2, .int x2)] [] H (fun z => ∃ v H', z = (some (.int v), H') ∧ W4 JW JK H') := w_dk (by decide) W (fun {F A J} S => by
  obtain ⟨⟨v, F', A', J'⟩, hw, h1, h2, h3, h4, -⟩ := s_d_hide (n := 20000) (J := J) (x1 := x1) (x2 := x2) S.1 S.2.1 (by decide) S.k0.1 S.k0.2 S.2.2.1 rfl S.2.2.2.2.1
  have s := S.of h1 h2 h3 h4 (by decide) (by decide) (S.rv (h3 18 (by decide)) (h4 19 (by decide)) (h4 22 (by decide)) (h4 47 (by decide))) (S.2.2.2.2.2.1.fr (h3 18 (by decide)) (h3 74 (by decide)) (h4 19 (by decide)) (h4 22 (by decide)) (h4 57 (by decide))) (S.2.2.2.2.2.2.fr (h3 18 (by decide)) (h4 19 (by decide)) (h4 22 (by decide)) (h4 61 (by decide)) (h4 62 (by decide)))
  exact ⟨v, F', A', J', t_d_hide (fun k => ht 12 k) (d := 35) hw, s.1, s.2.1, h4 1 (by decide), s.2.2, km_d_hide KM.rfl' _ hw⟩)
theorem w_d_bars {x1 : Int32} (ht : ∀ ci k, t.1 ci k = k_ty ci k) (W : W4 JW JK H) : kx t 40 227 0 [(0, .ref 40960), (1, .int x1)] [] H (fun z => ∃ v H', z = (some (.int v), H') ∧ W4 JW JK H') := w_dk (by decide) W (fun {F A J} S => by
  obtain ⟨⟨v, F', A', J'⟩, hw, h1, h2, h3, h4, -⟩ := s_d_bars (n := 20000) (J := J) (x1 := x1) S.1 S.2.1 (by decide) S.k0.1 S.k0.2 S.2.2.1 rfl S.2.2.2.2.1
  have s := S.of h1 h2 h3 h4 (by decide) (by decide) (S.rv (h3 18 (by decide)) (h4 19 (by decide)) (h4 22 (by decide)) (h4 47 (by decide))) (S.2.2.2.2.2.1.fr (h3 18 (by decide)) (h3 74 (by decide)) (h4 19 (by decide)) (h4 22 (by decide)) (h4 57 (by decide))) (S.2.2.2.2.2.2.fr (h3 18 (by decide)) (h4 19 (by decide)) (h4 22 (by decide)) (h4 61 (by decide)) (h4 62 (by decide)))
  exact ⟨v, F', A', J', t_d_bars (fun k => ht 12 k) (d := 35) hw, s.1, s.2.1, h4 1 (by decide), s.2.2, km_d_bars KM.rfl' _ hw⟩)
theorem w_d_where {x1 x2 : Int32} (ht : ∀ ci k, t.1 ci k = k_ty ci k) (W : W4 JW JK H) : kx t 40 228 0 [(0, .ref 40960), (1, .int x1), (2, .int x2)] [] H (fun z => ∃ v H', z = (some (.int v), H') ∧ W4 JW JK H') := w_dk (by decide) W (fun {F A J} S => by
  obtain ⟨⟨v, F', A', J'⟩, hw, h1, h2, h3, h4, -⟩ := s_d_where (n := 20000) (J := J) (x1 := x1) (x2 := x2) S.1 S.2.1 (by decide) S.k0.1 S.k0.2 S.2.2.1 rfl S.2.2.2.2.1
  have s := S.of h1 h2 h3 h4 (by decide) (by decide) (S.rv (h3 18 (by decide)) (h4 19 (by decide)) (h4 22 (by decide)) (h4 47 (by decide))) (S.2.2.2.2.2.1.fr (h3 18 (by decide)) (h3 74 (by decide)) (h4 19 (by decide)) (h4 22 (by decide)) (h4 57 (by decide))) (S.2.2.2.2.2.2.fr (h3 18 (by decide)) (h4 19 (by decide)) (h4 22 (by decide)) (h4 61 (by decide)) (h4 62 (by decide)))
  exact ⟨v, F', A', J', t_d_where (d := 38) hw, s.1, s.2.1, h4 1 (by decide), s.2.2, km_d_where KM.rfl' _ hw⟩)
theorem w_d_strokes {x1 x2 : Int32} (ht : ∀ ci k, t.1 ci k = k_ty ci k) (W : W4 JW JK H) : kx t 40 229 0 [(0, .ref 40960), (1, .int x1), (2, .int x2)] [] H (fun z => ∃ v H', z = (some (.int v), H') ∧ W4 JW JK H') := w_dk (by decide) W (fun {F A J} S => by
  obtain ⟨⟨v, F', A', J'⟩, hw, h1, h2, h3, h4, -⟩ := s_d_strokes (n := 20000) (J := J) (x1 := x1) (x2 := x2) S.1 S.2.1 (by decide) S.k0.1 S.k0.2 S.2.2.1 rfl S.2.2.2.2.1
  have s := S.of h1 h2 h3 h4 (by decide) (by decide) (S.rv (h3 18 (by decide)) (h4 19 (by decide)) (h4 22 (by decide)) (h4 47 (by decide))) (S.2.2.2.2.2.1.fr (h3 18 (by decide)) (h3 74 (by decide)) (h4 19 (by decide)) (h4 22 (by decide)) (h4 57 (by decide))) (S.2.2.2.2.2.2.fr (h3 18 (by decide)) (h4 19 (by decide)) (h4 22 (by decide)) (h4 61 (by decide)) (h4 62 (by decide)))
  exact ⟨v, F', A', J', t_d_strokes (fun k => ht 12 k) (d := 36) hw, s.1, s.2.1, h4 1 (by decide), s.2.2, km_d_strokes KM.rfl' _ hw⟩)
theorem w_d_fits {x1 x2 x3 : Int32} (ht : ∀ ci k, t.1 ci k = k_ty ci k) (W : W4 JW JK H) : kx t 40 233 0 [(0, .ref 40960), (1, .int x1), (2, .int x2), (3, .int x3)] [] H (fun z => ∃ v H', z = (some (.int v), H') ∧ W4 JW JK H') := w_dk (by decide) W (fun {F A J} S => by
  obtain ⟨⟨v, F', A', J'⟩, hw, h1, h2, h3, h4, -⟩ := s_d_fits (n := 20000) (J := J) (x1 := x1) (x2 := x2) (x3 := x3) S.1 S.2.1 (by decide) S.k0.1 S.k0.2 S.2.2.1 rfl S.2.2.2.2.1
  have s := S.of h1 h2 h3 h4 (by decide) (by decide) (S.rv (h3 18 (by decide)) (h4 19 (by decide)) (h4 22 (by decide)) (h4 47 (by decide))) (S.2.2.2.2.2.1.fr (h3 18 (by decide)) (h3 74 (by decide)) (h4 19 (by decide)) (h4 22 (by decide)) (h4 57 (by decide))) (S.2.2.2.2.2.2.fr (h3 18 (by decide)) (h4 19 (by decide)) (h4 22 (by decide)) (h4 61 (by decide)) (h4 62 (by decide)))
  exact ⟨v, F', A', J', t_d_fits (fun k => ht 12 k) (d := 34) hw, s.1, s.2.1, h4 1 (by decide), s.2.2, km_d_fits KM.rfl' _ hw⟩)
theorem w_d_suspects {x1 : Int32} (ht : ∀ ci k, t.1 ci k = k_ty ci k) (W : W4 JW JK H) : kx t 40 235 0 [(0, .ref 40960), (1, .int x1)] [] H (fun z => ∃ v H', z = (some (.int v), H') ∧ W4 JW JK H') := w_dk (by decide) W (fun {F A J} S => by
  obtain ⟨⟨v, F', A', J'⟩, hw, h1, h2, h3, h4, -⟩ := s_d_suspects (n := 20000) (J := J) (x1 := x1) S.1 S.2.1 (by decide) S.k0.1 S.k0.2 S.2.2.1 rfl S.2.2.2.2.1
  have s := S.of h1 h2 h3 h4 (by decide) (by decide) (S.rv (h3 18 (by decide)) (h4 19 (by decide)) (h4 22 (by decide)) (h4 47 (by decide))) (S.2.2.2.2.2.1.fr (h3 18 (by decide)) (h3 74 (by decide)) (h4 19 (by decide)) (h4 22 (by decide)) (h4 57 (by decide))) (S.2.2.2.2.2.2.fr (h3 18 (by decide)) (h4 19 (by decide)) (h4 22 (by decide)) (h4 61 (by decide)) (h4 62 (by decide)))
  exact ⟨v, F', A', J', t_d_suspects (fun k => ht 12 k) (d := 33) hw, s.1, s.2.1, h4 1 (by decide), s.2.2, km_d_suspects KM.rfl' _ hw⟩)
theorem w_d_pairs {x1 x2 x3 : Int32} (ht : ∀ ci k, t.1 ci k = k_ty ci k) (W : W4 JW JK H) : kx t 40 236 0 [(0, .ref 40960), (1, .int x1), (2, .int x2), (3, .int x3)] [] H (fun z => ∃ v H', z = (some (.int v), H') ∧ W4 JW JK H') := w_dk (by decide) W (fun {F A J} S => by
  obtain ⟨⟨v, F', A', J'⟩, hw, h1, h2, h3, h4, -⟩ := s_d_pairs (n := 20000) (J := J) (x1 := x1) (x2 := x2) (x3 := x3) S.1 S.2.1 (by decide) S.k0.1 S.k0.2 S.2.2.1 rfl S.2.2.2.2.1
  have s := S.of h1 h2 h3 h4 (by decide) (by decide) (S.rv (h3 18 (by decide)) (h4 19 (by decide)) (h4 22 (by decide)) (h4 47 (by decide))) (S.2.2.2.2.2.1.fr (h3 18 (by decide)) (h3 74 (by decide)) (h4 19 (by decide)) (h4 22 (by decide)) (h4 57 (by decide))) (S.2.2.2.2.2.2.fr (h3 18 (by decide)) (h4 19 (by decide)) (h4 22 (by decide)) (h4 61 (by decide)) (h4 62 (by decide)))
  exact ⟨v, F', A', J', t_d_pairs (fun k => ht 12 k) (d := 34) hw, s.1, s.2.1, h4 1 (by decide), s.2.2, km_d_pairs KM.rfl' _ hw⟩)
theorem w_d_count {x1 : Int32} (ht : ∀ ci k, t.1 ci k = k_ty ci k) (W : W4 JW JK H) : kx t 40 239 0 [(0, .ref 40960), (1, .int x1)] [] H (fun z => ∃ v H', z = (some (.int v), H') ∧ W4 JW JK H') := w_dk (by decide) W (fun {F A J} S => by
  obtain ⟨⟨v, F', A', J'⟩, hw, h1, h2, h3, h4, -⟩ := s_d_count (n := 20000) (J := J) (x1 := x1) S.1 S.2.1 (by decide) S.k0.1 S.2.2.2.2.1
  have s := S.of h1 h2 h3 h4 (by decide) (by decide) (S.rv (h3 18 (by decide)) (h4 19 (by decide)) (h4 22 (by decide)) (h4 47 (by decide))) (S.2.2.2.2.2.1.fr (h3 18 (by decide)) (h3 74 (by decide)) (h4 19 (by decide)) (h4 22 (by decide)) (h4 57 (by decide))) (S.2.2.2.2.2.2.fr (h3 18 (by decide)) (h4 19 (by decide)) (h4 22 (by decide)) (h4 61 (by decide)) (h4 62 (by decide)))
  exact ⟨v, F', A', J', t_d_count (d := 37) hw, s.1, s.2.1, h4 1 (by decide), s.2.2, km_d_count KM.rfl' _ hw⟩)
theorem w_d_leaveE {x1 x2 x3 : Int32} (ht : ∀ ci k, t.1 ci k = k_ty ci k) {v1 : Int32} (W : WE JW JK (fun P F A J => e_SleepWork_leave P F A J x1 x2 x3) v1 H) : kx t 40 209 0 [(0, .ref 40960), (1, .int x1), (2, .int x2), (3, .int x3)] [] H (fun z => ∃ v H', z = (some (.int v), H') ∧ W4 JW JK H' ∧ v1.toInt = v.toInt) := w_dE (R := fun v1 v => v1.toInt = v.toInt) W (fun {P F A J Fm Am Jm w} ho G S tp jw jk G' hc => by
  obtain ⟨⟨v, F', A', J'⟩, hw, h1, h2, h3, h4, p1⟩ := s_d_leave (J := Jm) (x1 := x1) (x2 := x2) (x3 := x3) S.1 S.2.1 S.k0.1 rfl S.2.2.2.2.1
  have s := S.of h1 h2 h3 h4 (by decide) (by decide) (p1) (S.2.2.2.2.2.1.fr (h3 18 (by decide)) (h3 74 (by decide)) (h4 19 (by decide)) (h4 22 (by decide)) (h4 57 (by decide))) (S.2.2.2.2.2.2.fr (h3 18 (by decide)) (h4 19 (by decide)) (h4 22 (by decide)) (h4 61 (by decide)) (h4 62 (by decide)))
  obtain ⟨-, e', hk⟩ := (h_cLeave (J := J) (x1 := x1) (x2 := x2) (x3 := x3) G).po _ ho
  obtain ⟨e1, -⟩ := Prod.mk.inj e'
  have rr := t_e_SleepWork_leave (lg := c_lg) (d := 39) (c := (0, 0)) (B := fun _ => []) ht ho
  have hJ := tk_J (k_longs (by decide) rr)
  have hA := tk_A (k_bytes (by decide) rr)
  have hm := tk_Jm (k_longs (t := t) (lg := c_lg) (d := 40) (by decide) (t_d_leave (d := 36) (c := (0, 0)) (B := fun _ => []) hw))
  have ev := p2_leave G S hc.1 _ _ ho hw
  exact ⟨v, F', A', J', t_d_leave (d := 36) hw, s.1, ⟨e1.trans (tp.1.trans s.2.1.symm), by rw [show F' 2 = Fm 2 from s.2.1, hA, show A' 1 = Am 1 from h4 1 (by decide)]; exact tp.2⟩, hJ.trans jw, hm.trans jk, ⟨(hc.1.c G hk).m s.2.2, (hc.2.c (ks_e_SleepWork_leave KS.rfl' _ ho)).m (km_d_leave KM.rfl' _ hw)⟩, by rw [ev]⟩)
theorem w_d_layE {x1 x2 : Int32} (ht : ∀ ci k, t.1 ci k = k_ty ci k) {v1 : Int32} (W : WE JW JK (fun P F A J => e_SleepWork_lay P F A J x1 x2) v1 H) : kx t 40 211 0 [(0, .ref 40960), (1, .int x1), (2, .int x2)] [] H (fun z => ∃ v H', z = (some (.int v), H') ∧ W4 JW JK H' ∧ v1.toInt = v.toInt) := w_dE (R := fun v1 v => v1.toInt = v.toInt) W (fun {P F A J Fm Am Jm w} ho G S tp jw jk G' hc => by
  obtain ⟨⟨v, F', A', J'⟩, hw, h1, h2, h3, h4, p1⟩ := s_d_lay (J := Jm) (x1 := x1) (x2 := x2) S.1 S.2.1 S.k0.1 S.2.2.2.2.1
  have s := S.of h1 h2 h3 h4 (by decide) (by decide) (p1) (S.2.2.2.2.2.1.fr (h3 18 (by decide)) (h3 74 (by decide)) (h4 19 (by decide)) (h4 22 (by decide)) (h4 57 (by decide))) (S.2.2.2.2.2.2.fr (h3 18 (by decide)) (h4 19 (by decide)) (h4 22 (by decide)) (h4 61 (by decide)) (h4 62 (by decide)))
  obtain ⟨-, e', hk⟩ := (h_cLay (J := J) (x1 := x1) (x2 := x2) G).po _ ho
  obtain ⟨e1, -⟩ := Prod.mk.inj e'
  have rr := t_e_SleepWork_lay (lg := c_lg) (d := 39) (c := (0, 0)) (B := fun _ => []) ht ho
  have hJ := tk_J (k_longs (by decide) rr)
  have hA := tk_A (k_bytes (by decide) rr)
  have hm := tk_Jm (k_longs (t := t) (lg := c_lg) (d := 40) (by decide) (t_d_lay (d := 38) (c := (0, 0)) (B := fun _ => []) hw))
  have ev := p2_lay G S hc.1 _ _ ho hw
  exact ⟨v, F', A', J', t_d_lay (d := 38) hw, s.1, ⟨e1.trans (tp.1.trans s.2.1.symm), by rw [show F' 2 = Fm 2 from s.2.1, hA, show A' 1 = Am 1 from h4 1 (by decide)]; exact tp.2⟩, hJ.trans jw, hm.trans jk, ⟨(hc.1.c G hk).m s.2.2, (hc.2.c (ks_e_SleepWork_lay KS.rfl' _ ho)).m (km_d_lay KM.rfl' _ hw)⟩, by rw [ev]⟩)
theorem w_d_giveE {x1 x2 : Int32} (ht : ∀ ci k, t.1 ci k = k_ty ci k) {v1 : Int32} (W : WE JW JK (fun P F A J => e_SleepWork_give P F A J x1 x2) v1 H) : kx t 40 212 0 [(0, .ref 40960), (1, .int x1), (2, .int x2)] [] H (fun z => ∃ v H', z = (some (.int v), H') ∧ W4 JW JK H' ∧ v1.toInt = v.toInt) := w_dE (R := fun v1 v => v1.toInt = v.toInt) W (fun {P F A J Fm Am Jm w} ho G S tp jw jk G' hc => by
  obtain ⟨⟨v, F', A', J'⟩, hw, h1, h2, h3, h4, p1⟩ := s_d_give (J := Jm) (x1 := x1) (x2 := x2) S.1 S.2.1 S.k0.1 S.2.2.2.2.1
  have s := S.of h1 h2 h3 h4 (by decide) (by decide) (p1) (S.2.2.2.2.2.1.fr (h3 18 (by decide)) (h3 74 (by decide)) (h4 19 (by decide)) (h4 22 (by decide)) (h4 57 (by decide))) (S.2.2.2.2.2.2.fr (h3 18 (by decide)) (h4 19 (by decide)) (h4 22 (by decide)) (h4 61 (by decide)) (h4 62 (by decide)))
  obtain ⟨-, e', hk⟩ := (h_cGive (J := J) (x1 := x1) (x2 := x2) G).po _ ho
  obtain ⟨e1, -⟩ := Prod.mk.inj e'
  have rr := t_e_SleepWork_give (lg := c_lg) (d := 39) (c := (0, 0)) (B := fun _ => []) ht ho
  have hJ := tk_J (k_longs (by decide) rr)
  have hA := tk_A (k_bytes (by decide) rr)
  have hm := tk_Jm (k_longs (t := t) (lg := c_lg) (d := 40) (by decide) (t_d_give (d := 38) (c := (0, 0)) (B := fun _ => []) hw))
  have ev := p2_give G S hc.1 _ _ ho hw
  exact ⟨v, F', A', J', t_d_give (d := 38) hw, s.1, ⟨e1.trans (tp.1.trans s.2.1.symm), by rw [show F' 2 = Fm 2 from s.2.1, hA, show A' 1 = Am 1 from h4 1 (by decide)]; exact tp.2⟩, hJ.trans jw, hm.trans jk, ⟨(hc.1.c G hk).m s.2.2, (hc.2.c (ks_e_SleepWork_give KS.rfl' _ ho)).m (km_d_give KM.rfl' _ hw)⟩, by rw [ev]⟩)
theorem w_d_barE {x1 x2 : Int32} (ht : ∀ ci k, t.1 ci k = k_ty ci k) {v1 : Int32} (W : WE JW JK (fun P F A J => e_SleepWork_bar P F A J x1 x2) v1 H) : kx t 40 213 0 [(0, .ref 40960), (1, .int x1), (2, .int x2)] [] H (fun z => ∃ v H', z = (some (.int v), H') ∧ W4 JW JK H' ∧ v1.toInt = v.toInt) := w_dE (R := fun v1 v => v1.toInt = v.toInt) W (fun {P F A J Fm Am Jm w} ho G S tp jw jk G' hc => by
  obtain ⟨⟨v, F', A', J'⟩, hw, h1, h2, h3, h4, p1⟩ := s_d_bar (J := Jm) (x1 := x1) (x2 := x2) S.1 S.2.1 S.k0.1 S.2.2.2.2.1
  have s := S.of h1 h2 h3 h4 (by decide) (by decide) (p1) (S.2.2.2.2.2.1.fr (h3 18 (by decide)) (h3 74 (by decide)) (h4 19 (by decide)) (h4 22 (by decide)) (h4 57 (by decide))) (S.2.2.2.2.2.2.fr (h3 18 (by decide)) (h4 19 (by decide)) (h4 22 (by decide)) (h4 61 (by decide)) (h4 62 (by decide)))
  obtain ⟨-, e', hk⟩ := (h_cBar (J := J) (x1 := x1) (x2 := x2) G).po _ ho
  obtain ⟨e1, -⟩ := Prod.mk.inj e'
  have rr := t_e_SleepWork_bar (lg := c_lg) (d := 39) (c := (0, 0)) (B := fun _ => []) ht ho
  have hJ := tk_J (k_longs (by decide) rr)
  have hA := tk_A (k_bytes (by decide) rr)
  have hm := tk_Jm (k_longs (t := t) (lg := c_lg) (d := 40) (by decide) (t_d_bar (d := 39) (c := (0, 0)) (B := fun _ => []) hw))
  have ev := p2_bar G S hc.1 _ _ ho hw
  exact ⟨v, F', A', J', t_d_bar (d := 39) hw, s.1, ⟨e1.trans (tp.1.trans s.2.1.symm), by rw [show F' 2 = Fm 2 from s.2.1, hA, show A' 1 = Am 1 from h4 1 (by decide)]; exact tp.2⟩, hJ.trans jw, hm.trans jk, ⟨(hc.1.c G hk).m s.2.2, (hc.2.c (ks_e_SleepWork_bar KS.rfl' _ ho)).m (km_d_bar KM.rfl' _ hw)⟩, by rw [ev]⟩)
theorem w_d_nightE (ht : ∀ ci k, t.1 ci k = k_ty ci k) {v1 : Int32} (W : WE JW JK (fun P F A J => e_SleepWork_night 20000 P F A J) v1 H) : kx t 40 214 0 [(0, .ref 40960)] [] H (fun z => ∃ v H', z = (some (.int v), H') ∧ W4 JW JK H' ∧ True) := w_dE (R := fun _ _ => True) W (fun {P F A J Fm Am Jm w} ho G S tp jw jk G' hc => by
  obtain ⟨⟨v, F', A', J'⟩, hw, h1, h2, h3, h4, p1, p2⟩ := s_d_night (n := 20000) (J := Jm) S.1 S.2.1 (by decide) S.k0.1 S.k0.2 S.2.2.1 rfl S.2.2.2.2.1 S.2.2.2.2.2.1
  have s := S.of h1 h2 h3 h4 (by decide) (by decide) (p1) (p2) (S.2.2.2.2.2.2.fr (h3 18 (by decide)) (h4 19 (by decide)) (h4 22 (by decide)) (h4 61 (by decide)) (h4 62 (by decide)))
  obtain ⟨-, e', hk⟩ := (h_cNight (n := 20000) (J := J) G (by decide)).po _ ho
  obtain ⟨e1, -⟩ := Prod.mk.inj e'
  have rr := t_e_SleepWork_night (lg := c_lg) (d := 34) (c := (0, 0)) (B := fun _ => []) ht ho
  have hJ := tk_J (k_longs (by decide) rr)
  have hA := tk_A (k_bytes (by decide) rr)
  have hm := tk_Jm (k_longs (t := t) (lg := c_lg) (d := 40) (by decide) (t_d_night (fun k => ht 12 k) (d := 35) (c := (0, 0)) (B := fun _ => []) hw))
  have ev := p2_night G S hc _ _ ho hw
  exact ⟨v, F', A', J', t_d_night (fun k => ht 12 k) (d := 35) hw, s.1, ⟨e1.trans (tp.1.trans s.2.1.symm), by rw [show F' 2 = Fm 2 from s.2.1, hA, show A' 1 = Am 1 from h4 1 (by decide)]; exact tp.2⟩, hJ.trans jw, hm.trans jk, ⟨(hc.1.c G hk).m s.2.2, ev.2⟩, trivial⟩)
theorem w_d_undoE (ht : ∀ ci k, t.1 ci k = k_ty ci k) {v1 : Int32} (W : WE JW JK (fun P F A J => e_SleepWork_undo P F A J) v1 H) : kx t 40 215 0 [(0, .ref 40960)] [] H (fun z => ∃ v H', z = (some (.int v), H') ∧ W4 JW JK H' ∧ v1.toInt = v.toInt) := w_dE (R := fun v1 v => v1.toInt = v.toInt) W (fun {P F A J Fm Am Jm w} ho G S tp jw jk G' hc => by
  obtain ⟨⟨v, F', A', J'⟩, hw, h1, h2, h3, h4, p1, p2⟩ := s_d_undo (n := 20000) (J := Jm) S.1 S.2.1 (by decide) S.k0.1 S.2.2.2.2.1 S.2.2.2.2.2.1
  have s := S.of h1 h2 h3 h4 (by decide) (by decide) (p1) (p2) (S.2.2.2.2.2.2.fr (h3 18 (by decide)) (h4 19 (by decide)) (h4 22 (by decide)) (h4 61 (by decide)) (h4 62 (by decide)))
  obtain ⟨-, e', hk⟩ := (h_cUndo (J := J) G).po _ ho
  obtain ⟨e1, -⟩ := Prod.mk.inj e'
  have rr := t_e_SleepWork_undo (lg := c_lg) (d := 38) (c := (0, 0)) (B := fun _ => []) ht ho
  have hJ := tk_J (k_longs (by decide) rr)
  have hA := tk_A (k_bytes (by decide) rr)
  have hm := tk_Jm (k_longs (t := t) (lg := c_lg) (d := 40) (by decide) (t_d_undo (fun k => ht 12 k) (d := 40) (c := (0, 0)) (B := fun _ => []) hw))
  have ev := p2_undo G S hc _ _ ho hw
  exact ⟨v, F', A', J', t_d_undo (fun k => ht 12 k) (d := 40) hw, s.1, ⟨e1.trans (tp.1.trans s.2.1.symm), by rw [show F' 2 = Fm 2 from s.2.1, hA, show A' 1 = Am 1 from h4 1 (by decide)]; exact tp.2⟩, hJ.trans jw, hm.trans jk, ⟨(hc.1.c G hk).m s.2.2, ev.2⟩, by rw [ev.1]⟩)
theorem w_d_tellE {x1 x2 x3 : Int32} (ht : ∀ ci k, t.1 ci k = k_ty ci k) {v1 : Int32} (W : WE JW JK (fun P F A J => e_SleepWork_tell P F A J x1 x2 x3) v1 H) : kx t 40 230 0 [(0, .ref 40960), (1, .int x1), (2, .int x2), (3, .int x3)] [] H (fun z => ∃ v H', z = (some (.int v), H') ∧ W4 JW JK H' ∧ v1.toInt = v.toInt) := w_dE (R := fun v1 v => v1.toInt = v.toInt) W (fun {P F A J Fm Am Jm w} ho G S tp jw jk G' hc => by
  obtain ⟨⟨v, F', A', J'⟩, hw, h1, h2, h3, h4, -⟩ := s_d_tell3 (J := Jm) (x1 := x1) (x2 := x2) (x3 := x3) S.1 S.2.1
  have s := S.of h1 h2 h3 h4 (by decide) (by decide) (S.rv (h3 18 (by decide)) (h4 19 (by decide)) (h4 22 (by decide)) (h4 47 (by decide))) (S.2.2.2.2.2.1.fr (h3 18 (by decide)) (h3 74 (by decide)) (h4 19 (by decide)) (h4 22 (by decide)) (h4 57 (by decide))) (S.2.2.2.2.2.2.fr (h3 18 (by decide)) (h4 19 (by decide)) (h4 22 (by decide)) (h4 61 (by decide)) (h4 62 (by decide)))
  obtain ⟨-, e', hk⟩ := (h_cTell (J := J) (x1 := x1) (x2 := x2) (x3 := x3) G).po _ ho
  obtain ⟨e1, -⟩ := Prod.mk.inj e'
  have rr := t_e_SleepWork_tell (lg := c_lg) (d := 39) (c := (0, 0)) (B := fun _ => []) ht ho
  have hJ := tk_J (k_longs (by decide) rr)
  have hA := tk_A (k_bytes (by decide) rr)
  have hm := tk_Jm (k_longs (t := t) (lg := c_lg) (d := 40) (by decide) (t_d_tell3 (fun k => ht 12 k) (d := 37) (c := (0, 0)) (B := fun _ => []) hw))
  have ev := p2_tell G S hc _ _ ho hw
  exact ⟨v, F', A', J', t_d_tell3 (fun k => ht 12 k) (d := 37) hw, s.1, ⟨e1.trans (tp.1.trans s.2.1.symm), by rw [show F' 2 = Fm 2 from s.2.1, hA, show A' 1 = Am 1 from h4 1 (by decide)]; exact tp.2⟩, hJ.trans jw, hm.trans jk, ⟨(hc.1.c G hk).m s.2.2, ev.2⟩, by rw [ev.1]⟩)
theorem w_d_forgetE (ht : ∀ ci k, t.1 ci k = k_ty ci k) {v1 : Int32} (W : WE JW JK (fun P F A J => e_SleepWork_forget P F A J) v1 H) : kx t 40 231 0 [(0, .ref 40960)] [] H (fun z => ∃ v H', z = (some (.int v), H') ∧ W4 JW JK H' ∧ v1.toInt = v.toInt) := w_dE (R := fun v1 v => v1.toInt = v.toInt) W (fun {P F A J Fm Am Jm w} ho G S tp jw jk G' hc => by
  obtain ⟨⟨v, F', A', J'⟩, hw, h1, h2, h3, h4, -⟩ := s_d_forget (J := Jm) S.1 S.2.1
  have s := S.of h1 h2 h3 h4 (by decide) (by decide) (S.rv (h3 18 (by decide)) (h4 19 (by decide)) (h4 22 (by decide)) (h4 47 (by decide))) (S.2.2.2.2.2.1.fr (h3 18 (by decide)) (h3 74 (by decide)) (h4 19 (by decide)) (h4 22 (by decide)) (h4 57 (by decide))) (S.2.2.2.2.2.2.fr (h3 18 (by decide)) (h4 19 (by decide)) (h4 22 (by decide)) (h4 61 (by decide)) (h4 62 (by decide)))
  obtain ⟨-, e', hk⟩ := (h_cForget (J := J) G).po _ ho
  obtain ⟨e1, -⟩ := Prod.mk.inj e'
  have rr := t_e_SleepWork_forget (lg := c_lg) (d := 39) (c := (0, 0)) (B := fun _ => []) ht ho
  have hJ := tk_J (k_longs (by decide) rr)
  have hA := tk_A (k_bytes (by decide) rr)
  have hm := tk_Jm (k_longs (t := t) (lg := c_lg) (d := 40) (by decide) (t_d_forget (fun k => ht 12 k) (d := 40) (c := (0, 0)) (B := fun _ => []) hw))
  have ev := p2_forget G S hc _ _ ho hw
  exact ⟨v, F', A', J', t_d_forget (fun k => ht 12 k) (d := 40) hw, s.1, ⟨e1.trans (tp.1.trans s.2.1.symm), by rw [show F' 2 = Fm 2 from s.2.1, hA, show A' 1 = Am 1 from h4 1 (by decide)]; exact tp.2⟩, hJ.trans jw, hm.trans jk, ⟨(hc.1.c G hk).m s.2.2, ev.2⟩, by rw [ev.1]⟩)
theorem w_d_holdE {x1 : Int32} (ht : ∀ ci k, t.1 ci k = k_ty ci k) {v1 : Int32} (W : WE JW JK (fun P F A J => e_SleepWork_hold P F A J x1) v1 H) : kx t 40 237 0 [(0, .ref 40960), (1, .int x1)] [] H (fun z => ∃ v H', z = (some (.int v), H') ∧ W4 JW JK H' ∧ v1.toInt = v.toInt) := w_dE (R := fun v1 v => v1.toInt = v.toInt) W (fun {P F A J Fm Am Jm w} ho G S tp jw jk G' hc => by
  obtain ⟨⟨v, F', A', J'⟩, hw, h1, h2, h3, h4, p3⟩ := s_d_hold (n := 20000) (J := Jm) (x1 := x1) S.1 S.2.1 (by decide) S.k0.1 S.2.2.2.2.1 S.2.2.2.2.2.2
  have s := S.of h1 h2 h3 h4 (by decide) (by decide) (S.rv (h3 18 (by decide)) (h4 19 (by decide)) (h4 22 (by decide)) (h4 47 (by decide))) (S.2.2.2.2.2.1.fr (h3 18 (by decide)) (h3 74 (by decide)) (h4 19 (by decide)) (h4 22 (by decide)) (h4 57 (by decide))) (p3)
  obtain ⟨-, e', hk⟩ := (h_cHold (J := J) (x1 := x1) G).po _ ho
  obtain ⟨e1, -⟩ := Prod.mk.inj e'
  have rr := t_e_SleepWork_hold (lg := c_lg) (d := 39) (c := (0, 0)) (B := fun _ => []) ht ho
  have hJ := tk_J (k_longs (by decide) rr)
  have hA := tk_A (k_bytes (by decide) rr)
  have hm := tk_Jm (k_longs (t := t) (lg := c_lg) (d := 40) (by decide) (t_d_hold (d := 39) (c := (0, 0)) (B := fun _ => []) hw))
  have ev := p2_hold G S hc _ _ ho hw
  exact ⟨v, F', A', J', t_d_hold (d := 39) hw, s.1, ⟨e1.trans (tp.1.trans s.2.1.symm), by rw [show F' 2 = Fm 2 from s.2.1, hA, show A' 1 = Am 1 from h4 1 (by decide)]; exact tp.2⟩, hJ.trans jw, hm.trans jk, ⟨(hc.1.c G hk).m s.2.2, ev.2⟩, by rw [ev.1]⟩)
theorem w_d_restoreE {x1 : Int32} (ht : ∀ ci k, t.1 ci k = k_ty ci k) {v1 : Int32} (W : WE JW JK (fun P F A J => e_SleepWork_restore P F A J x1) v1 H) : kx t 40 238 0 [(0, .ref 40960), (1, .int x1)] [] H (fun z => ∃ v H', z = (some (.int v), H') ∧ W4 JW JK H' ∧ v1.toInt = v.toInt) := w_dE (R := fun v1 v => v1.toInt = v.toInt) W (fun {P F A J Fm Am Jm w} ho G S tp jw jk G' hc => by
  obtain ⟨⟨v, F', A', J'⟩, hw, h1, h2, h3, h4, p1, p2⟩ := s_d_restore (n := 20000) (J := Jm) (x1 := x1) S.1 S.2.1 (by decide) S.k0.1 S.2.2.2.2.1 S.2.2.2.2.2.1 S.2.2.2.2.2.2
  have s := S.of h1 h2 h3 h4 (by decide) (by decide) (p1) (p2) (S.2.2.2.2.2.2.fr (h3 18 (by decide)) (h4 19 (by decide)) (h4 22 (by decide)) (h4 61 (by decide)) (h4 62 (by decide)))
  obtain ⟨-, e', hk⟩ := (h_cRestore (J := J) (x1 := x1) G).po _ ho
  obtain ⟨e1, -⟩ := Prod.mk.inj e'
  have rr := t_e_SleepWork_restore (lg := c_lg) (d := 39) (c := (0, 0)) (B := fun _ => []) ht ho
  have hJ := tk_J (k_longs (by decide) rr)
  have hA := tk_A (k_bytes (by decide) rr)
  have hm := tk_Jm (k_longs (t := t) (lg := c_lg) (d := 40) (by decide) (t_d_restore (fun k => ht 12 k) (d := 39) (c := (0, 0)) (B := fun _ => []) hw))
  have ev := p2_restore G S hc _ _ ho hw
  exact ⟨v, F', A', J', t_d_restore (fun k => ht 12 k) (d := 39) hw, s.1, ⟨e1.trans (tp.1.trans s.2.1.symm), by rw [show F' 2 = Fm 2 from s.2.1, hA, show A' 1 = Am 1 from h4 1 (by decide)]; exact tp.2⟩, hJ.trans jw, hm.trans jk, ⟨(hc.1.c G hk).m s.2.2, ev.2⟩, by rw [ev.1]⟩)
end S9k
