/-! bars, whatever the evening -/
section S9i
variable {t : gT} {d : Nat} {c : Nat × Nat} {B B0 : Nat → List gE} {P P' P0 : Nat → Nat → Nat} {F F' F0 : Nat → Nat → Int32} {A A' A0 : Nat → Nat → Nat → Int32} {J : Nat → Nat → Nat → Int64} {j e : Nat}
theorem kx_ok {α : Type} {o : Option α} {R : α → Prop} {zf : α → Option Value × gH} {M pc : Nat} {loc : List (Nat × Value)} {st : List Value} {h0 : gH} (h : ok o R) (hr : ∀ w, o = some w → k_run t c_lg d M pc loc st h0 (zf w)) : kx t d M pc loc st h0 (fun z => ∃ w, z = zf w ∧ R w) := by
  obtain ⟨w, hw, r⟩ := h
  exact ⟨_, hr w hw, w, rfl, r⟩
theorem tk_J {c c' : Nat × Nat} {B B' : Nat → List gE} {P P' : Nat → Nat → Nat} {F F' : Nat → Nat → Int32} {A A' : Nat → Nat → Nat → Int32} {J J' : Nat → Nat → Nat → Int64} (h : tkp 3 (c_h c B P F A J) (c_h c' B' P' F' A' J')) : J' 37 6 = J 37 6 := by
  have g : ∀ {c : Nat × Nat} {B : Nat → List gE} {P : Nat → Nat → Nat} {F : Nat → Nat → Int32} {A : Nat → Nat → Nat → Int32} {J : Nat → Nat → Nat → Int64}, g_get (c_h c B P F A J) (37 * 1024 + 6) = some (.inl (3, 21, .inr (.inl (J 37 6)))) := fun {c B P F A J} => (c_get (r := 37) (o := 6) (K := 11) rfl (by decide)).trans rfl
  have e := (h _ _ g).symm.trans g
  injection e with e
  injection e with e
  injection e with e1 e
  injection e with e2 e
  injection e with e
  injection e with e
  exact e.symm
theorem tk_A {c c' : Nat × Nat} {B B' : Nat → List gE} {P P' : Nat → Nat → Nat} {F F' : Nat → Nat → Int32} {A A' : Nat → Nat → Nat → Int32} {J J' : Nat → Nat → Nat → Int64} (h : tkp 1 (c_h c B P F A J) (c_h c' B' P' F' A' J')) : A' 1 1 = A 1 1 := by
  have g : ∀ {c : Nat × Nat} {B : Nat → List gE} {P : Nat → Nat → Nat} {F : Nat → Nat → Int32} {A : Nat → Nat → Nat → Int32} {J : Nat → Nat → Nat → Int64}, g_get (c_h c B P F A J) (1 * 1024 + 1) = some (.inl (1, 2000, .inl (A 1 1))) := fun {c B P F A J} => (c_get (r := 1) (o := 1) (K := 1) rfl (by decide)).trans rfl
  have e := (h _ _ g).symm.trans g
  injection e with e
  injection e with e
  injection e with e1 e
  injection e with e2 e
  injection e with e
  exact e.symm
theorem kx_okT {α : Type} {o : Option α} {R : α → Prop} {zf : α → Option Value × gH} {M pc : Nat} {loc : List (Nat × Value)} {st : List Value} {h0 : gH} (h : ok o R) (hr : ∀ w, o = some w → k_run t c_lg d M pc loc st h0 (zf w)) (hM : k_sL.contains M = true) : kx t d M pc loc st h0 (fun z => ∃ w, z = zf w ∧ R w ∧ tkp 3 h0 (zf w).2) := by
  obtain ⟨w, hw, r⟩ := h
  exact ⟨_, hr w hw, w, rfl, r, k_longs (v := (zf w).1) hM (hr w hw)⟩
/-- what holds between the tries -/
def BIv (P0 : Nat → Nat → Nat) (F0 : Nat → Nat → Int32) (A0 : Nat → Nat → Nat → Int32) (B0 : Nat → List gE) (c : Nat × Nat) (B : Nat → List gE) (P : Nat → Nat → Nat) (F : Nat → Nat → Int32) (A : Nat → Nat → Nat → Int32) : Prop := Gc P F A ∧ (∃ j e, SEb c B P j e) ∧ F 1 1 = F0 1 1 ∧ b39 B0 B ∧ HK P0 F0 A0 P F A ∧ KS F0 F
theorem BIv.q (I : BIv P0 F0 A0 B0 c B P F A) (q : QKc P P' F F' A A') (s : KS F F') : BIv P0 F0 A0 B0 c B P' F' A' := by
  obtain ⟨G, ⟨j, e, S⟩, e1, b, hk, ks⟩ := I
  exact ⟨q.g G, ⟨j, e, S.1, S.2.1, (q.1 32 9 (by decide)).trans S.2.2.1, S.2.2.2⟩, (q.2.2.2.2.2.2 1).trans e1, b, hk.tr q.hk, ks.tr s⟩
def BIw (w : Nat → Int64) (J : Nat → Nat → Nat → Int64) (P0 : Nat → Nat → Nat) (F0 : Nat → Nat → Int32) (A0 : Nat → Nat → Nat → Int32) (B0 : Nat → List gE) (c : Nat × Nat) (B : Nat → List gE) (P : Nat → Nat → Nat) (F : Nat → Nat → Int32) (A : Nat → Nat → Nat → Int32) : Prop := BIv P0 F0 A0 B0 c B P F A ∧ J 37 6 = w
theorem BIw.q {w : Nat → Int64} {J J' : Nat → Nat → Nat → Int64} (I : BIw w J P0 F0 A0 B0 c B P F A) (q : QKc P P' F F' A A') (s : KS F F') (h : J' 37 6 = J 37 6) : BIw w J' P0 F0 A0 B0 c B P' F' A' := ⟨I.1.q q s, h.trans I.2⟩
theorem b_43 {w : Nat → Int64} (ht : ∀ ci k, t.1 ci k = k_ty ci k) {sets size : Int32} {Q : Option Value × gH → Prop} (hs : sets.toInt ≤ 4096) (K : ∀ {c : Nat × Nat} {B : Nat → List gE} {P : Nat → Nat → Nat} {F : Nat → Nat → Int32} {A : Nat → Nat → Nat → Int32} {J : Nat → Nat → Nat → Int64} {set : Int32}, BIw w J P0 F0 A0 B0 c B P F A → kx t (d + 6) 13 103 [(0, .ref (32 * 1024)), (1, .int sets), (2, .int size), (3, .int set)] [] (c_h c B P F A J) Q) : ∀ {m : Nat} {c : Nat × Nat} {B : Nat → List gE} {P : Nat → Nat → Nat} {F : Nat → Nat → Int32} {A : Nat → Nat → Nat → Int32} {J : Nat → Nat → Nat → Int64} {set : Int32}, BIw w J P0 F0 A0 B0 c B P F A → 0 ≤ set.toInt → set.toInt + m = sets.toInt → kx t (d + 6) 13 43 [(0, .ref (32 * 1024)), (1, .int sets), (2, .int size), (3, .int set)] [] (c_h c B P F A J) Q := by
  intro m
  induction m with
  | zero =>
    intro c B P F A J set I s0 hm
    refine kxB (pc' := 45) (loc' := [(0, .ref (32 * 1024)), (1, .int sets), (2, .int size), (3, .int set)]) (st' := [.int sets, .int set]) 2 rfl ?_
    refine kxic rfl (fun _ => K I) (fun hc => ?_)
    rw [i_nge] at hc
    omega
  | succ m ih =>
    intro c B P F A J set I s0 hm
    have l1 : (1 : Int32).toInt = 1 := by decide
    have es : (set + 1).toInt = set.toInt + 1 := by rw [i_add (by omega) (by omega), l1]
    have f97 : ∀ {c : Nat × Nat} {B : Nat → List gE} {P : Nat → Nat → Nat} {F : Nat → Nat → Int32} {A : Nat → Nat → Nat → Int32} {J : Nat → Nat → Nat → Int64}, BIw w J P0 F0 A0 B0 c B P F A → kx t (d + 6) 13 97 [(0, .ref (32 * 1024)), (1, .int sets), (2, .int size), (3, .int set)] [] (c_h c B P F A J) Q := by
      intro c B P F A J I
      refine kxB (pc' := 43) (loc' := [(0, .ref (32 * 1024)), (1, .int sets), (2, .int size), (3, .int (set + 1))]) (st' := []) 2 rfl ?_
      exact ih I (by omega) (by omega)
    refine kxB (pc' := 45) (loc' := [(0, .ref (32 * 1024)), (1, .int sets), (2, .int size), (3, .int set)]) (st' := [.int sets, .int set]) 2 rfl ?_
    refine kxic rfl (fun _ => K I) (fun hc => ?_)
    refine kxB (pc' := 49) (loc' := [(0, .ref (32 * 1024)), (1, .int sets), (2, .int size), (3, .int set)]) (st' := [.int set]) 1 rfl ?_
    refine kxC (Q1 := fun z => ∃ v : Int32, z = (some (.int v), c_h c B P F A J)) rfl rfl rfl rfl ⟨_, t_e_Integer_bitCount (d := d + 5) rfl, _, rfl⟩ ?_
    rintro v h1 ⟨v', e1⟩
    cases e1
    refine kxB (pc' := 53) (loc' := [(0, .ref (32 * 1024)), (1, .int sets), (2, .int size), (3, .int set)]) (st' := [.int size, .int v']) 1 rfl ?_
    refine kxic rfl (fun _ => f97 I) (fun _ => ?_)
    refine kxB (pc' := 59) (loc' := [(0, .ref (32 * 1024)), (1, .int sets), (2, .int size), (3, .int set)]) (st' := [.int set, .ref (32 * 1024), .ref (32 * 1024)]) 3 rfl ?_
    refine kxV rfl rfl rfl (c_get (r := 32) (o := 0) (K := 7) rfl (by decide)) rfl rfl (kx_okT (ok_and (s_arrivals (n := 200) I.1.1 (by omega)) (ks_e_Evening_arrivals KS.rfl')) (fun w hw => t_e_Evening_arrivals (d := d + 2) ht hw) (by decide)) ?_
    rintro v h1 ⟨⟨key, P2, F2, A2, J2⟩, e1, ⟨q2, s2⟩, tk2⟩
    cases e1
    dsimp only at q2 s2
    have I2 := I.q q2 s2 (tk_J tk2)
    obtain ⟨j, e, S2⟩ := I2.1.2.1
    refine kxV rfl rfl rfl (c_get (r := 32) (o := 0) (K := 7) rfl (by decide)) rfl rfl (b_new (d := d + 5) S2) ?_
    rintro v h1 ⟨v3, B3, e1, S3, b3⟩
    cases e1
    have I3 : BIw w J2 P0 F0 A0 B0 c B3 P2 F2 A2 := ⟨⟨I2.1.1, ⟨j, e, S3⟩, I2.1.2.2.1, I2.1.2.2.2.1.tr b3, I2.1.2.2.2.2⟩, I2.2⟩
    refine kxif rfl (fun _ => f97 I3) (fun _ => ?_)
    refine kxB (pc' := 69) (loc' := [(0, .ref (32 * 1024)), (1, .int sets), (2, .int size), (3, .int set)]) (st' := [.ref (32 * 1024)]) 1 rfl ?_
    refine kxI (fun z hz => k_gf 32 0 (K := 7) rfl rfl rfl rfl rfl hz) ?_
    refine kxB (pc' := 73) (loc' := [(0, .ref (32 * 1024)), (1, .int sets), (2, .int size), (3, .int set)]) (st' := [.ref (32 * 1024), .ref (33 * 1024)]) 1 rfl ?_
    refine kxI (fun z hz => k_gf 32 0 (K := 7) rfl rfl rfl rfl rfl hz) ?_
    refine kxV rfl rfl rfl (c_get (r := 33) (o := 0) (K := 2) rfl (by decide)) rfl rfl (kx_okT (ok_and (q_trial I3.1.1) (ks_e_State_copy KS.rfl')) (fun w hw => t_e_State_copy (d := d + 5) ht rfl rfl hw) (by decide)) ?_
    rintro v h1 ⟨⟨u4, P4, F4, A4, J4⟩, e1, ⟨⟨g4, q4, L4, -⟩, s4⟩, tk4⟩
    cases e1
    dsimp only at g4 q4 L4 s4
    subst g4
    have I4 := I3.q q4 s4 (tk_J tk4)
    refine kxB (pc' := 80) (loc' := [(0, .ref (32 * 1024)), (1, .int sets), (2, .int size), (3, .int set)]) (st' := [.ref (32 * 1024)]) 1 rfl ?_
    refine kxI (fun z hz => k_gf 32 0 (K := 7) rfl rfl rfl rfl rfl hz) ?_
    refine kxB (pc' := 84) (loc' := [(0, .ref (32 * 1024)), (1, .int sets), (2, .int size), (3, .int set)]) (st' := [.int set, .ref (33 * 1024)]) 1 rfl ?_
    have pf : ∃ F5, c_pf F4 33 7 set = some F5 ∧ FUm F4 F5 33 7 set := by
      have := ok_cpf (F := F4) (r := 33) (k := 7) (x := set) (g := fun F' => some F') (Q := fun F' => FUm F4 F' 33 7 set) (fun F' U => ok_some U)
      obtain ⟨F5, h5, U5⟩ := this
      exact ⟨F5, by rw [← h5]; rfl, U5⟩
    obtain ⟨F5, h5, U5⟩ := pf
    refine kxI (fun z hz => k_cpt 33 0 (K := 2) (key := 7) rfl rfl (ht _ _) rfl rfl rfl h5 hz) ?_
    have q5 := (QKc.rfl' (P := P4) I4.1.1.1).pf U5 trivial (by decide)
    have I5 : BIw w J4 P0 F0 A0 B0 c B3 P4 F5 A4 := I4.q q5 ⟨U5.2 25 2 (by simp), U5.2 4 2 (by simp), U5.2 0 10 (by simp)⟩ rfl
    refine kxB (pc' := 89) (loc' := [(0, .ref (32 * 1024)), (1, .int sets), (2, .int size), (3, .int set)]) (st' := [.ref (32 * 1024), .ref (32 * 1024)]) 2 rfl ?_
    refine kxV rfl rfl rfl (c_get (r := 32) (o := 0) (K := 7) rfl (by decide)) rfl rfl (kx_okT (ok_and (q_gainOfTrial (n := 1400) I5.1.1 L4 (by omega)) (ks_e_Evening_gainOfTrial KS.rfl')) (fun w hw => t_e_Evening_gainOfTrial (d := d) ht hw) (by decide)) ?_
    rintro v h1 ⟨⟨v6, P6, F6, A6, J6⟩, e1, ⟨q6, s6⟩, tk6⟩
    cases e1
    dsimp only at q6 s6
    have I6 := I5.q q6 s6 (tk_J tk6)
    refine kxB (pc' := 94) (loc' := [(0, .ref (32 * 1024)), (1, .int sets), (2, .int size), (3, .int set)]) (st' := [.int (-1), .int set, .int v6, .ref (32 * 1024)]) 2 rfl ?_
    refine kxV rfl rfl rfl (c_get (r := 32) (o := 0) (K := 7) rfl (by decide)) rfl rfl (kx_okT (ok_and (q_offer I6.1.1) (ks_e_Evening_offer KS.rfl')) (fun w hw => t_e_Evening_offer (d := d + 5) ht hw) (by decide)) ?_
    rintro v h1 ⟨⟨u7, P7, F7, A7, J7⟩, e1, ⟨q7, s7⟩, tk7⟩
    cases e1
    dsimp only at q7 s7
    exact f97 (I6.q q7 s7 (tk_J tk7))
/-- what seekBars leaves -/
def BQw (w : Nat → Int64) (P0 : Nat → Nat → Nat) (F0 : Nat → Nat → Int32) (A0 : Nat → Nat → Nat → Int32) (B0 : Nat → List gE) (v : Option Value) (z : Option Value × gH) : Prop := ∃ c' B' P' F' A' J', z = (v, c_h c' B' P' F' A' J') ∧ Gc P' F' A' ∧ SEc c' B' P' ∧ F' 1 1 = F0 1 1 ∧ b39 B0 B' ∧ J' 37 6 = w ∧ HK P0 F0 A0 P' F' A' ∧ KS F0 F'
theorem b_30 {w : Nat → Int64} (ht : ∀ ci k, t.1 ci k = k_ty ci k) {sets : Int32} (hs0 : 0 ≤ sets.toInt) (hs : sets.toInt ≤ 4096) : ∀ {m : Nat} {c : Nat × Nat} {B : Nat → List gE} {P : Nat → Nat → Nat} {F : Nat → Nat → Int32} {A : Nat → Nat → Nat → Int32} {J : Nat → Nat → Nat → Int64} {size : Int32} {loc3 : List (Nat × Value)}, BIw w J P0 F0 A0 B0 c B P F A → 0 ≤ size.toInt → size.toInt + m = 13 → loc3 = [] ∨ (∃ s : Int32, loc3 = [(3, .int s)]) → kx t (d + 6) 13 30 ([(0, .ref (32 * 1024)), (1, .int sets), (2, .int size)] ++ loc3) [] (c_h c B P F A J) (BQw w P0 F0 A0 B0 none) := by
  intro m
  induction m with
  | zero =>
    intro c B P F A J size loc3 I s0 hm h3
    have k4 := I.1.1.k324
    have a1 : 0 ≤ (F (P 32 4) 14).toInt ∧ (F (P 32 4) 14).toInt ≤ 12 := by have := I.1.1.1.1 (P 32 4) 14; rw [k4] at this; exact this
    refine kxwk [0, 1, 2] (loc' := [(0, .ref (32 * 1024)), (1, .int sets), (2, .int size)]) (by rcases h3 with rfl | ⟨s, rfl⟩ <;> rfl) (by rcases h3 with rfl | ⟨s, rfl⟩ <;> rfl) ?_
    refine kxB (pc' := 32) (loc' := [(0, .ref (32 * 1024)), (1, .int sets), (2, .int size)]) (st' := [.ref (32 * 1024), .int size]) 2 rfl ?_
    refine kxI (fun z hz => k_gf 32 0 (K := 7) rfl rfl rfl rfl rfl hz) ?_
    refine kxI (fun z hz => k_gf (P 32 4) 0 (K := 6) k4 rfl (Nat.add_zero _) rfl rfl hz) ?_
    refine kxic rfl (fun _ => ?_) (fun hc => ?_)
    · exact kxR (k_vret rfl rfl) ⟨c, B, P, F, A, J, rfl, I.1.1, .inr I.1.2.1, I.1.2.2.1, I.1.2.2.2.1, I.2, I.1.2.2.2.2⟩
    · rw [i_ngt] at hc
      omega
  | succ m ih =>
    intro c B P F A J size loc3 I s0 hm h3
    have l1 : (1 : Int32).toInt = 1 := by decide
    have l0 : (0 : Int32).toInt = 0 := by decide
    have es : (size + 1).toInt = size.toInt + 1 := by rw [i_add (by omega) (by omega), l1]
    have k4 := I.1.1.k324
    refine kxwk [0, 1, 2] (loc' := [(0, .ref (32 * 1024)), (1, .int sets), (2, .int size)]) (by rcases h3 with rfl | ⟨s, rfl⟩ <;> rfl) (by rcases h3 with rfl | ⟨s, rfl⟩ <;> rfl) ?_
    refine kxB (pc' := 32) (loc' := [(0, .ref (32 * 1024)), (1, .int sets), (2, .int size)]) (st' := [.ref (32 * 1024), .int size]) 2 rfl ?_
    refine kxI (fun z hz => k_gf 32 0 (K := 7) rfl rfl rfl rfl rfl hz) ?_
    refine kxI (fun z hz => k_gf (P 32 4) 0 (K := 6) k4 rfl (Nat.add_zero _) rfl rfl hz) ?_
    refine kxic rfl (fun _ => ?_) (fun hc => ?_)
    · exact kxR (k_vret rfl rfl) ⟨c, B, P, F, A, J, rfl, I.1.1, .inr I.1.2.1, I.1.2.2.1, I.1.2.2.2.1, I.2, I.1.2.2.2.2⟩
    · refine kxB (pc' := 43) (loc' := [(0, .ref (32 * 1024)), (1, .int sets), (2, .int size), (3, .int 0)]) (st' := []) 2 rfl ?_
      refine b_43 (m := sets.toInt.toNat) ht hs ?_ I (by decide) (by omega)
      intro c B P F A J set I
      refine kxB (pc' := 30) (loc' := [(0, .ref (32 * 1024)), (1, .int sets), (2, .int (size + 1)), (3, .int set)]) (st' := []) 2 rfl ?_
      exact ih (loc3 := [(3, .int set)]) I (by omega) (by omega) (.inr ⟨set, rfl⟩)
theorem b_seek {w : Nat → Int64} (ht : ∀ ci k, t.1 ci k = k_ty ci k) (G : Gc P F A) (S : SEc c B P) (hJ : J 37 6 = w) : kx t (d + 6) 13 0 [(0, .ref (32 * 1024))] [] (c_h c B P F A J) (BQw w P F A B none) := by
  refine kxB (pc' := 4) (loc' := [(0, .ref (32 * 1024))]) (st' := [.int (-1), .int (-1), .int 3, .ref (32 * 1024)]) 4 rfl ?_
  refine kxV rfl rfl rfl (c_get (r := 32) (o := 0) (K := 7) rfl (by decide)) rfl rfl (kx_okT (ok_and (q_isAnswered (n := 60) G (by omega)) (ks_e_Evening_isAnswered KS.rfl')) (fun w hw => t_e_Evening_isAnswered (d := d + 3) ht hw) (by decide)) ?_
  rintro v h1 ⟨⟨v2, P2, F2, A2, J2⟩, e1, ⟨q2, s2⟩, tk2⟩
  cases e1
  dsimp only at q2 s2
  have G2 := q2.g G
  have p9 := q2.1 32 9 (by decide)
  have S2 : SEc c B P2 := by
    rcases S with ⟨a, b, x, y⟩ | ⟨j, e, S⟩
    · exact .inl ⟨a, b, p9.trans x, y⟩
    · exact .inr ⟨j, e, S.1, S.2.1, p9.trans S.2.2.1, S.2.2.2⟩
  have f11 : F2 1 1 = F 1 1 := q2.2.2.2.2.2.2 1
  have hJ2 : J2 37 6 = w := (tk_J tk2).trans hJ
  refine kxif rfl (fun _ => ?_) (fun _ => ?_)
  · have k4 := G2.k324
    have a1 : 0 ≤ (F2 (P2 32 4) 14).toInt ∧ (F2 (P2 32 4) 14).toInt ≤ 12 := by have := G2.1.1 (P2 32 4) 14; rw [k4] at this; exact this
    have bs := b_sets ⟨(F2 (P2 32 4) 14).toInt.toNat, by omega⟩
    have ed : F2 (P2 32 4) 14 = Int32.ofNat (F2 (P2 32 4) 14).toInt.toNat := i_nat (by omega)
    dsimp only at bs
    rw [← ed] at bs
    refine kxB (pc' := 13) (loc' := [(0, .ref (32 * 1024))]) (st' := [.ref (32 * 1024), .int 1]) 2 rfl ?_
    refine kxI (fun z hz => k_gf 32 0 (K := 7) rfl rfl rfl rfl rfl hz) ?_
    refine kxI (fun z hz => k_gf (P2 32 4) 0 (K := 6) k4 rfl (Nat.add_zero _) rfl rfl hz) ?_
    refine kxB (pc' := 25) (loc' := [(0, .ref (32 * 1024)), (1, .int ((1 : Int32) <<< (F2 (P2 32 4) 14 &&& 31)))]) (st' := [.int (2 * ((1 : Int32) <<< (F2 (P2 32 4) 14 &&& 31))), .ref (32 * 1024)]) 6 rfl ?_
    refine kxV rfl rfl rfl (c_get (r := 32) (o := 0) (K := 7) rfl (by decide)) rfl rfl (b_clear (d := d + 4) (e := (F2 (P2 32 4) 14).toInt.toNat + 1) ht S2 (by omega) (by omega) (by rw [bs.1]; norm_cast)) ?_
    rintro v h1 ⟨c3, B3, P3, j3, e3, e1, S3, b3, p3⟩
    cases e1
    have G3 : Gc P3 F2 A2 := G2.cg G2.1 CSc.rfl' (p3 0 8 (by simp)) (p3 0 9 (by simp)) (p3 32 4 (by simp))
    refine kxB (pc' := 30) (loc' := [(0, .ref (32 * 1024)), (1, .int ((1 : Int32) <<< (F2 (P2 32 4) 14 &&& 31))), (2, .int 0)]) (st' := []) 2 rfl ?_
    exact b_30 (m := 13) (loc3 := []) ht (by omega) bs.2.1 ⟨⟨G3, ⟨j3, e3, S3⟩, f11, b3, ⟨(p3 0 8 (by simp)).trans q2.hk.1, q2.hk.2⟩, s2⟩, hJ2⟩ (by decide) (by decide) (.inl rfl)
  · exact kxR (k_vret rfl rfl) ⟨c, B, P2, F2, A2, J2, rfl, G2, S2, f11, fun _ _ => rfl, hJ2, q2.hk, s2⟩
/-- bars -/
theorem s_cBars {w : Nat → Int64} {x1 : Int32} (ht : ∀ ci k, t.1 ci k = k_ty ci k) (G : Gc P F A) (S : SEc c B P) (hJ : J 37 6 = w) : kx t (d + 7) 127 0 [(0, .ref (0 * 1024)), (1, .int x1)] [] (c_h c B P F A J) (fun z => ∃ v : Int32, BQw w P F A B (some (.int v)) z) := by
  have e9 : kx t (d + 7) 127 9 [(0, .ref (0 * 1024)), (1, .int x1)] [] (c_h c B P F A J) (fun z => ∃ v : Int32, BQw w P F A B (some (.int v)) z) := by
    refine kxB (pc' := 10) (loc' := [(0, .ref (0 * 1024)), (1, .int x1)]) (st' := [.int (-1)]) 1 rfl ?_
    exact kxR (k_iret rfl rfl) ⟨-1, c, B, P, F, A, J, rfl, G, S, rfl, fun _ _ => rfl, hJ, HK.rfl', KS.rfl'⟩
  refine kxB (pc' := 1) (loc' := [(0, .ref (0 * 1024)), (1, .int x1)]) (st' := [.int x1]) 1 rfl ?_
  refine kxif rfl (fun _ => e9) (fun _ => ?_)
  refine kxB (pc' := 6) (loc' := [(0, .ref (0 * 1024)), (1, .int x1)]) (st' := [.int 1, .int x1]) 2 rfl ?_
  refine kxic rfl (fun _ => ?_) (fun _ => e9)
  refine kxB (pc' := 12) (loc' := [(0, .ref (0 * 1024)), (1, .int x1)]) (st' := [.ref (0 * 1024)]) 1 rfl ?_
  refine kxI (fun z hz => k_gf 0 0 (K := 0) rfl rfl rfl rfl rfl hz) ?_
  refine kxV rfl rfl rfl (c_get (r := 32) (o := 0) (K := 7) rfl (by decide)) rfl rfl (b_seek (d := d) ht G S hJ) ?_
  rintro v h1 ⟨c2, B2, P2, F2, A2, J2, e1, G2, S2, f2, b2, j2, k2⟩
  cases e1
  refine kxB (pc' := 19) (loc' := [(0, .ref (0 * 1024)), (1, .int x1)]) (st' := [.int x1]) 1 rfl ?_
  refine kxif rfl (fun _ => ?_) (fun _ => ?_)
  · refine kxB (pc' := 33) (loc' := [(0, .ref (0 * 1024)), (1, .int x1)]) (st' := [.ref (0 * 1024)]) 1 rfl ?_
    refine kxI (fun z hz => k_gf 0 0 (K := 0) rfl rfl rfl rfl rfl hz) ?_
    refine kxI (fun z hz => k_gf 32 0 (K := 7) rfl rfl rfl rfl rfl hz) ?_
    exact kxR (k_iret rfl rfl) ⟨_, c2, B2, P2, F2, A2, J2, rfl, G2, S2, f2, b2, j2, k2⟩
  · refine kxB (pc' := 23) (loc' := [(0, .ref (0 * 1024)), (1, .int x1)]) (st' := [.ref (0 * 1024)]) 1 rfl ?_
    refine kxI (fun z hz => k_gf 0 0 (K := 0) rfl rfl rfl rfl rfl hz) ?_
    refine kxI (fun z hz => k_gf 32 0 (K := 7) rfl rfl rfl rfl rfl hz) ?_
    refine kxB (pc' := 39) (loc' := [(0, .ref (0 * 1024)), (1, .int x1)]) (st' := [.int (F2 32 10)]) 1 rfl ?_
    exact kxR (k_iret rfl rfl) ⟨_, c2, B2, P2, F2, A2, J2, rfl, G2, S2, f2, b2, j2, k2⟩
end S9i
