/-! a whole text, side by side -/
/-- the house in use, on both sides -/
def HC (h : Nat) (F : Nat → Nat → Int32) (A : Nat → Nat → Nat → Int32) (Fm : Nat → Int32) (Am : Nat → Nat → Int32) : Prop := (∀ q, q < 4 → F h (cq q) = Am (rq q) (Fm 18).toInt.toNat) ∧ (F h 14 = Am 12 (Fm 18).toInt.toNat) ∧ (∀ k : Int, 0 ≤ k → k < (F h 16).toInt → ci A h 5 k = ai Am 22 (6 * (Fm 18).toInt + k))
theorem HC.cn {h : Nat} {F : Nat → Nat → Int32} {A : Nat → Nat → Nat → Int32} {Fm : Nat → Int32} {Am : Nat → Nat → Int32} (h_ : HC h F A Fm Am) : ∀ q, q < 4 → F h (cq q) = Am (rq q) (Fm 18).toInt.toNat := h_.1
theorem HC.dr {h : Nat} {F : Nat → Nat → Int32} {A : Nat → Nat → Nat → Int32} {Fm : Nat → Int32} {Am : Nat → Nat → Int32} (h_ : HC h F A Fm Am) : F h 14 = Am 12 (Fm 18).toInt.toNat := h_.2.1
theorem HC.sc {h : Nat} {F : Nat → Nat → Int32} {A : Nat → Nat → Nat → Int32} {Fm : Nat → Int32} {Am : Nat → Nat → Int32} (h_ : HC h F A Fm Am) : ∀ k : Int, 0 ≤ k → k < (F h 16).toInt → ci A h 5 k = ai Am 22 (6 * (Fm 18).toInt + k) := h_.2.2
/-- the house in use, row by row -/
def HWx (h : Nat) (F : Nat → Nat → Int32) (A : Nat → Nat → Nat → Int32) (Fm : Nat → Int32) (Am : Nat → Nat → Int32) : Prop := (∀ k : Int, 0 ≤ k → k < (F h 14).toInt → ci A h 1 k = ai Am 13 (12 * (Fm 18).toInt + k) ∧ ci A h 2 k = ai Am 14 (12 * (Fm 18).toInt + k) ∧ ci A h 3 k = ai Am 15 (12 * (Fm 18).toInt + k)) ∧ (∀ k : Int, 0 ≤ k → k < (F h 16).toInt → ci A h 4 k = ai Am 20 (6 * (Fm 18).toInt + k)) ∧ RWs (F h 16).toInt (Fm 18).toInt h A Am ∧ (∀ k : Int, 0 ≤ k → k < (F h 17).toInt → ci A h 12 k = ai Am 30 (6 * (Fm 18).toInt + k)) ∧ RWn (Fm 18).toInt h F Am
/-- the laws of the house in use -/
def LHx (h : Nat) (F : Nat → Nat → Int32) (A : Nat → Nat → Nat → Int32) (Fm : Nat → Int32) (Am : Nat → Nat → Int32) : Prop := ∀ m : Int, 0 ≤ m → m < (F h 17).toInt → (ci A h 14 m = -1 ∧ ai Am 34 (6 * (Fm 18).toInt + m) = ai Am 35 (6 * (Fm 18).toInt + m)) ∨ ∃ C B e, LWx C B h A Am (ci A h 14 m) (ai Am 34 (6 * (Fm 18).toInt + m)) (ai Am 35 (6 * (Fm 18).toInt + m)) e ∧ e ≤ (F h 1304).toInt
/-- an evening: the class's region r, the reference's row j from b on; nm men -/
def SVx (nm : Int) (r : Nat) (F : Nat → Nat → Int32) (A : Nat → Nat → Nat → Int32) (Am : Nat → Nat → Int32) (j : Nat) (b : Int) : Prop := (∀ k : Int, 0 ≤ k → k < 36 → ci A r 1 k = ai Am j (b + (6 + k))) ∧ (∀ k : Int, 0 ≤ k → k < 6 → ci A r 2 k = ai Am j (b + k)) ∧ (∀ k : Int, 0 ≤ k → k < 6 → ci A r 4 k = ai Am j (b + (72 + k))) ∧ (∀ m : Int, 0 ≤ m → m < nm → LFx (A r 3 m.toNat) (Am j (b + (42 + m)).toNat) (Am j (b + (48 + m)).toNat) ∧ ci A r 5 m = ai Am j (b + (54 + m)) ∧ ci A r 6 m = ai Am j (b + (60 + m)) ∧ ci A r 7 m = ai Am j (b + (66 + m))) ∧ (F r 7).toInt = ai Am j (b + 78) ∧ (F r 8).toInt = ai Am j (b + 79)
section B8
variable {T : TS} {d n m : Nat} {l s : Int} {P : Nat → Nat → Nat} {F F' F0 : Nat → Nat → Int32} {A A' A0 : Nat → Nat → Nat → Int32} {J J' : Nat → Nat → Nat → Int64} {Fm Fm' Fm0 : Nat → Int32} {Am Am' Am0 : Nat → Nat → Int32} {Jm Jm' : Nat → Nat → Int64} {s1 x4 : Int32}
/-- what the reference's read comes to, by its faults -/
def R2m (F : Nat → Int32) (A : Nat → Nat → Int32) (r : mR Int32) : Prop := (∀ q, q ≤ 44 → r.2.2.1 q = A q) ∧ (((F 13).toInt ≠ 0 ∧ r.1 = F 13 ∧ (∀ q, q ≠ 17 → r.2.1 q = F q) ∧ r.2.2.1 = A) ∨ ((F 13).toInt = 0 ∧ (F 15).toInt ≠ 0 ∧ r.1 = F 15 ∧ (∀ q, q ≠ 17 → r.2.1 q = F q) ∧ r.2.2.1 = A) ∨ ((F 13).toInt = 0 ∧ (F 15).toInt = 0 ∧ r.1 = 0 ∧ r.2.1 18 = F 19 ∧ BGv (F 19).toInt A r.2.2.1 ∧ (r.2.1 74).toInt = 0 ∧ (r.2.1 77).toInt = 0 ∧ (∀ i, 0 ≤ i → i < 3 → ai r.2.2.1 61 i = 0)))
theorem r271 (R : RDm l s Fm0 Fm Am0 Am) (hn : 400 ≤ n) : ok (d_read_271 n Fm Am Jm s1) (R2m Fm Am) := by
  obtain ⟨a1, a2, a3, a4, a5, a6, a7, a8, a9, a10, a11, a12⟩ := R
  have r13 : 0 ≤ (Fm 13).toInt ∧ (Fm 13).toInt ≤ 5 := a1 13
  have r15 : 0 ≤ (Fm 15).toInt ∧ (Fm 15).toInt ≤ 5 := a1 15
  have l0 : (0 : Int32).toInt = 0 := by decide
  unfold d_read_271
  refine ok_pf a1 trivial ?_
  intro F3 hF3 k3 o3
  have g13 : F3 13 = Fm 13 := o3 13 (by decide)
  have g15 : F3 15 = Fm 15 := o3 15 (by decide)
  refine ok_cond (fun c1 => ?_) (fun c1 => ?_)
  · rw [i_le, g13] at c1
    refine ok_cond (fun c2 => ?_) (fun c2 => ?_)
    · rw [i_le, g15] at c2
      have g19 : F3 19 = Fm 19 := o3 19 (by decide)
      refine ok_pf hF3 (show 0 ≤ (F3 19).toInt ∧ (F3 19).toInt ≤ 1 from hF3 19) ?_
      intro F4 hF4 k4 o4
      have e18 : (F4 18).toInt = s := by rw [k4, g19]; exact a4
      have X := (a10.resolve_left (by omega)).resolve_left (by omega)
      refine ok_call (ok_and (s_d_begins (k := ai Am 29 (F4 18).toInt) hF4 a2 rfl (by rw [e18]; exact X.2.2.2) (by omega)) (v_begins hF4 a2)) ?_
      rintro ⟨u, F5, A5, J5⟩ ⟨⟨q1, q2, q3, q4⟩, q5⟩
      dsimp only at q1 q2 q3 q4 q5 ⊢
      subst q1
      refine ok_pf hF4 (show 0 ≤ (0 : Int32).toInt ∧ (0 : Int32).toInt ≤ 20 by decide) ?_
      intro F6 hF6 k6 o6
      refine ok_pf hF6 (show 0 ≤ (0 : Int32).toInt ∧ (0 : Int32).toInt ≤ 30 by decide) ?_
      intro F7 hF7 k7 o7
      refine s_d_read_322 q2 (fun i h0 h1 => absurd h1 (by omega)) (by decide) (by omega) ?_
      intro A8 J8 w1 w2 w3
      refine ⟨fun q hq => (w2 q (by omega)).trans (q3 q (by omega)), .inr (.inr ⟨by omega, by omega, rfl, ?_, ?_, ?_, ?_, w3⟩)⟩
      · show F7 18 = Fm 19
        rw [o7 18 (by decide), o6 18 (by decide), k4, g19]
      · have q5' : BGv (F5 18).toInt Am A5 := q5
        rw [k4, g19] at q5'
        exact q5'.fr (w2 47 (by decide))
      · show (F7 74).toInt = 0
        rw [o7 74 (by decide), k6]; decide
      · show (F7 77).toInt = 0
        rw [k7]; decide
    · rw [i_nle, g15] at c2
      exact ok_some ⟨fun _ _ => rfl, .inr (.inl ⟨by omega, by omega, g15, o3, rfl⟩)⟩
  · rw [i_nle, g13] at c1
    exact ok_some ⟨fun _ _ => rfl, .inl ⟨by omega, g13, o3, rfl⟩⟩
theorem r241 (R : RDm l s Fm0 Fm Am0 Am) (hn : 400 ≤ n) : po (d_read_241 n Fm Am Jm) (R2m Fm Am) := by
  unfold d_read_241
  exact po_cond (fun _ => po_cond (fun _ => (r271 R hn).po) (fun _ => (r271 R hn).po)) (fun _ => (r271 R hn).po)
/-- what both leave of a text -/
def RQ (d : Nat) (l : Int) (Fm0 : Nat → Int32) (Am0 : Nat → Nat → Int32) (a : cR Int32) (b : mR Int32) : Prop := a.1 = b.1 ∧ (a.1.toInt = 0 → HC d a.2.2.1 a.2.2.2.1 b.2.1 b.2.2.1 ∧ (HWx d a.2.2.1 a.2.2.2.1 b.2.1 b.2.2.1 ∧ LHx d a.2.2.1 a.2.2.2.1 b.2.1 b.2.2.1 ∧ SVx (a.2.2.1 d 17).toInt 3 a.2.2.1 a.2.2.2.1 b.2.2.1 47 0) ∧ (b.2.1 74).toInt = 0 ∧ (b.2.1 77).toInt = 0 ∧ (∀ i, 0 ≤ i → i < 3 → ai b.2.2.1 61 i = 0)) ∧ (a.1.toInt ≠ 0 → (∀ q, q ∉ ([11, 12, 13, 14, 15, 16, 17, 20, 49, 56, 60] : List Nat) → b.2.1 q = Fm0 q) ∧ LSm l Am0 b.2.2.1 ∧ (∀ q, 45 ≤ q → b.2.2.1 q = Am0 q))
theorem RDm.ff (R : RDm l s Fm0 Fm Am0 Am) {r : mR Int32} (h1 : ∀ q, q ≠ 17 → r.2.1 q = Fm q) (h2 : r.2.2.1 = Am) : (∀ q, q ∉ ([11, 12, 13, 14, 15, 16, 17, 20, 49, 56, 60] : List Nat) → r.2.1 q = Fm0 q) ∧ LSm l Am0 r.2.2.1 ∧ (∀ q, 45 ≤ q → r.2.2.1 q = Am0 q) := by
  obtain ⟨a1, a2, a3, a4, a5, a6, a7, a8, a9, a10, a11, a12⟩ := R
  rw [h2]
  refine ⟨fun q hq => ?_, a6, a12⟩
  rw [h1 q (fun e => hq (by rw [e]; decide))]
  exact a11 q (fun e => hq ((by decide : ∀ x, x ∈ ([11, 12, 13, 14, 15, 16, 20, 49, 56, 60] : List Nat) → x ∈ ([11, 12, 13, 14, 15, 16, 17, 20, 49, 56, 60] : List Nat)) q e))
/-- the end, without a fault of form -/
theorem q_end (R : RT T F Fm) (H : RH d F A J Fm Am Jm) (W : RW d F A Fm Am) (L : RL (Fm 19).toInt d F A Fm Am) (hd : d ≠ 37) (D : RDm l s Fm0 Fm Am0 Am) (hn : 400 ≤ m) : P2 (e_Reader_readText_171 n P F A J) (d_read_241 m Fm Am Jm) (RQ d l Fm0 Am0) := by
  unfold e_Reader_readText_171
  rw [i_nne.mpr (by rw [R.f0]; rfl), cond_false]
  refine p2_bl (fun F1 e1 => ?_)
  have U1 := gg_cpf e1
  refine p2_bl (fun F2 e2 => ?_)
  have U2 := gg_cpf e2
  refine p2_of (R := fun a => a = (F2 37 10, P, F2, A, J)) (po_some rfl) (r241 D hn) ?_
  rintro _ b rfl hb
  have e10 : F2 37 10 = Fm 15 := by rw [U2.2 37 10 (by decide), U1.1, R.lt]
  have fd : ∀ k, F2 d k = F d k := fun k => by rw [U2.2 d k (fun e => hd e.1), U1.2 d k (fun e => hd e.1)]
  obtain ⟨hA, hb⟩ := hb
  rcases hb with ⟨h, -⟩ | ⟨-, h15, h1, h2, h3⟩ | ⟨-, h15, h1, h18, hbg, h74, h77, h61⟩
  · exact absurd R.g0 h
  · refine ⟨by show F2 37 10 = b.1; rw [e10, h1], fun h => ?_, fun _ => D.ff h2 h3⟩
    have h : (F2 37 10).toInt = 0 := h
    rw [e10] at h
    exact absurd h h15
  · refine ⟨by show F2 37 10 = b.1; rw [e10, h1]; exact i_ext h15, fun _ => ⟨⟨fun q hq => ?_, ?_, fun k k0 k1 => ?_⟩, ?_, h74, h77, h61⟩, fun h => ?_⟩
    · show F2 d (cq q) = b.2.2.1 (rq q) (b.2.1 18).toInt.toNat
      rw [fd, hA (rq q) (by have := rq_in q; omega), h18]
      exact H.cn q hq
    · show F2 d 14 = b.2.2.1 12 (b.2.1 18).toInt.toNat
      rw [fd, hA 12 (by decide), h18]
      exact H.dr
    · show ci A d 5 k = ai b.2.2.1 22 (6 * (b.2.1 18).toInt + k)
      have k1 : k < (F2 d 16).toInt := k1
      rw [fd] at k1
      rw [ai_fr (hA 22 (by decide)), h18]
      exact H.sc k k0 k1
    · have f3 : ∀ k, F2 3 k = F 3 k := fun k => by rw [U2.2 3 k (by omega), U1.2 3 k (by omega)]
      have s0 := H.s0
      have cn1 : F d 15 = Am 17 (Fm 19).toInt.toNat := H.cn 1 (by decide)
      have cn2 : F d 16 = Am 19 (Fm 19).toInt.toNat := H.cn 2 (by decide)
      have cn3 : F d 17 = Am 29 (Fm 19).toInt.toNat := H.cn 3 (by decide)
      have cdr := H.dr
      have bd2 := H.nr.bd 2 (by decide)
      have bd1 := H.nr.bd 1 (by decide)
      have bd3 := H.nr.bd 3 (by decide)
      have bd2 : 0 ≤ (F d 16).toInt ∧ (F d 16).toInt ≤ 6 := bd2
      have bd1 : 0 ≤ (F d 15).toInt ∧ (F d 15).toInt ≤ 6 := bd1
      have bd3 : 0 ≤ (F d 17).toInt ∧ (F d 17).toInt ≤ 6 := bd3
      obtain ⟨w1, w2, w3, w4, w5, w6, w7⟩ := W
      show HWx d F2 A b.2.1 b.2.2.1 ∧ LHx d F2 A b.2.1 b.2.2.1 ∧ SVx (F2 d 17).toInt 3 F2 A b.2.2.1 47 0
      have m : ∀ q, q ≤ 44 → ai b.2.2.1 q = ai Am q := fun q hq => ai_fr (hA q hq)
      refine ⟨⟨?_, ?_, ?_, ?_, ?_⟩, ?_, ?_⟩
      · rw [fd, h18, m 13 (by decide), m 14 (by decide), m 15 (by decide)]; exact w1.1
      · rw [fd, h18, m 20 (by decide)]; exact fun k k0 k1 => (w3.1 k k0 k1).1
      · rw [fd, h18]
        unfold RWs
        rw [m 23 (by decide), m 24 (by decide), m 25 (by decide), m 26 (by decide), m 27 (by decide), m 28 (by decide)]
        exact w4
      · rw [fd, h18, m 30 (by decide)]; exact fun k k0 k1 => (w5.1 k k0 k1).1
      · show F2 d 18 = b.2.2.1 41 (b.2.1 18).toInt.toNat
        rw [fd, h18, hA 41 (by decide)]; exact w7
      · intro k k0 k1
        rw [fd] at k1
        rw [fd, h18, m 34 (by decide), m 35 (by decide)]
        rcases L.2 k k0 (by omega) with h | ⟨e, h, he⟩
        · exact .inl h
        · exact .inr ⟨_, _, e, h.fr (L := (F d 1304).toInt) ⟨fun _ _ _ => ⟨rfl, rfl⟩, fun i _ _ => by rw [m 42 (by decide), m 43 (by decide)]; exact ⟨rfl, rfl⟩, fun q h1 h2 i _ _ => by rw [m q (by omega)]⟩ he (Int.le_refl _) (Int.le_refl _), he⟩
      · rw [fd]
        obtain ⟨g1, g2, g3, g4, g5, g6⟩ := hbg
        unfold ai at g2 g3 g4 g5
        rw [← cn2] at g2
        rw [← cn3] at g4
        rw [← cn1] at g3
        rw [← cdr] at g5
        refine ⟨fun k k0 k1 => ?_, fun k k0 k1 => ?_, fun k k0 k1 => ?_, fun k k0 k1 => ⟨?_, ?_, ?_, ?_⟩, ?_, ?_⟩
        · rw [w6.1 k k0 k1, show (0 : Int) + (6 + k) = 6 + k by omega]; exact (g1 k k0 k1).symm
        · rw [show (0 : Int) + k = k by omega]
          by_cases c : k < (F d 16).toInt
          · rw [(w3.1 k k0 c).2]; exact ((g2 k k0 k1).1 c).symm
          · rw [w3.2 k (by omega) k1]; exact ((g2 k k0 k1).2 (by omega)).symm
        · rw [show (0 : Int) + (72 + k) = 72 + k by omega]
          by_cases c : k < (F d 15).toInt
          · rw [w2.1 k k0 c]; exact ((g3 k k0 k1).1 c).symm
          · rw [w2.2 k (by omega) k1]; exact ((g3 k k0 k1).2 (by omega)).symm
        · obtain ⟨p1, p2, -⟩ := g4 k k0 k1
          rw [show (0 : Int) + (42 + k) = 42 + k by omega, show (0 : Int) + (48 + k) = 48 + k by omega, i_ext p1, i_ext p2]
          exact (w5.1 k k0 k1).2
        · rw [show (0 : Int) + (54 + k) = 54 + k by omega, (w6.2.1 k k0 (by omega)).1]; exact (g6.1 k k0 (by omega)).1.symm
        · rw [show (0 : Int) + (60 + k) = 60 + k by omega, (w6.2.1 k k0 (by omega)).2.1]; exact (g6.1 k k0 (by omega)).2.symm
        · rw [show (0 : Int) + (66 + k) = 66 + k by omega, (w6.2.1 k k0 (by omega)).2.2]; exact (g4 k k0 k1).2.2.symm
        · rw [f3, w1.2]; exact g5.symm
        · rw [f3, w6.2.2]; exact g6.2.symm
    · have h : (F2 37 10).toInt ≠ 0 := h
      rw [e10] at h
      exact absurd h15 h
/-- the class's sentence -/
def gsent (n : Nat) (P : Nat → Nat → Nat) (F : Nat → Nat → Int32) (A : Nat → Nat → Nat → Int32) (J : Nat → Nat → Nat → Int64) : Option (cR Unit) :=
    (m_ld (A 37 2) 401 (F 37 7)).bind fun v10 =>
    cond (decide (v10 = 0)) (e_Reader_readRoom n P F A J)
    (cond (decide (v10 = 1)) (e_Reader_readDoor n P F A J)
    (cond (decide (v10 = 2)) (e_Reader_readTool n P F A J)
    (cond (decide (v10 = 3)) (e_Reader_readTask n P F A J)
    (cond (decide (v10 = 4)) (e_Reader_readStep n P F A J)
    (cond (decide (v10 = 5)) (e_Reader_readMan n P F A J)
    (cond (decide (v10 = 6)) (e_Reader_readLaw n P F A J)
    (cond (decide (v10 = 7)) (e_Reader_readNight P F A J)
    ((m_ld (A 37 3) 401 (F 37 7)).bind fun v52 => e_Reader_fail P F A J 1 v52))))))))
theorem cond_bind {α β : Type} {c : Bool} {x y : Option α} {f : α → Option β} : (cond c x y).bind f = cond c (x.bind f) (y.bind f) := by cases c <;> rfl
theorem text_g : e_Reader_readText_10 (n + 1) P F A J x4 = cond (g_cnd .gt x4 400) (e_Reader_readText_171 n P F A J) (cond (g_cnd .ne (F 37 10) 0) (e_Reader_readText_171 n P F A J) ((e_Reader_isNext P F A J 102).bind fun v8 => cond (g_cnd .ne v8 0) (e_Reader_readText_171 n P F A J) ((gsent n P F A J).bind fun (_, P54, F55, A56, J57) => e_Reader_readText_10 n P54 F55 A56 J57 (x4 + 1)))) := by
  conv => lhs; unfold e_Reader_readText_10
  unfold gsent e_Reader_readText_165
  simp only [cond_bind, Option.bind_assoc]
/-- one sentence, on both sides -/
theorem q_sent (K : TKs T) (R : RT T F Fm) (X : RX T A J Am Jm) (H : RH d F A J Fm Am Jm) (W : RW d F A Fm Am) (L : RL (Fm 19).toInt d F A Fm Am) (l56 : 0 ≤ (Fm 56).toInt ∧ 0 ≤ (Fm 49).toInt) (h5 : P 37 5 = d) (h6 : P 37 6 = 3) (hk : c_kind d = 6) (V : RVc d F0 F A0 A) (hn : 600 ≤ n) : P2 (gsent n P F A J) (d_tell0 m Fm Am Jm) (fun a b => RSL T d a b ∧ RXc P d F0 A0 a) := by
  have t0 := R.t0
  have t1 := R.t1
  have tk := R.tk
  have s0 := H.s0
  have s1 := H.s1
  have c7 : 0 ≤ (F 37 7).toInt ∧ (F 37 7).toInt ≤ 400 := by rw [tk]; exact ⟨t0, t1⟩
  have kr : KR (A 37 2 (F 37 7).toInt.toNat).toInt (Am 3 (Fm 11).toInt.toNat).toInt := by
    rw [X.a2, X.m3, tk]
    exact K.kd _ (by omega) (fun j hj => R.lv j (by omega))
  have Rr : Rc F A := V.1
  have hh := Rr.h hk
  have lt : (F d 1304).toInt ≤ (Fm 11).toInt := by
    have a := V.2.2.2.1.resolve_left (fun h => h R.f0)
    rw [← tk]
    exact a
  have b9 : 0 ≤ (F 37 9).toInt ∧ (F 37 9).toInt ≤ 8 := Rr.1 37 9
  unfold gsent d_tell0
  rw [m_ld_in c7.1 (by omega), Option.bind_some, m_ld_in t0 (by omega), Option.bind_some]
  generalize hc : A 37 2 (F 37 7).toInt.toNat = c at kr
  generalize hm : Am 3 (Fm 11).toInt.toNat = z at kr
  have dz : ∀ {a b : Int32} {p q : Int}, a.toInt = p → b.toInt = q → p = q → decide (a = b) = true := fun h1 h2 h3 => i_dec.mpr (by rw [h1, h2, h3])
  have dn : ∀ {a b : Int32} {p q : Int}, a.toInt = p → b.toInt = q → p ≠ q → decide (a = b) = false := fun h1 h2 h3 => i_ndec.mpr (by rw [h1, h2]; exact h3)
  have g11 : m_ld (Am 11) 2 (Fm 19) = some (Am 11 (Fm 19).toInt.toNat) := m_ld_in s0 (by omega)
  have g12 : m_ld (Am 12) 2 (Fm 19) = some (Am 12 (Fm 19).toInt.toNat) := m_ld_in s0 (by omega)
  have g17 : m_ld (Am 17) 2 (Fm 19) = some (Am 17 (Fm 19).toInt.toNat) := m_ld_in s0 (by omega)
  have g19 : m_ld (Am 19) 2 (Fm 19) = some (Am 19 (Fm 19).toInt.toNat) := m_ld_in s0 (by omega)
  have g29 : m_ld (Am 29) 2 (Fm 19) = some (Am 29 (Fm 19).toInt.toNat) := m_ld_in s0 (by omega)
  have g33 : m_ld (Am 33) 2 (Fm 19) = some (Am 33 (Fm 19).toInt.toNat) := m_ld_in s0 (by omega)
  rw [g11, g12, g17, g19, g29, g33]
  simp only [Option.bind_some]
  obtain ⟨pc, hpc⟩ : ∃ p, c.toInt = p := ⟨_, rfl⟩
  obtain ⟨pz, hpz⟩ : ∃ p, z.toInt = p := ⟨_, rfl⟩
  rw [hpc, hpz] at kr
  have w : ∀ k : Nat, k ≤ 40 → (Int32.ofNat k).toInt = (k : Int) := by decide
  have e0 : (0 : Int32).toInt = 0 := by decide
  have e1 : (1 : Int32).toInt = 1 := by decide
  have e2 : (2 : Int32).toInt = 2 := by decide
  have e3 : (3 : Int32).toInt = 3 := by decide
  have e4 : (4 : Int32).toInt = 4 := by decide
  have e5 : (5 : Int32).toInt = 5 := by decide
  have e6 : (6 : Int32).toInt = 6 := by decide
  have e7 : (7 : Int32).toInt = 7 := by decide
  have e20 : (20 : Int32).toInt = 20 := by decide
  have e21 : (21 : Int32).toInt = 21 := by decide
  have e22 : (22 : Int32).toInt = 22 := by decide
  have e23 : (23 : Int32).toInt = 23 := by decide
  have e24 : (24 : Int32).toInt = 24 := by decide
  have e25 : (25 : Int32).toInt = 25 := by decide
  have e26 : (26 : Int32).toInt = 26 := by decide
  have e27 : (27 : Int32).toInt = 27 := by decide
  have e28 : (28 : Int32).toInt = 28 := by decide
  have e29 : (29 : Int32).toInt = 29 := by decide
  have e30 : (30 : Int32).toInt = 30 := by decide
  have e31 : (31 : Int32).toInt = 31 := by decide
  have e32 : (32 : Int32).toInt = 32 := by decide
  have e33 : (33 : Int32).toInt = 33 := by decide
  have e34 : (34 : Int32).toInt = 34 := by decide
  have bad : (¬ (pc = 0 ∨ pc = 1 ∨ pc = 2 ∨ pc = 3 ∨ pc = 4 ∨ pc = 5 ∨ pc = 6 ∨ pc = 7)) → P2 ((m_ld (A 37 3) 401 (F 37 7)).bind fun v52 => e_Reader_fail P F A J 1 v52) ((d_fail Fm Am Jm 1).bind fun (_, F24, A25, J26) => some ((), F24, A25, J26)) (fun a b => RSL T d a b ∧ RXc P d F0 A0 a) := by
    intro _
    rw [m_ld_in c7.1 (by omega), Option.bind_some]
    refine p2_okl (ok_mono (s_fail Rr (by decide)) (fun r hr => ⟨hr.1.1, V.q (kd37 hk) hr.1⟩)) ?_
    obtain ⟨F1, f1, h1, -⟩ := e_fail_0 (P := P) (F := F) (A := A) (J := J) (k := 1) (v := A 37 3 (F 37 7).toInt.toNat) R.f0
    obtain ⟨Fm1, m1, h1', -, -⟩ := d_fail_0 (F := Fm) (A := Am) (J := Jm) (k := 1) R.g0 t0 t1
    rw [f1, m1, Option.bind_some]
    exact p2_some (.inl (FE.mk' h1 h1' (by decide)))
  rcases (by decide : ∀ p ∈ kt, (p = (0, 20) ∨ p = (1, 21) ∨ p = (2, 23) ∨ p = (3, 24) ∨ p = (4, 25) ∨ p = (5, 28) ∨ p = (6, 30) ∨ p = (7, 34)) ∨ (¬ (p.1 = 0 ∨ p.1 = 1 ∨ p.1 = 2 ∨ p.1 = 3 ∨ p.1 = 4 ∨ p.1 = 5 ∨ p.1 = 6 ∨ p.1 = 7) ∧ ¬ (p.2 = 20 ∨ p.2 = 21 ∨ p.2 = 23 ∨ p.2 = 24 ∨ p.2 = 25 ∨ p.2 = 28 ∨ p.2 = 30 ∨ p.2 = 34))) _ kr with (h | h | h | h | h | h | h | h) | ⟨h1, h2⟩
  · obtain ⟨rfl, rfl⟩ := Prod.mk.inj h
    rw [dz hpc e0 rfl, dz hpz e20 rfl, cond_true, cond_true]
    exact p2_okl (s_readRoom h5 hk V (by omega)) (rs_l L (q_room K R X H W h5 hk (by rw [hm, hpz, e20])) (fl_e_Reader_readRoom FLh.rfl') (fm_s_Room FMh.rfl'))
  · obtain ⟨rfl, rfl⟩ := Prod.mk.inj h
    rw [dn hpc e0 (by decide), dz hpc e1 rfl, dn hpz e20 (by decide), dz hpz e21 rfl, cond_false, cond_true, cond_false, cond_true]
    exact p2_okl (s_readDoor h5 h6 hk V (by omega)) (rs_l L (q_door K R X H W hh.2.1.1 h5 h6 hk hh.2.1.2 (by rw [hm, hpz, e21])) (fl_e_Reader_readDoor FLh.rfl') (fm_s_Door FMh.rfl'))
  · obtain ⟨rfl, rfl⟩ := Prod.mk.inj h
    rw [dn hpc e0 (by decide), dn hpc e1 (by decide), dz hpc e2 rfl, dn hpz e20 (by decide), dn hpz e21 (by decide), dn hpz e22 (by decide), dz hpz e23 rfl]
    simp only [cond_false, cond_true]
    exact p2_okl (s_readTool h5 h6 hk V (by omega)) (rs_l L (q_tool K R X H W h5 h6 hk (by rw [hm, hpz, e23])) (fl_e_Reader_readTool FLh.rfl') (fm_s_Tool FMh.rfl'))
  · obtain ⟨rfl, rfl⟩ := Prod.mk.inj h
    rw [dn hpc e0 (by decide), dn hpc e1 (by decide), dn hpc e2 (by decide), dz hpc e3 rfl, dn hpz e20 (by decide), dn hpz e21 (by decide), dn hpz e22 (by decide), dn hpz e23 (by decide), dz hpz e24 rfl]
    simp only [cond_false, cond_true]
    exact p2_okl (s_readTask h5 h6 hk V (by omega)) (rs_l L (q_task K R X H W h5 h6 hk V.2.2.1 (by rw [hm, hpz, e24])) (fl_e_Reader_readTask FLh.rfl') (fm_s_Task FMh.rfl'))
  · obtain ⟨rfl, rfl⟩ := Prod.mk.inj h
    rw [dn hpc e0 (by decide), dn hpc e1 (by decide), dn hpc e2 (by decide), dn hpc e3 (by decide), dz hpc e4 rfl, dn hpz e20 (by decide), dn hpz e21 (by decide), dn hpz e22 (by decide), dn hpz e23 (by decide), dn hpz e24 (by decide), dz hpz e25 rfl]
    simp only [cond_false, cond_true]
    exact p2_okl (s_readStep h5 hk V (by omega)) (rs_l L (qq_step K R X H W Rr h5 hk (by rw [hm, hpz, e25])) (fl_e_Reader_readStep FLh.rfl') (fm_s_Step FMh.rfl'))
  · obtain ⟨rfl, rfl⟩ := Prod.mk.inj h
    rw [dn hpc e0 (by decide), dn hpc e1 (by decide), dn hpc e2 (by decide), dn hpc e3 (by decide), dn hpc e4 (by decide), dz hpc e5 rfl, dn hpz e20 (by decide), dn hpz e21 (by decide), dn hpz e22 (by decide), dn hpz e23 (by decide), dn hpz e24 (by decide), dn hpz e25 (by decide), dn hpz e26 (by decide), dn hpz e27 (by decide), dz hpz e28 rfl]
    simp only [cond_false, cond_true]
    exact p2_okl (s_readMan h5 h6 hk V (by omega)) (rs_l L (q_man K R X H W h5 h6 hk (by rw [hm, hpz, e28])) (fl_e_Reader_readMan FLh.rfl') (fm_s_Man FMh.rfl'))
  · obtain ⟨rfl, rfl⟩ := Prod.mk.inj h
    rw [dn hpc e0 (by decide), dn hpc e1 (by decide), dn hpc e2 (by decide), dn hpc e3 (by decide), dn hpc e4 (by decide), dn hpc e5 (by decide), dz hpc e6 rfl, dn hpz e20 (by decide), dn hpz e21 (by decide), dn hpz e22 (by decide), dn hpz e23 (by decide), dn hpz e24 (by decide), dn hpz e25 (by decide), dn hpz e26 (by decide), dn hpz e27 (by decide), dn hpz e28 (by decide), dn hpz e29 (by decide), dz hpz e30 rfl]
    simp only [cond_false, cond_true]
    exact p2_okl (s_readLaw h5 hk V (by omega)) (q_law K R X H W L l56 lt h5 hk b9.2 (by rw [hm, hpz, e30]))
  · obtain ⟨rfl, rfl⟩ := Prod.mk.inj h
    rw [dn hpc e0 (by decide), dn hpc e1 (by decide), dn hpc e2 (by decide), dn hpc e3 (by decide), dn hpc e4 (by decide), dn hpc e5 (by decide), dn hpc e6 (by decide), dz hpc e7 rfl, dn hpz e20 (by decide), dn hpz e21 (by decide), dn hpz e22 (by decide), dn hpz e23 (by decide), dn hpz e24 (by decide), dn hpz e25 (by decide), dn hpz e26 (by decide), dn hpz e27 (by decide), dn hpz e28 (by decide), dn hpz e29 (by decide), dn hpz e30 (by decide), dn hpz e31 (by decide), dn hpz e32 (by decide), dn hpz e33 (by decide), dz hpz e34 rfl]
    simp only [cond_false, cond_true]
    exact p2_okl (s_readNight h5 hk V) (rs_l L (q_night K R X H W h5 hk (by rw [hm, hpz, e34])) (fl_e_Reader_readNight FLh.rfl') (fm_s_Night FMh.rfl'))
  · have h1 : ¬ (pc = 0 ∨ pc = 1 ∨ pc = 2 ∨ pc = 3 ∨ pc = 4 ∨ pc = 5 ∨ pc = 6 ∨ pc = 7) := h1
    have h2 : ¬ (pz = 20 ∨ pz = 21 ∨ pz = 23 ∨ pz = 24 ∨ pz = 25 ∨ pz = 28 ∨ pz = 30 ∨ pz = 34) := h2
    rw [dn hpc e0 (by omega), dn hpc e1 (by omega), dn hpc e2 (by omega), dn hpc e3 (by omega), dn hpc e4 (by omega), dn hpc e5 (by omega), dn hpc e6 (by omega), dn hpc e7 (by omega), dn hpz e20 (by omega), dn hpz e21 (by omega), dn hpz e23 (by omega), dn hpz e24 (by omega), dn hpz e25 (by omega), dn hpz e28 (by omega), dn hpz e30 (by omega), dn hpz e34 (by omega)]
    simp only [cond_false]
    have B := bad h1
    exact p2_cr (fun _ => B) (fun _ => p2_cr (fun _ => B) (fun _ => p2_cr (fun _ => B) (fun _ => p2_cr (fun _ => B) (fun _ => p2_cr (fun _ => B) (fun _ => p2_cr (fun _ => B) (fun _ => p2_cr (fun _ => B) (fun _ => B)))))))
end B8
