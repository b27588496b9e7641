section C8
variable {γ : Type} {F F0 : Nat → Int32} {A A0 A1 : Nat → Nat → Int32} {J : Nat → Nat → Int64} {l s : Int}
theorem p2r_pf {x : Option γ} {Q : γ → mR Int32 → Prop} {k : Nat} {v : Int32} {g : (Nat → Int32) → Option (mR Int32)} (hF : IFm F) (hx : rF k v.toInt) (kk : ∀ F', IFm F' → F' k = v → (∀ q, q ≠ k → F' q = F q) → P2 x (g F') Q) : P2 x ((m_pf F k v).bind g) Q :=
  p2_br (fun F' e => kk F' (by cases e; exact hF.put hx) (gg_pf e).1 (gg_pf e).2)
theorem p2r_st {x : Option γ} {Q : γ → mR Int32 → Prop} {A : Nat → Nat → Int32} {j n : Nat} {i v : Int32} {g : (Nat → Nat → Int32) → Option (mR Int32)} (hA : IAm A) (h0 : 0 ≤ i.toInt) (h1 : i.toInt < (n : Int)) (hx : rA j i.toInt v.toInt) (k : ∀ A', IAm A' → (∀ q, q ≠ j → A' q = A q) → ai A' j i.toInt = v.toInt → (∀ q, 0 ≤ q → q ≠ i.toInt → ai A' j q = ai A j q) → P2 x (g A') Q) : P2 x ((m_st A j n i v).bind g) Q := by
  refine p2_br (fun A' e => ?_)
  have a := gg_st e
  refine k A' ?_ a.2.2.1 a.2.2.2.1 a.2.2.2.2
  unfold m_st at e
  rw [if_neg (i_in h0 h1)] at e
  cases e
  exact hA.put h0 hx
theorem w_177 {x : Option γ} {Q : γ → mR Int32 → Prop} (hs : 0 ≤ s ∧ s ≤ 1 ∧ s = 1 - l) (e0 : (F0 18).toInt = l) (hF : IFm F) (f18 : F 18 = F0 18) (e19 : (F 19).toInt = s) (z11 : (F 11).toInt = 0) (z12 : (F 12).toInt = 0) (z13 : (F 13).toInt = 0) (z15 : (F 15).toInt = 0) (z20 : (F 20).toInt = 0) (z49 : (F 49).toInt = 50 * s) (z56 : (F 56).toInt = 420 * s)
    (ks : ∀ (n' : Nat) (A' : Nat → Nat → Int32), IAm A' → (∀ q, q = 11 ∨ q = 12 ∨ q = 17 ∨ q = 19 ∨ q = 29 ∨ q = 33 → ai A' q s = 0) → (∀ q, q < 34 ∨ q = 41 → A' q = A1 q) → 1502 < (n' : Int) → (∀ k, 0 ≤ k → k < 6 → ai A' 34 (6 * s + k) = 0 ∧ ai A' 35 (6 * s + k) = 0) → RDm l s F F A0 A' → P2 x (d_read_219 n' F A' J) Q) : ∀ {n : Nat} {A : Nat → Nat → Int32} {x1 : Int32}, IAm A → (∀ q, q < 34 ∨ q = 41 → A q = A1 q) → LSm l A0 A → (∀ q, q = 11 ∨ q = 12 ∨ q = 17 ∨ q = 19 ∨ q = 29 ∨ q = 33 → ai A q s = 0) → (∀ q, 45 ≤ q → A q = A0 q) → (∀ k, 0 ≤ k → k < x1.toInt → ai A 34 (6 * s + k) = 0 ∧ ai A 35 (6 * s + k) = 0) → 0 ≤ x1.toInt ∧ x1.toInt ≤ 6 → 1510 - x1.toInt < (n : Int) → P2 x (d_read_177 n F A J x1) Q := by
  intro n
  induction n with
  | zero => intro A x1 hA kp L z o lw hx hn; exact absurd hn (by omega)
  | succ n ih =>
    intro A x1 hA kp L z o lw hx hn
    have l1 : (1 : Int32).toInt = 1 := by decide
    have l6 : (6 : Int32).toInt = 6 := by decide
    have l0 : (0 : Int32).toInt = 0 := by decide
    unfold d_read_177
    refine p2_cr (fun c => ?_) (fun c => ?_)
    · rw [i_ge] at c
      have zA := z 11 (by omega)
      have zB := z 12 (by omega)
      have zC := z 17 (by omega)
      have zD := z 19 (by omega)
      have zE := z 29 (by omega)
      have zG := z 33 (by omega)
      refine ks n A hA z (fun q hq => kp q hq) (by omega) (fun k k0 k1 => lw k k0 (by omega)) ⟨hF, hA, by rw [f18]; exact e0, e19, ⟨fun q h0 h1 => absurd h1 (by omega), ?_⟩, L, ⟨by omega, by omega, .inr ⟨z12, by omega⟩⟩, .inr (by omega), .inr ⟨by omega, fun b p q => absurd q (by omega), fun m m0 m1 b p q => ?_⟩, .inr (.inr ⟨fun d h0 h1 => absurd h1 (by omega), fun t h0 h1 => absurd h1 (by omega), fun t q h0 h1 => absurd h1 (by omega), fun m h0 h1 => absurd h1 (by omega)⟩), fun _ _ => rfl, o⟩
      · unfold CTm
        rw [e19]
        omega
      · have := lw m m0 (by omega)
        omega
    · rw [i_nge] at c
      have e1 := i_mulL (c := 6) (k := 6) (x := F 19) (by decide) (by omega) (by omega)
      have e2 := i_add (x := 6 * F 19) (y := x1) (by omega) (by omega)
      have e3 := i_add (x := x1) (y := 1) (by omega) (by omega)
      refine p2r_st (j := 34) hA (by omega) (by omega) (show 0 ≤ (0 : Int32).toInt ∧ (0 : Int32).toInt ≤ 100 by decide) ?_
      intro A2 a2 o2 s2 n2
      refine p2r_st (j := 35) a2 (by omega) (by omega) (show 0 ≤ (0 : Int32).toInt ∧ (0 : Int32).toInt ≤ 100 by decide) ?_
      intro A3 a3 o3 s3 n3
      have zz : (6 * F 19 + x1).toInt = 6 * s + x1.toInt := by omega
      rw [zz] at s2 n2 s3 n3
      have L2 : LSm l A0 A2 := L.st (by omega) 6 rfl o2 n2 ⟨by omega, by omega⟩ (by omega)
      have L3 : LSm l A0 A3 := L2.st (by omega) 6 rfl o3 n3 ⟨by omega, by omega⟩ (by omega)
      refine ih a3 (fun q hq => (o3 q (by omega)).trans ((o2 q (by omega)).trans (kp q hq))) L3 (fun q hq => by rw [ai_fr (o3 q (by omega)), ai_fr (o2 q (by omega))]; exact z q hq) (fun q hq => (o3 q (by omega)).trans ((o2 q (by omega)).trans (o q hq))) (fun k h0 h1 => ?_) (by omega) (by omega)
      rw [ai_fr (o3 34 (by decide))]
      by_cases e : k = x1.toInt
      · rw [e]
        exact ⟨s2.trans l0, s3.trans l0⟩
      · rw [n2 _ (by omega) (by omega), n3 _ (by omega) (by omega), ai_fr (o2 35 (by decide))]
        exact lw k h0 (by omega)
/-- the reference, behind its tokens -/
def rbody (n : Nat) (F5 : Nat → Int32) (A6 : Nat → Nat → Int32) (J7 : Nat → Nat → Int64) : Option (mR Int32) :=
    (m_pf F5 11 0).bind fun F8 =>
    (m_pf F8 12 0).bind fun F9 =>
    (m_pf F9 13 0).bind fun F10 =>
    (m_pf F10 15 0).bind fun F11 =>
    (m_pf F11 19 (1 - (F11 18))).bind fun F12 =>
    (m_pf F12 20 0).bind fun F13 =>
    (m_st A6 11 2 (F13 19) 0).bind fun A14 =>
    (m_st A14 12 2 (F13 19) 0).bind fun A15 =>
    (m_st A15 17 2 (F13 19) 0).bind fun A16 =>
    (m_st A16 19 2 (F13 19) 0).bind fun A17 =>
    (m_st A17 29 2 (F13 19) 0).bind fun A18 =>
    (m_st A18 33 2 (F13 19) 0).bind fun A19 =>
    (m_st A19 41 2 (F13 19) 480).bind fun A20 =>
    (m_pf F13 49 (50 * (F13 19))).bind fun F21 =>
    (m_pf F21 56 (420 * (F21 19))).bind fun F22 =>
    d_read_177 n F22 A20 J7 0
theorem w_body {x : Option γ} {Q : γ → mR Int32 → Prop} {n : Nat} {F5 : Nat → Int32} {A5 : Nat → Nat → Int32} (b5 : IFm F5) (a5 : IAm A5) (p5 : ∀ q, q ∉ ([10] : List Nat) → F5 q = F q) (o5 : ∀ q, q ∉ ([3, 4, 5] : List Nat) → A5 q = A q) (o : ∀ q, q ≠ 2 → A q = A0 q) (r18 : 0 ≤ (F 18).toInt ∧ (F 18).toInt ≤ 1) (hn : 1600 ≤ n)
    (ks : ∀ (n' : Nat) (F' : Nat → Int32) (A' : Nat → Nat → Int32), RDm (F 18).toInt (1 - (F 18).toInt) F' F' A0 A' → 1502 < (n' : Int) → (F' 11).toInt = 0 → (F' 13).toInt = 0 → (F' 15).toInt = 0 → (F' 12).toInt = 0 → (F' 20).toInt = 0 → (F' 19).toInt = 1 - (F 18).toInt → (∀ q, q ∉ ([10, 11, 12, 13, 15, 19, 20, 49, 56] : List Nat) → F' q = F q) → (∀ q, q = 11 ∨ q = 12 ∨ q = 17 ∨ q = 19 ∨ q = 29 ∨ q = 33 → ai A' q (1 - (F 18).toInt) = 0) → (∀ q, q < 34 → q ∉ ([11, 12, 17, 19, 29, 33, 41] : List Nat) → A' q = A5 q) → ai A' 41 (1 - (F 18).toInt) = 480 → (∀ k, 0 ≤ k → k < 6 → ai A' 34 (6 * (1 - (F 18).toInt) + k) = 0 ∧ ai A' 35 (6 * (1 - (F 18).toInt) + k) = 0) → P2 x (d_read_219 n' F' A' J) Q) : P2 x (rbody n F5 A5 J) Q := by
  have l1 : (1 : Int32).toInt = 1 := by decide
  have l0 : (0 : Int32).toInt = 0 := by decide
  unfold rbody
  refine p2r_pf b5 (show 0 ≤ (0 : Int32).toInt ∧ (0 : Int32).toInt ≤ 400 by decide) ?_
  intro F6 b6 k6 p6
  refine p2r_pf b6 (show 0 ≤ (0 : Int32).toInt ∧ (0 : Int32).toInt ≤ 7 by decide) ?_
  intro F7 b7 k7 p7
  refine p2r_pf b7 (show 0 ≤ (0 : Int32).toInt ∧ (0 : Int32).toInt ≤ 5 by decide) ?_
  intro F8 b8 k8 p8
  refine p2r_pf b8 (show 0 ≤ (0 : Int32).toInt ∧ (0 : Int32).toInt ≤ 5 by decide) ?_
  intro F9 b9 k9 p9
  have g18 : F9 18 = F 18 := (p9 18 (by decide)).trans ((p8 18 (by decide)).trans ((p7 18 (by decide)).trans ((p6 18 (by decide)).trans ((p5 18 (by decide)).trans rfl))))
  have e1 := i_sub (x := 1) (y := F9 18) (by rw [g18]; omega) (by rw [g18]; omega)
  rw [g18] at e1
  refine p2r_pf b9 (show 0 ≤ (1 - F9 18).toInt ∧ (1 - F9 18).toInt ≤ 1 by rw [g18]; omega) ?_
  intro F10 b10 k10 p10
  refine p2r_pf b10 (show 0 ≤ (0 : Int32).toInt ∧ (0 : Int32).toInt ≤ 32 by decide) ?_
  intro F11 b11 k11 p11
  have x19 : (F11 19).toInt = 1 - (F 18).toInt := by rw [p11 19 (by decide), k10, g18]; omega
  refine p2r_st (j := 11) a5 (by omega) (by omega) (show 0 ≤ (0 : Int32).toInt ∧ (0 : Int32).toInt ≤ 8 by decide) ?_
  intro A6 a6 o6 s6 n6
  refine p2r_st (j := 12) a6 (by omega) (by omega) (show 0 ≤ (0 : Int32).toInt ∧ (0 : Int32).toInt ≤ 12 by decide) ?_
  intro A7 a7 o7 s7 n7
  refine p2r_st (j := 17) a7 (by omega) (by omega) (show 0 ≤ (0 : Int32).toInt ∧ (0 : Int32).toInt ≤ 6 by decide) ?_
  intro A8 a8 o8 s8 n8
  refine p2r_st (j := 19) a8 (by omega) (by omega) (show 0 ≤ (0 : Int32).toInt ∧ (0 : Int32).toInt ≤ 6 by decide) ?_
  intro A9 a9 o9 s9 n9
  refine p2r_st (j := 29) a9 (by omega) (by omega) (show 0 ≤ (0 : Int32).toInt ∧ (0 : Int32).toInt ≤ 6 by decide) ?_
  intro A10 a10 o10 s10 n10
  refine p2r_st (j := 33) a10 (by omega) (by omega) (show 0 ≤ (0 : Int32).toInt ∧ (0 : Int32).toInt ≤ 8 by decide) ?_
  intro A11 a11 o11 s11 n11
  refine p2r_st (j := 41) a11 (by omega) (by omega) (show 0 ≤ (480 : Int32).toInt ∧ (480 : Int32).toInt ≤ 9999 by decide) ?_
  intro A12 a12 o12 s12 n12
  have e2 := i_mulL (c := 50) (k := 50) (x := F11 19) (by decide) (by omega) (by omega)
  refine p2r_pf b11 (show 0 ≤ (50 * F11 19).toInt ∧ (50 * F11 19).toInt ≤ 100 by omega) ?_
  intro F12 b12 k12 p12
  have y19 : (F12 19).toInt = 1 - (F 18).toInt := by rw [p12 19 (by decide)]; exact x19
  have e3 := i_mulL (c := 420) (k := 420) (x := F12 19) (by decide) (by omega) (by omega)
  refine p2r_pf b12 (show 0 ≤ (420 * F12 19).toInt ∧ (420 * F12 19).toInt ≤ 840 by omega) ?_
  intro F13 b13 k13 p13
  have L5 : LSm (F 18).toInt A0 A5 := ((LSm.rfl' (F 18).toInt A0).fr [2] (fun q hq => o q (fun e => hq (by rw [e]; decide))) (by decide)).fr [3, 4, 5] o5 (by decide)
  have L6 := L5.st r18.1 1 rfl o6 n6 ⟨by omega, by omega⟩ (by omega)
  have L7 := L6.st r18.1 1 rfl o7 n7 ⟨by omega, by omega⟩ (by omega)
  have L8 := L7.st r18.1 1 rfl o8 n8 ⟨by omega, by omega⟩ (by omega)
  have L9 := L8.st r18.1 1 rfl o9 n9 ⟨by omega, by omega⟩ (by omega)
  have L10 := L9.st r18.1 1 rfl o10 n10 ⟨by omega, by omega⟩ (by omega)
  have L11 := L10.st r18.1 1 rfl o11 n11 ⟨by omega, by omega⟩ (by omega)
  have L12 := L11.st r18.1 1 rfl o12 n12 ⟨by omega, by omega⟩ (by omega)
  have fr : ∀ q, q ∉ ([11, 12, 13, 15, 19, 20, 49, 56] : List Nat) → F13 q = F5 q := fun q hq => (p13 q (fun e => hq (by rw [e]; decide))).trans ((p12 q (fun e => hq (by rw [e]; decide))).trans ((p11 q (fun e => hq (by rw [e]; decide))).trans ((p10 q (fun e => hq (by rw [e]; decide))).trans ((p9 q (fun e => hq (by rw [e]; decide))).trans ((p8 q (fun e => hq (by rw [e]; decide))).trans ((p7 q (fun e => hq (by rw [e]; decide))).trans (p6 q (fun e => hq (by rw [e]; decide)))))))))
  have oA : ∀ q, q ∉ ([11, 12, 17, 19, 29, 33, 41] : List Nat) → A12 q = A5 q := fun q hq => (o12 q (fun e => hq (by rw [e]; decide))).trans ((o11 q (fun e => hq (by rw [e]; decide))).trans ((o10 q (fun e => hq (by rw [e]; decide))).trans ((o9 q (fun e => hq (by rw [e]; decide))).trans ((o8 q (fun e => hq (by rw [e]; decide))).trans ((o7 q (fun e => hq (by rw [e]; decide))).trans (o6 q (fun e => hq (by rw [e]; decide))))))))
  rw [x19, l0] at s6 s7 s8 s9 s10 s11
  have v11 : ai A12 11 (1 - (F 18).toInt) = 0 := by rw [ai_fr (o12 11 (by decide)), ai_fr (o11 11 (by decide)), ai_fr (o10 11 (by decide)), ai_fr (o9 11 (by decide)), ai_fr (o8 11 (by decide)), ai_fr (o7 11 (by decide))]; exact s6
  have v12 : ai A12 12 (1 - (F 18).toInt) = 0 := by rw [ai_fr (o12 12 (by decide)), ai_fr (o11 12 (by decide)), ai_fr (o10 12 (by decide)), ai_fr (o9 12 (by decide)), ai_fr (o8 12 (by decide))]; exact s7
  have v17 : ai A12 17 (1 - (F 18).toInt) = 0 := by rw [ai_fr (o12 17 (by decide)), ai_fr (o11 17 (by decide)), ai_fr (o10 17 (by decide)), ai_fr (o9 17 (by decide))]; exact s8
  have v19 : ai A12 19 (1 - (F 18).toInt) = 0 := by rw [ai_fr (o12 19 (by decide)), ai_fr (o11 19 (by decide)), ai_fr (o10 19 (by decide))]; exact s9
  have v29 : ai A12 29 (1 - (F 18).toInt) = 0 := by rw [ai_fr (o12 29 (by decide)), ai_fr (o11 29 (by decide))]; exact s10
  have v33 : ai A12 33 (1 - (F 18).toInt) = 0 := by rw [ai_fr (o12 33 (by decide))]; exact s11
  refine w_177 (F0 := F) (A1 := A12) (l := (F 18).toInt) (s := 1 - (F 18).toInt) ⟨by omega, by omega, rfl⟩ rfl b13 ?_ ?_ ?_ ?_ ?_ ?_ ?_ ?_ ?_ (fun n' A' hA' hz hq hn' lw D => ks n' F13 A' D hn' ?_ ?_ ?_ ?_ ?_ ?_ ?_ hz (fun q h1 h2 => ?_) ?_ lw) a12 (fun _ _ => rfl) L12 ?_ ?_ (fun k h0 h1 => absurd h1 (by omega)) (by decide) (by omega)
  · exact (fr 18 (by decide)).trans ((p5 18 (by decide)).trans rfl)
  · rw [p13 19 (by decide)]; exact y19
  · rw [p13 11 (by decide), p12 11 (by decide), p11 11 (by decide), p10 11 (by decide), p9 11 (by decide), p8 11 (by decide), p7 11 (by decide), k6]; exact l0
  · rw [p13 12 (by decide), p12 12 (by decide), p11 12 (by decide), p10 12 (by decide), p9 12 (by decide), p8 12 (by decide), k7]; exact l0
  · rw [p13 13 (by decide), p12 13 (by decide), p11 13 (by decide), p10 13 (by decide), p9 13 (by decide), k8]; exact l0
  · rw [p13 15 (by decide), p12 15 (by decide), p11 15 (by decide), p10 15 (by decide), k9]; exact l0
  · rw [p13 20 (by decide), p12 20 (by decide), k11]; exact l0
  · rw [p13 49 (by decide), k12]; omega
  · rw [k13]; omega
  · rw [p13 11 (by decide), p12 11 (by decide), p11 11 (by decide), p10 11 (by decide), p9 11 (by decide), p8 11 (by decide), p7 11 (by decide), k6]; exact l0
  · rw [p13 13 (by decide), p12 13 (by decide), p11 13 (by decide), p10 13 (by decide), p9 13 (by decide), k8]; exact l0
  · rw [p13 15 (by decide), p12 15 (by decide), p11 15 (by decide), p10 15 (by decide), k9]; exact l0
  · rw [p13 12 (by decide), p12 12 (by decide), p11 12 (by decide), p10 12 (by decide), p9 12 (by decide), p8 12 (by decide), k7]; exact l0
  · rw [p13 20 (by decide), p12 20 (by decide), k11]; exact l0
  · rw [p13 19 (by decide)]; exact y19
  · intro q hq
    exact (fr q (fun e => hq ((by decide : ∀ x, x ∈ ([11, 12, 13, 15, 19, 20, 49, 56] : List Nat) → x ∈ ([10, 11, 12, 13, 15, 19, 20, 49, 56] : List Nat)) q e))).trans (p5 q (fun e => hq (by rw [List.mem_singleton.mp e]; decide)))
  · exact (hq q (.inl h1)).trans (oA q h2)
  · rw [ai_fr (hq 41 (.inr rfl)), ← x19]; exact s12
  · intro q hq
    rcases hq with rfl | rfl | rfl | rfl | rfl | rfl
    · exact v11
    · exact v12
    · exact v17
    · exact v19
    · exact v29
    · exact v33
  · intro q hq
    exact (oA q (by simp; omega)).trans ((o5 q (by simp; omega)).trans (o q (by omega)))
end C8
