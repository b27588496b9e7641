section R9b
variable {P P' : Nat → Nat → Nat} {F F' F0 : Nat → Nat → Int32} {A A' A0 : Nat → Nat → Nat → Int32} {J : Nat → Nat → Nat → Int64} {n d : Nat}
theorem hrow (hk : c_kind d = 6) (o : Nat) (v : Int) (h : rRc 6 o v) : rRc (c_kind d) o v := by rw [hk]; exact h
theorem s_readDoor_91 {x1 x2 x3 s0 : Int32} (e5 : P 37 5 = d) (e6 : P 37 6 = 3) (hk : c_kind d = 6) (V : RVc d F0 F A0 A) (h1 : -1 ≤ x1.toInt ∧ x1.toInt ≤ 7) (h2 : -1 ≤ x2.toInt ∧ x2.toInt ≤ 7) (hv : cf F 37 10 ≠ 0 ∨ cf F 37 12 ≠ 0 ∨ (0 ≤ x1.toInt ∧ 0 ≤ x2.toInt)) (hc : cf F 37 10 ≠ 0 ∨ cf F d 14 < 12) : ok (e_Reader_readDoor_91 n P F A J x1 x2 x3 s0) (RXc P d F0 A0) := by
  have l0 : (0 : Int32).toInt = 0 := by decide
  have l1 : (1 : Int32).toInt = 1 := by decide
  have hd := kd37 hk
  have h3 := kd3 hk
  unfold e_Reader_readDoor_91
  refine ok_call (s_take V.1) ?_
  rintro ⟨v, P5, F5, A5, J5⟩ ⟨q5, w5⟩
  dsimp only at q5 w5 ⊢
  have V5 := V.q hd q5
  refine ok_cond (fun _ => ok_some ⟨q5.1, V5⟩) (fun c => ?_)
  rw [i_neq, l0] at c
  have z5 : cf F5 37 10 = 0 := by omega
  have z0 : cf F 37 10 = 0 := by omega
  have rh := V5.1.h hk
  have k14 := q5.dd hd 14
  have lt : (F5 d 14).toInt < 12 := by
    rw [k14]
    rcases hc with h | h
    · exact absurd z0 h
    · exact h
  have hv5 : cf F5 37 12 ≠ 0 ∨ (0 ≤ x1.toInt ∧ 0 ≤ x2.toInt) := by
    rcases hv with h | h | h
    · exact absurd z0 h
    · exact .inl (q5.2.2.2.2.2.2 h)
    · exact .inr h
  have x5 : P5 37 5 = d := by rw [q5.1]; exact e5
  have x6 : P5 37 6 = 3 := by rw [q5.1]; exact e6
  rw [x5, x6]
  refine ok_chk hk ?_
  refine ok_chk hk ?_
  refine ok_cst (by omega) (by omega) ?_
  intro A6 U6
  refine ok_chk hk ?_
  refine ok_cst (by omega) (by omega) ?_
  intro A7 U7
  refine ok_chk hk ?_
  refine ok_cst (by omega) (by omega) ?_
  intro A8 U8
  refine ok_chk (by decide) ?_
  have R8 : Rc F5 A8 := ((V5.1.st U6 (hrow hk 1 _ h1)).st U7 (hrow hk 2 _ h2)).st U8 (hrow hk 3 _ trivial)
  have f165 : ∀ {s1 s2 : Int32}, ok (e_Reader_readDoor_165 n P5 F5 A8 J5 3 s1 s2) (RXc P d F0 A0) := by
    intro s1 s2
    unfold e_Reader_readDoor_165
    refine ok_cpf ?_
    intro F9 U9
    rw [x5]
    refine ok_chk hk ?_
    refine ok_cpf ?_
    intro F10 U10
    have k9 : F9 d 14 = F5 d 14 := U9.2 d 14 (fun h => h3 h.1)
    rw [k9] at U10
    have e := i_add (x := F5 d 14) (y := 1) (by omega) (by omega)
    have fd : ∀ k, k ≠ 14 → F10 d k = F5 d k := fun k hkk => (U10.2 d k (fun h => hkk h.2)).trans (U9.2 d k (fun h => h3 h.1))
    have ad : ∀ o, o ≠ 1 → o ≠ 2 → o ≠ 3 → A8 d o = A5 d o := fun o a b c => (U8.2.2 d o (fun h => c h.2)).trans ((U7.2.2 d o (fun h => b h.2)).trans (U6.2.2 d o (fun h => a h.2)))
    have a3 : A8 3 3 = A5 3 3 := (U8.2.2 3 3 (fun h => h3 h.1.symm)).trans ((U7.2.2 3 3 (fun h => h3 h.1.symm)).trans (U6.2.2 3 3 (fun h => h3 h.1.symm)))
    have k14' : (F10 d 14).toInt = (F5 d 14).toInt + 1 := by rw [U10.1]; omega
    have R10 : Rc F10 A8 := (R8.pf U9 trivial).pf U10 (by rw [hk]; exact (show 0 ≤ (F5 d 14 + 1).toInt ∧ (F5 d 14 + 1).toInt ≤ 12 by omega))
    suffices V6 : RVc d F0 F10 A0 A8 from ok_some ⟨q5.1, V6⟩
    refine V5.up hd R10 (fun r k a b => (U10.2 r k (fun h => a h.1)).trans (U9.2 r k (fun h => b h.1))) (fun r o a _ => (U8.2.2 r o (fun h => a h.1)).trans ((U7.2.2 r o (fun h => a h.1)).trans (U6.2.2 r o (fun h => a h.1)))) (by unfold cf; rw [fd 16 (by decide), ci_fr (ad 5 (by decide) (by decide) (by decide))]; exact V5.2.2.1) (fd 1304 (by decide)) (.inr (hv5.imp id (fun hh D => ?_)))
    obtain ⟨d1, d2, d3, d4, d5, d6, d7⟩ := D
    refine ⟨fun x p r => ?_, ?_, ?_, ?_, ?_, ?_, d7.cg (ad 5 (by decide) (by decide) (by decide)) a3⟩
    · have r' : x < (F10 d 14).toInt := r
      have b1 : ci A8 d 1 = ci A6 d 1 := by rw [ci_fr (U8.2.2 d 1 (by simp)), ci_fr (U7.2.2 d 1 (by simp))]
      have b2 : ci A8 d 2 = ci A7 d 2 := ci_fr (U8.2.2 d 2 (by simp))
      show 0 ≤ ci A8 d 1 x ∧ 0 ≤ ci A8 d 2 x
      rw [b1, b2]
      by_cases z : x = (F5 d 14).toInt
      · rw [z, U6.1, U7.1]; exact hh
      · rw [U6.2.1 x p z, U7.2.1 x p z, ci_fr (U6.2.2 d 2 (by simp))]
        exact d1 x p (by unfold cf; omega)
    · unfold cf
      rw [fd 17 (by decide), ci_fr (ad 12 (by decide) (by decide) (by decide))]
      exact d2
    · unfold cf
      rw [fd 16 (by decide), ci_fr (ad 4 (by decide) (by decide) (by decide))]
      exact d3
    · rw [ci_fr (ad 5 (by decide) (by decide) (by decide)), ci_fr (ad 11 (by decide) (by decide) (by decide))]
      exact d4
    · unfold CVc cf
      rw [fd 1304 (by decide), ci_fr (ad 15 (by decide) (by decide) (by decide)), ci_fr (ad 16 (by decide) (by decide) (by decide))]
      exact d5
    · unfold cf
      rw [fd 18 (by decide)]
      exact d6
  exact ok_cond (fun _ => f165) (fun _ => f165)
theorem s_readDoor (e5 : P 37 5 = d) (e6 : P 37 6 = 3) (hk : c_kind d = 6) (V : RVc d F0 F A0 A) (hn : 20 ≤ n) : ok (e_Reader_readDoor n P F A J) (RXc P d F0 A0) := by
  have l0 : (0 : Int32).toInt = 0 := by decide
  have l12 : (12 : Int32).toInt = 12 := by decide
  have hd := kd37 hk
  unfold e_Reader_readDoor
  rw [e5]
  refine ok_chk hk ?_
  refine ok_call (s_takeFirst V.1) ?_
  rintro ⟨u2, P2, F2, A2, J2⟩ ⟨q2, w2⟩
  dsimp only at q2 w2 ⊢
  have e5' : P2 37 5 = d := by rw [q2.1]; exact e5
  rw [e5']
  refine ok_chk hk ?_
  refine ok_call (s_known q2.2.2.2.1 (by omega)) ?_
  rintro ⟨v8, P3, F3, A3, J3⟩ ⟨q3, a3, b3, c3, d3⟩
  dsimp only at q3 a3 b3 c3 d3 ⊢
  have e5'' : P3 37 5 = d := by rw [(q2.tr q3).1]; exact e5
  rw [e5'']
  refine ok_chk hk ?_
  refine ok_call (s_known q3.2.2.2.1 (by omega)) ?_
  rintro ⟨v14, P4, F4, A4, J4⟩ ⟨q4, a4, b4, c4, d4⟩
  dsimp only at q4 a4 b4 c4 d4 ⊢
  have qa := (q2.tr q3).tr q4
  -- the rest of it
  have rest : ∀ {P5 F5 A5 J5}, QRc P4 P5 F4 F5 A4 A5 → ok ((e_Reader_takeNumber P5 F5 A5 J5 1 60).bind fun (v39, P40, F41, A42, J43) => (e_Reader_isNext P40 F41 A42 J43 8).bind fun v44 => cond (g_cnd .eq v44 0) (e_Reader_readDoor_90 n P40 F41 A42 J43 v8 v14 v39) ((e_Reader_take P40 F41 A42 J43 8).bind fun (v46, P47, F48, A49, J50) => cond (g_cnd .eq v46 0) (e_Reader_readDoor_90 n P47 F48 A49 J50 v8 v14 v39) (e_Reader_readDoor_91 n P47 F48 A49 J50 v8 v14 v39 1))) (RXc P d F0 A0) := by
    intro P5 F5 A5 J5 q5
    have last : ∀ {P7 F7 A7 J7} {v s : Int32}, QRc P4 P7 F4 F7 A4 A7 → ok (e_Reader_readDoor_91 n P7 F7 A7 J7 v8 v14 v s) (RXc P d F0 A0) := by
      intro P7 F7 A7 J7 v s q7
      have qz := qa.tr q7
      have ep : P7 = P := qz.1
      subst ep
      refine s_readDoor_91 e5 e6 hk (V.q hd qz) ⟨a3, by omega⟩ ⟨a4, by omega⟩ ?_ ?_
      · rcases d3 with h | h | h
        · rcases d4 with g | g | g
          · exact .inr (.inr ⟨h, g⟩)
          · exact .inl (q7.2.2.2.2.2.1 g)
          · exact .inr (.inl (q7.2.2.2.2.2.2 g))
        · exact .inl (q7.2.2.2.2.2.1 (q4.2.2.2.2.2.1 h))
        · exact .inr (.inl (q7.2.2.2.2.2.2 (q4.2.2.2.2.2.2 h)))
      · rcases w2 with h | h
        · exact .inl (q7.2.2.2.2.2.1 (q4.2.2.2.2.2.1 (q3.2.2.2.2.2.1 h)))
        · right
          unfold cf
          rw [qz.dd hd 14]
          omega
    refine ok_call (s_takeNumber q5.2.2.2.1) ?_
    rintro ⟨v39, P6, F6, A6, J6⟩ ⟨q6, _⟩
    dsimp only at q6 ⊢
    refine ok_call (s_isNext q6.2.2.2.1) ?_
    intro v44 _
    refine ok_cond (fun _ => ?_) (fun _ => ?_)
    · unfold e_Reader_readDoor_90
      exact last (q5.tr q6)
    · refine ok_call (s_take q6.2.2.2.1) ?_
      rintro ⟨v46, P7, F7, A7, J7⟩ ⟨q7, _⟩
      dsimp only at q7 ⊢
      refine ok_cond (fun _ => ?_) (fun _ => ?_)
      · unfold e_Reader_readDoor_90
        exact last ((q5.tr q6).tr q7)
      · exact last ((q5.tr q6).tr q7)
  have f60 : ok (e_Reader_readDoor_60 n P4 F4 A4 J4 v8 v14) (RXc P d F0 A0) := by
    unfold e_Reader_readDoor_60
    exact rest (QRc.rfl' q4.2.2.2.1)
  refine ok_cond (fun _ => f60) (fun _ => ?_)
  refine ok_cond (fun _ => f60) (fun _ => ?_)
  refine ok_call (s_failLate q4.2.2.2.1 (by decide)) ?_
  rintro ⟨u5, P5, F5, A5, J5⟩ ⟨q5, _⟩
  dsimp only at q5 ⊢
  exact rest q5
theorem s_readTask (e5 : P 37 5 = d) (e6 : P 37 6 = 3) (hk : c_kind d = 6) (V : RVc d F0 F A0 A) (hn : 20 ≤ n) : ok (e_Reader_readTask n P F A J) (RXc P d F0 A0) := by
  have l0 : (0 : Int32).toInt = 0 := by decide
  have l1 : (1 : Int32).toInt = 1 := by decide
  have l6 : (6 : Int32).toInt = 6 := by decide
  have hd := kd37 hk
  have h3 := kd3 hk
  have rh := V.1.h hk
  unfold e_Reader_readTask
  rw [e5]
  refine ok_chk hk ?_
  refine ok_call (s_takeFirst V.1) ?_
  rintro ⟨u2, P2, F2, A2, J2⟩ ⟨q2, w2⟩
  dsimp only at q2 w2 ⊢
  have e5' : P2 37 5 = d := by rw [q2.1]; exact e5
  rw [e5']
  refine ok_chk hk ?_
  have k2 := q2.dd hd 16
  refine ok_call (s_newName_v2 e5' hk q2.2.2.2.1 (by rw [k2]; omega) (by omega)) ?_
  rintro ⟨u3, P3, F3, A3, J3⟩ q3
  dsimp only at q3 ⊢
  have e5'' : P3 37 5 = d := by rw [(q2.tr q3).1]; exact e5
  rw [e5'']
  refine ok_chk hk ?_
  refine ok_call (s_known q3.2.2.2.1 (by omega)) ?_
  rintro ⟨v14, P4, F4, A4, J4⟩ ⟨q4, a4, b4, c4, d4⟩
  dsimp only at q4 a4 b4 c4 d4 ⊢
  refine ok_call (s_takeNumber q4.2.2.2.1) ?_
  rintro ⟨v19, P4b, F4b, A4b, J4b⟩ ⟨q4b, _⟩
  dsimp only at q4b ⊢
  refine ok_call (s_take q4b.2.2.2.1) ?_
  rintro ⟨v, P5, F5, A5, J5⟩ ⟨q5, w5⟩
  dsimp only at q5 w5 ⊢
  have qa := (((q2.tr q3).tr q4).tr q4b).tr q5
  have V5 := V.q hd qa
  refine ok_cond (fun _ => ok_some ⟨qa.1, V5⟩) (fun c => ?_)
  rw [i_neq, l0] at c
  have z5 : cf F5 37 10 = 0 := by omega
  have lt : (F d 16).toInt < 6 := by
    rcases w2 with h | h
    · exact absurd (q5.2.2.2.2.2.1 (q4b.2.2.2.2.2.1 (q4.2.2.2.2.2.1 (q3.2.2.2.2.2.1 h)))) (by omega)
    · omega
  have hv : cf F5 37 12 ≠ 0 ∨ 0 ≤ v14.toInt := by
    rcases d4 with h | h | h
    · exact .inr h
    · exact absurd (q5.2.2.2.2.2.1 (q4b.2.2.2.2.2.1 h)) (by omega)
    · exact .inl (q5.2.2.2.2.2.2 (q4b.2.2.2.2.2.2 h))
  have k5 := qa.dd hd 16
  have x5 : P5 37 5 = d := by rw [qa.1]; exact e5
  have x6 : P5 37 6 = 3 := by rw [qa.1]; exact e6
  rw [x5, x6]
  refine ok_chk hk ?_
  refine ok_chk hk ?_
  rw [k5]
  refine ok_cst (by omega) (by omega) ?_
  intro A6 U6
  refine ok_chk (by decide) ?_
  refine ok_chk hk ?_
  rw [k5]
  refine ok_cst (by omega) (by omega) ?_
  intro A7 U7
  refine ok_chk hk ?_
  refine ok_cpf ?_
  intro F8 U8
  rw [k5] at U8
  have e := i_add (x := F d 16) (y := 1) (by omega) (by omega)
  have k8 : (F8 d 16).toInt = (F d 16).toInt + 1 := by rw [U8.1]; omega
  have t5 : (F5 d 16).toInt = (F d 16).toInt := by rw [k5]
  have fd : ∀ k, k ≠ 16 → F8 d k = F5 d k := fun k hkk => U8.2 d k (fun h => hkk h.2)
  have ad : ∀ o, o ≠ 4 → A7 d o = A5 d o := fun o a => (U7.2.2 d o (fun h => h3 h.1)).trans (U6.2.2 d o (fun h => a h.2))
  have a3 : A7 3 3 = A5 3 3 := (U7.2.2 3 3 (by simp)).trans (U6.2.2 3 3 (fun h => h3 h.1.symm))
  have R8 : Rc F8 A7 := ((V5.1.st U6 (hrow hk 4 _ ⟨a4, by omega⟩)).st U7 trivial).pf U8 (by rw [hk]; exact (show 0 ≤ (F d 16 + 1).toInt ∧ (F d 16 + 1).toInt ≤ 6 by omega))
  suffices V6 : RVc d F0 F8 A0 A7 from ok_some ⟨qa.1, V6⟩
  refine V5.up hd R8 (fun r k a _ => U8.2 r k (fun h => a h.1)) (fun r o a b => (U7.2.2 r o (fun h => b h.1)).trans (U6.2.2 r o (fun h => a h.1))) (fun t p r => ?_) (fd 1304 (by decide)) (.inr (hv.imp id (fun hh D => ?_)))
  · have p' : (F8 d 16).toInt ≤ t := p
    show ci A7 d 5 t = 0
    rw [ci_fr (ad 5 (by decide))]
    exact V5.2.2.1 t (by unfold cf; omega) r
  obtain ⟨d1, d2, d3, d4', d5, d6, d7⟩ := D
  refine ⟨?_, ?_, fun t p r => ?_, ?_, ?_, ?_, d7.cg (ad 5 (by decide)) a3⟩
  · unfold cf
    rw [fd 14 (by decide), ci_fr (ad 1 (by decide)), ci_fr (ad 2 (by decide))]
    exact d1
  · unfold cf
    rw [fd 17 (by decide), ci_fr (ad 12 (by decide))]
    exact d2
  · have r' : t < (F8 d 16).toInt := r
    show 0 ≤ ci A7 d 4 t
    rw [ci_fr (U7.2.2 d 4 (fun h => h3 h.1))]
    by_cases z : t = (F d 16).toInt
    · rw [z, U6.1]; exact hh
    · rw [U6.2.1 t p z]
      exact d3 t p (by unfold cf; omega)
  · rw [ci_fr (ad 5 (by decide)), ci_fr (ad 11 (by decide))]
    exact d4'
  · unfold CVc cf
    rw [fd 1304 (by decide), ci_fr (ad 15 (by decide)), ci_fr (ad 16 (by decide))]
    exact d5
  · unfold cf
    rw [fd 18 (by decide)]
    exact d6
end R9b
