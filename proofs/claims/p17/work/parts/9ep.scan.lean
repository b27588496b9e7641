section C7
variable {JW JK : Nat → Int64} {d n m : Nat} {P : Nat → Nat → Nat} {F F' F0 : Nat → Nat → Int32} {A A' : Nat → Nat → Nat → Int32} {J J' : Nat → Nat → Nat → Int64} {Fm Fm' : Nat → Int32} {Am Am' : Nat → Nat → Int32} {Jm Jm' : Nat → Nat → Int64}
theorem AT.sq {k : Nat} {p : Int} (a : AT JW JK k p F A J Fm Am Jm) (hk : k ≤ 400) (h : ¬ LVm Am k) {b : mR Unit} (g : GF (k + 1) Am Jm b.2.1 b.2.2.1 b.2.2.2) {F1 : Nat → Nat → Int32} : SQ JW JK ((), P, F1, A, J) b := by
  have o := g.2.1
  have o3 : ∀ j, j ≤ k → b.2.2.1 3 j = Am 3 j := fun j hj => (o j (by omega)).1
  have o4 : ∀ j, j ≤ k → b.2.2.1 4 j = Am 4 j := fun j hj => (o j (by omega)).2.1
  refine ⟨k, hk, fun j hj => ?_, fun j hj => ?_, fun j hj => ?_, .inr ?_, a.jw, ?_⟩
  · have t : TR j A J Am Jm := by
      by_cases e : j < k
      · exact (a.tr j e).1
      · have : j = k := by omega
        rw [this]; exact a.tk
    unfold TR at t ⊢
    obtain ⟨q3, q4, q5, q6⟩ := o j (by omega)
    rw [q3, q5, q6]
    exact t
  · unfold LVm
    rw [o3 j (by omega)]
    exact (a.tr j hj).2
  · rw [o4 j (by omega), o4 (j + 1) (by omega)]
    exact a.up j hj
  · unfold LVm
    rw [o3 k (by omega)]
    exact h
  · rw [g.2.2]; exact a.jk
/-- all tokens of a text, on both sides -/
theorem p2_scan (hW : WKx JW JK) : ∀ {n m k : Nat} {p : Int} {F : Nat → Nat → Int32} {A : Nat → Nat → Nat → Int32} {J : Nat → Nat → Nat → Int64} {Fm : Nat → Int32} {Am : Nat → Nat → Int32} {Jm : Nat → Nat → Int64} {x3 x1 : Int32}, SC JW JK k p F A J Fm Am Jm → k ≤ 401 → x3.toInt = k → x1.toInt = p → P2 (e_Scanner_scanAll_9 n P F A J 1 x3) (d_cut_7 m Fm Am Jm x1) (SQ JW JK) := by
  have l400 := i_400
  have l1 := i_1
  have l102 : (102 : Int32).toInt = 102 := by decide
  have l103 : (103 : Int32).toInt = 103 := by decide
  intro n
  induction n with
  | zero => intro m k p F A J Fm Am Jm x3 x1 _ _ _ _ a b ha _; cases ha
  | succ n ih =>
    intro m k p F A J Fm Am Jm x3 x1 S hk h3 h1
    unfold e_Scanner_scanAll_9
    by_cases c : k = 401
    · rw [i_gt.mpr (by rw [l400]; omega), cond_true]
      cases m with
      | zero => intro a b _ hb; cases hb
      | succ m =>
        unfold d_cut_7
        rw [i_gt.mpr (by rw [l400, S.fk]; omega), cond_true]
        exact p2_some ⟨400, Nat.le_refl _, fun j hj => (S.tr j (by omega)).1, fun j hj => (S.tr j (by omega)).2, fun j hj => S.up j (by omega), .inl rfl, S.jw, S.jk⟩
    · have hk4 : k ≤ 400 := by omega
      rw [i_ngt.mpr (by rw [l400]; omega), cond_false, cz_10, cond_false]
      unfold e_Scanner_scanNext
      refine p2_blank hk4 (fun n' m' F' p' x1' S' hx' hb => p2_tok hW hk4 h3 S' hx' hb (fun F2 A2 J2 Fm2 Am2 Jm2 p2 x2 m2 a h2 => ?_) (fun F2 A2 J2 Fm2 Am2 Jm2 p2 a h0 => ?_)) S h1
      · have ik : x3.toInt.toNat = k := by omega
        have e31 := i_add (x := x3) (y := 1) (by omega) (by omega)
        dsimp only
        rw [m_ld_in (by omega) (by omega), Option.bind_some, ik]
        have i0 : (A2 37 2 k).toInt = (102 : Int32).toInt ↔ (Am2 3 k).toInt = 0 := a.tk.1.iff (by decide)
        have i3 : (A2 37 2 k).toInt = (103 : Int32).toInt ↔ (Am2 3 k).toInt = 3 := a.tk.1.iff (by decide)
        by_cases hl : LVm Am2 k
        · rw [i_neq.mpr (fun h => hl.1 (i0.mp h)), cond_false, Option.bind_some, i_neq.mpr (fun h => hl.2 (i3.mp h)), cond_false]
          unfold e_Scanner_scanAll_53
          exact ih (a.sc hl) (by omega) (by omega) h2
        · have stop : P2 (e_Scanner_scanAll_52 (e_Scanner_scanAll_9 n) n P F2 A2 J2 x3) (d_cut_7 m2 Fm2 Am2 Jm2 x2) (SQ JW JK) := by
            refine p2_of (R := fun r => r = ((), P, F2, A2, J2)) ?_ (gf_7 (k0 := k + 1) (A0 := Am2) (J0 := Jm2) ⟨by rw [a.fk]; omega, fun _ _ => ⟨rfl, rfl, rfl, rfl⟩, rfl⟩) ?_
            · unfold e_Scanner_scanAll_52 e_Scanner_scanAll_53
              cases n with
              | zero => intro r hr; cases hr
              | succ n =>
                unfold e_Scanner_scanAll_9
                rw [cz_00]
                refine po_cond (fun _ => po_some rfl) (fun _ => ?_)
                rw [cond_true]
                exact po_some rfl
            · rintro _ b rfl g
              exact a.sq hk4 hl g
          by_cases h0 : (Am2 3 k).toInt = 0
          · rw [i_eq.mpr (i0.mpr h0), cond_true]
            exact stop
          · have h3' : (Am2 3 k).toInt = 3 := Decidable.byContradiction fun h => hl ⟨h0, h⟩
            rw [i_neq.mpr (fun h => h0 (i0.mp h)), cond_false, Option.bind_some, i_eq.mpr (i3.mpr h3'), cond_true]
            exact stop
      · have ik : x3.toInt.toNat = k := by omega
        dsimp only
        rw [m_ld_in (by omega) (by omega), Option.bind_some, ik]
        have i0 : (A2 37 2 k).toInt = (102 : Int32).toInt ↔ (Am2 3 k).toInt = 0 := a.tk.1.iff (by decide)
        rw [i_eq.mpr (i0.mpr h0), cond_true]
        refine p2_of (R := fun r => r = ((), P, F2, A2, J2)) ?_ (S := fun b => b = ((), Fm2, Am2, Jm2)) (po_some rfl) ?_
        · unfold e_Scanner_scanAll_52 e_Scanner_scanAll_53
          cases n with
          | zero => intro r hr; cases hr
          | succ n =>
            unfold e_Scanner_scanAll_9
            rw [cz_00]
            refine po_cond (fun _ => po_some rfl) (fun _ => ?_)
            rw [cond_true]
            exact po_some rfl
        · rintro _ _ rfl rfl
          exact a.sq hk4 (fun h => h.1 h0) ⟨by show ((k + 1 : Nat) : Int) ≤ (Fm2 10).toInt; rw [a.fk]; omega, fun _ _ => ⟨rfl, rfl, rfl, rfl⟩, rfl⟩
def mkT (a : cR Unit) (b : mR Unit) : TS := ⟨a.2.2.2.1 37 2, a.2.2.2.1 37 3, a.2.2.2.1 37 4, a.2.2.2.2 37 5, b.2.2.1 3, b.2.2.1 4, b.2.2.1 5, b.2.2.2 6, a.2.2.2.2 37 6, b.2.2.2 7⟩
theorem SQ.tks {a : cR Unit} {b : mR Unit} (h : SQ JW JK a b) : TKs (mkT a b) := by
  obtain ⟨K0, h0, tr, lv, up, en, -, -⟩ := h
  have le : ∀ i : Nat, i ≤ 400 → (∀ j, j < i → (mkT a b).lv j) → i ≤ K0 := by
    intro i hi h
    refine Nat.le_of_not_lt fun hlt => ?_
    rcases en with e | e
    · omega
    · exact e (h K0 hlt)
  refine ⟨fun i hi h => (tr i (le i hi h)).1, fun i hi h e => (tr i (le i hi h)).2.1 e, fun i hi h e => (tr i (le i hi h)).2.2 e, fun i hi h => up i ?_⟩
  have := le (i + 1) (by omega) (fun j hj => h j (by omega))
  omega
theorem gg_cpp {r k q : Nat} {P' : Nat → Nat → Nat} (h : c_pp P r k q = some P') : P' r k = q ∧ (∀ r' k', ¬ (r' = r ∧ k' = k) → P' r' k' = P r' k') := by
  have z : ok ((c_pp P r k q).bind some) (fun P' => P' r k = q ∧ (∀ r' k', ¬ (r' = r ∧ k' = k) → P' r' k' = P r' k')) := ok_cpp (fun P' a b => ok_some ⟨a, b⟩)
  rw [h] at z
  obtain ⟨a, e, z⟩ := z
  cases e
  exact z
theorem gg_cfi {r o k : Nat} {x : Int32} (h : c_fi A r o k x = some A') : (∀ r' o', ¬ (r' = r ∧ o' = o) → A' r' o' = A r' o') := by
  have z : ok ((c_fi A r o k x).bind some) (fun A' => ∀ r' o', ¬ (r' = r ∧ o' = o) → A' r' o' = A r' o') := ok_cfi (fun A' _ _ c => ok_some c)
  rw [h] at z
  obtain ⟨a, e, z⟩ := z
  cases e
  exact z
theorem hcl_po : po (e_House_clear P F A J d) (fun r => ∃ F' A', r = ((), P, F', A', J) ∧ F' d 13 = 0 ∧ F' d 14 = 0 ∧ F' d 15 = 0 ∧ F' d 16 = 0 ∧ F' d 17 = 0 ∧ (∀ r k, r ≠ d → F' r k = F r k) ∧ (∀ r o, r ≠ d → A' r o = A r o)) := by
  unfold e_House_clear e_Laws_clear
  refine po_bl (fun F1 e1 => po_bl (fun F2 e2 => po_bl (fun F3 e3 => po_bl (fun F4 e4 => po_bl (fun F5 e5 => po_bl (fun F6 e6 => po_bl (fun A7 e7 => ?_)))))))
  have u1 := gg_cpf e1
  have u2 := gg_cpf e2
  have u3 := gg_cpf e3
  have u4 := gg_cpf e4
  have u5 := gg_cpf e5
  have u6 := gg_cpf e6
  have v7 := gg_cfi e7
  rw [Option.bind_assoc]
  refine po_bl (fun F8 e8 => ?_)
  have u8 := gg_cpf e8
  rw [Option.bind_assoc]
  refine po_bl (fun A9 e9 => ?_)
  have v9 := gg_cfi e9
  rw [Option.bind_some]
  refine po_some ⟨F8, A9, rfl, ?_, ?_, ?_, ?_, ?_, ?_, ?_⟩
  · rw [u8.2 d 13 (by simp), u6.2 d 13 (by simp), u5.2 d 13 (by simp), u4.2 d 13 (by simp), u3.2 d 13 (by simp), u2.2 d 13 (by simp), u1.1]
  · rw [u8.2 d 14 (by simp), u6.2 d 14 (by simp), u5.2 d 14 (by simp), u4.2 d 14 (by simp), u3.2 d 14 (by simp), u2.1]
  · rw [u8.2 d 15 (by simp), u6.2 d 15 (by simp), u5.2 d 15 (by simp), u4.2 d 15 (by simp), u3.1]
  · rw [u8.2 d 16 (by simp), u6.2 d 16 (by simp), u5.2 d 16 (by simp), u4.1]
  · rw [u8.2 d 17 (by simp), u6.2 d 17 (by simp), u5.1]
  · intro r k h
    rw [u8.2 r k (fun e => h e.1), u6.2 r k (fun e => h e.1), u5.2 r k (fun e => h e.1), u4.2 r k (fun e => h e.1), u3.2 r k (fun e => h e.1), u2.2 r k (fun e => h e.1), u1.2 r k (fun e => h e.1)]
  · intro r o h
    rw [v9 r o (fun e => h e.1), v7 r o (fun e => h e.1)]
theorem scl_po {q : Nat} : po (e_State_clear P F A J q) (fun r => ∃ F' A', r = ((), P, F', A', J) ∧ (∀ r k, r ≠ q → F' r k = F r k) ∧ (∀ r o, r ≠ q → A' r o = A r o)) := by
  unfold e_State_clear
  refine po_bl (fun A1 e1 => po_bl (fun A2 e2 => po_bl (fun A3 e3 => po_bl (fun A4 e4 => po_bl (fun A5 e5 => po_bl (fun A6 e6 => po_bl (fun A7 e7 => po_bl (fun F8 e8 => po_bl (fun F9 e9 => po_some ⟨F9, A7, rfl, fun r k h => ?_, fun r o h => ?_⟩)))))))))
  · rw [(gg_cpf e9).2 r k (fun e => h e.1), (gg_cpf e8).2 r k (fun e => h e.1)]
  · rw [gg_cfi e7 r o (fun e => h e.1), gg_cfi e6 r o (fun e => h e.1), gg_cfi e5 r o (fun e => h e.1), gg_cfi e4 r o (fun e => h e.1), gg_cfi e3 r o (fun e => h e.1), gg_cfi e2 r o (fun e => h e.1), gg_cfi e1 r o (fun e => h e.1)]
/-- what the class has before it reads sentences -/
def FOp (d : Nat) (a : cR Unit) : Prop := a.2.2.1 37 7 = 0 ∧ a.2.2.1 37 9 = 0 ∧ a.2.2.1 37 10 = 0 ∧ a.2.2.1 37 12 = 0 ∧ (∀ q, q < 4 → a.2.2.1 d (cq q) = 0) ∧ a.2.2.1 d 14 = 0
theorem p2_open (hW : WKx JW JK) (hk : c_kind d = 6) (R : Rc F A) (sz : F 1 1 = Fm 4) (s0 : 0 ≤ (Fm 4).toInt) (s1 : (Fm 4).toInt ≤ 2000) (bt : BTx A Fm Am) (jw : J 37 6 = JW) (jk : Jm 7 = JK) (hn : 5200 ≤ n) : P2 (e_Reader_open n P F A J d 3) (d_cut m Fm Am Jm) (fun a b => SQ JW JK a b ∧ FOp d a) := by
  have hd := kd37 hk
  have hd3 := kd3 hk
  have hd1 : d ≠ 1 := fun e => absurd hk (by rw [e]; decide)
  unfold e_Reader_open d_cut
  refine p2_bl (fun P1 p1 => p2_bl (fun P2 p2 => ?_))
  have q1 := gg_cpp p1
  have q2 := gg_cpp p2
  have x5 : P2 37 5 = d := (q2.2 37 5 (by simp)).trans q1.1
  have x6 : P2 37 6 = 3 := q2.1
  refine p2_bl (fun q3 h3 => ?_)
  have e3 : q3 = d := (gg_chk h3).2.trans x5
  subst e3
  refine p2_bl (fun r3 hr3 => ?_)
  have R3 := ((s_houseClear hk R).po r3 hr3).2.2.2.1
  obtain ⟨F3, A3, rfl, z13, z14, z15, z16, z17, f3, a3⟩ := hcl_po r3 hr3
  dsimp only at R3 ⊢
  refine p2_bl (fun q9 h9 => ?_)
  have e9 : q9 = 3 := (gg_chk h9).2.trans x6
  subst e9
  refine p2_bl (fun r4 hr4 => ?_)
  have R4 := ((s_clear (r0 := 3) (by decide) R3).po r4 hr4).2.2.2.1
  obtain ⟨F4, A4, rfl, f4, a4⟩ := scl_po r4 hr4
  dsimp only at R4 ⊢
  refine p2_bl (fun F5 e5 => p2_bl (fun F6 e6 => p2_bl (fun F7 e7 => p2_bl (fun F8 e8 => p2_bl (fun F9 e9 => ?_)))))
  have u5 := gg_cpf e5
  have u6 := gg_cpf e6
  have u7 := gg_cpf e7
  have u8 := gg_cpf e8
  have u9 := gg_cpf e9
  have f37 : ∀ r k, r ≠ 37 → F9 r k = F4 r k := fun r k h => by rw [u9.2 r k (fun e => h e.1), u8.2 r k (fun e => h e.1), u7.2 r k (fun e => h e.1), u6.2 r k (fun e => h e.1), u5.2 r k (fun e => h e.1)]
  have w7 : F9 37 7 = 0 := by rw [u9.2 37 7 (by decide), u8.2 37 7 (by decide), u7.2 37 7 (by decide), u6.2 37 7 (by decide), u5.1]
  have w9 : F9 37 9 = 0 := by rw [u9.2 37 9 (by decide), u8.2 37 9 (by decide), u7.1]
  have w10 : F9 37 10 = 0 := by rw [u9.2 37 10 (by decide), u8.1]
  have w12 : F9 37 12 = 0 := u9.1
  have wd : ∀ k, F9 q3 k = F3 q3 k := fun k => by rw [f37 q3 k hd, f4 q3 k hd3]
  have w11 : F9 1 1 = F 1 1 := by rw [f37 1 1 (by decide), f4 1 1 (by decide), f3 1 1 (Ne.symm hd1)]
  have b11 : A4 1 1 = A 1 1 := by rw [a4 1 1 (by decide), a3 1 1 (Ne.symm hd1)]
  have eta : ((e_Scanner_scanAll n P2 F9 A4 J).bind fun (x : cR Unit) => match x with | (_, P21, F22, A23, J24) => some ((), P21, F22, A23, J24)) = e_Scanner_scanAll n P2 F9 A4 J := by
    cases e_Scanner_scanAll n P2 F9 A4 J with
    | none => rfl
    | some r => rfl
  rw [eta]
  unfold e_Scanner_scanAll
  refine p2_bl (fun F10 e10 => ?_)
  have u10 := gg_cpf e10
  refine p2_br (fun Fm1 m1 => ?_)
  have v1 := gg_pf m1
  have e4 : Fm1 4 = Fm 4 := v1.2 4 (by decide)
  have S0 : SC JW JK 0 0 F10 A4 J Fm1 Am Jm := by
    refine ⟨by rw [u10.2 1 1 (by decide), w11, e4]; exact sz, by rw [e4]; exact s0, by rw [e4]; exact s1, fun i hi => ?_, by rw [u10.1]; decide, by decide, by rw [e4]; exact s0, by rw [v1.1]; decide, jw, jk, fun j hj => absurd hj (by omega), fun j hj => absurd hj (by omega), fun j hj => absurd hj (by omega)⟩
    rw [e4] at hi
    rw [b11]
    exact bt i hi
  have R9 : Rc F9 A4 := ((((R4.pf u5 (show 0 ≤ (0 : Int32).toInt ∧ (0 : Int32).toInt ≤ 400 by decide)).pf u6 (show 0 ≤ (0 : Int32).toInt ∧ (0 : Int32).toInt ≤ 400 by decide)).pf u7 (show 0 ≤ (0 : Int32).toInt ∧ (0 : Int32).toInt ≤ 8 by decide)).pf u8 trivial).pf u9 trivial
  have R10 : Rc F10 A4 := R9.pf u10 (show 0 ≤ (0 : Int32).toInt ∧ (0 : Int32).toInt ≤ 2000 by decide)
  refine p2_mono (p2_okl (s_scanAll_9 R10 (by decide) (by rw [i_0]; omega)) (p2_scan hW S0 (by omega) (by decide) (by decide))) (fun a b h => ⟨h.1, ?_⟩)
  obtain ⟨-, fr, -, -⟩ := h.2
  have g : ∀ r k, ¬ (r = 37 ∧ k = 105) → a.2.2.1 r k = F9 r k := fun r k hh => (fr r k hh).trans (u10.2 r k hh)
  refine ⟨by rw [g 37 7 (by decide), w7], by rw [g 37 9 (by decide), w9], by rw [g 37 10 (by decide), w10], by rw [g 37 12 (by decide), w12], fun q hq => ?_, by rw [g q3 14 (fun e => hd e.1), wd, z14]⟩
  rw [g q3 (cq q) (fun e => hd e.1), wd]
  rcases (by omega : q = 0 ∨ q = 1 ∨ q = 2 ∨ q = 3) with h | h | h | h <;> subst h
  · exact z13
  · exact z15
  · exact z16
  · exact z17
end C7
