section B9
variable {T : TS} {d : Nat} {l s : Int} {P : Nat → Nat → Nat} {F0 : Nat → Nat → Int32} {A0 : Nat → Nat → Nat → Int32} {Fm0 : Nat → Int32} {Am0 : Nat → Nat → Int32}
/-- with a fault of form both come to their ends -/
theorem q_loop_ff {n m : Nat} {F : Nat → Nat → Int32} {A : Nat → Nat → Nat → Int32} {J : Nat → Nat → Nat → Int64} {Fm : Nat → Int32} {Am : Nat → Nat → Int32} {Jm : Nat → Nat → Int64} {x4 : Int32} (E : FE F Fm) (D : RDm l s Fm0 Fm Am0 Am) (hm : 402 ≤ m) : P2 (e_Reader_readText_10 n P F A J x4) (d_read_219 m Fm Am Jm) (RQ d l Fm0 Am0) := by
  have c : po (e_Reader_readText_10 n P F A J x4) (fun a => a.1 = F 37 10) := by
    have z : ∀ n, po (e_Reader_readText_171 n P F A J) (fun a => a.1 = F 37 10) := by
      intro n
      unfold e_Reader_readText_171
      rw [i_ne.mpr (by rw [i_0]; exact E.c), cond_true]
      exact po_some rfl
    cases n with
    | zero => intro r hr; cases hr
    | succ n =>
      rw [text_g]
      refine po_cond (fun _ => z n) (fun _ => ?_)
      rw [i_ne.mpr (by rw [i_0]; exact E.c), cond_true]
      exact z n
  have r : po (d_read_219 m Fm Am Jm) (R2m Fm Am) := by
    cases m with
    | zero => intro r hr; cases hr
    | succ m =>
      unfold d_read_219
      rw [E.nz, cond_true]
      exact r241 D (by omega)
  refine p2_of c r ?_
  intro a b ha hb
  have g := E.gg
  obtain ⟨-, hb⟩ := hb
  rcases hb with ⟨-, h1, h2, h3⟩ | ⟨h, -⟩ | ⟨h, -⟩
  · refine ⟨by rw [ha, h1]; exact E.1, fun h => ?_, fun _ => D.ff h2 h3⟩
    rw [ha] at h
    exact absurd h E.c
  · omega
  · omega
/-- all sentences of a text -/
theorem q_loop (K : TKs T) (h5 : P 37 5 = d) (h6 : P 37 6 = 3) (hk : c_kind d = 6) (hs : 0 ≤ s ∧ s ≤ 1 ∧ s = 1 - l) : ∀ {n m : Nat} {F : Nat → Nat → Int32} {A : Nat → Nat → Nat → Int32} {J : Nat → Nat → Nat → Int64} {Fm : Nat → Int32} {Am : Nat → Nat → Int32} {Jm : Nat → Nat → Int64} {x4 : Int32}, RT T F Fm → RX T A J Am Jm → RH d F A J Fm Am Jm → RW d F A Fm Am → RL (Fm 19).toInt d F A Fm Am → RVc d F0 F A0 A → RDm l s Fm0 Fm Am0 Am → 0 ≤ x4.toInt → x4.toInt ≤ (Fm 11).toInt → 1002 - x4.toInt < (n : Int) → 1502 - (Fm 11).toInt < (m : Int) → P2 (e_Reader_readText_10 n P F A J x4) (d_read_219 m Fm Am Jm) (RQ d l Fm0 Am0) := by
  have hd := kd37 hk
  intro n
  induction n with
  | zero => intro m F A J Fm Am Jm x4 _ _ _ _ _ _ _ _ _ _ _ a b ha _; cases ha
  | succ n ih =>
    intro m F A J Fm Am Jm x4 R X H W L V D x0 xt hn hm
    have t0 := R.t0
    have t1 := R.t1
    have l1 := i_1
    have l400 := i_400
    cases m with
    | zero => intro a b _ hb; cases hb
    | succ m =>
      rw [text_g]
      unfold d_read_219
      rw [i_ngt.mpr (by rw [l400]; omega), cond_false, i_nne.mpr (by rw [R.f0]; rfl), cond_false, R.nz, cond_false]
      refine p2_next K R X (k' := 0) (by decide) (fun _ => ?_) (fun _ => ?_)
      · rw [i_ne.mpr (by decide), cond_true, cond_true]
        exact q_end R H W L hd D (by omega)
      · rw [i_nne.mpr rfl, cond_false, cond_false]
        refine p2_call (p2_okr (s_d_tell0 hs D R.g0 (by omega)) (q_sent K R X H W L ⟨(D.1 56 : 0 ≤ (Fm 56).toInt ∧ (Fm 56).toInt ≤ 840).1, (D.1 49 : 0 ≤ (Fm 49).toInt ∧ (Fm 49).toInt ≤ 100).1⟩ h5 h6 hk V (by omega))) ?_
        rintro ⟨u, P1, F1, A1, J1⟩ ⟨u', Fm1, Am1, Jm1⟩ ⟨⟨rs, rx⟩, t0m⟩
        obtain ⟨rfl, V1⟩ := rx
        obtain ⟨D1, pr⟩ := t0m
        dsimp only at rs V1 D1 pr ⊢
        rcases rs with E | ⟨R1, X1, H1, W1, L1⟩
        · exact q_loop_ff E D1 (by omega)
        · dsimp only at R1 X1 H1 W1 L1
          have g1 := R1.g0
          have r1 := R1.t1
          have e1 := i_add (x := x4) (y := 1) (by omega) (by omega)
          exact ih R1 X1 H1 W1 L1 V1 D1 (by omega) (by omega) (by omega) (by omega)
end B9
