/-! task: the same answers -/
section H9fe
variable {n m : Nat} {P P' : Nat → Nat → Nat} {F F' : Nat → Nat → Int32} {A A' : Nat → Nat → Nat → Int32} {J : Nat → Nat → Nat → Int64} {Fm Fm' : Nat → Int32} {Am Am' : Nat → Nat → Int32} {Jm : Nat → Nat → Int64} {x1 x2 x3 : Int32}
/-- now, after the reference has taken it -/
theorem XR.take (X : XR P F A Fm Am) (cp : CPm 47 48 0 0 0 Am Am') : NHx (P 0 8) F A Fm Am' ∧ SBx True (P 0 8) 2 F A Am' 48 0 ∧ (F 2 7).toInt = ai Am' 48 78 ∧ (F 2 8).toInt = ai Am' 48 79 ∧ B7 (F 2 7) := by
  obtain ⟨N, -, Y, -, -⟩ := X
  have ct := N.ct
  have t47 : ∀ i, 0 ≤ i → i < 100 → ai Am' 48 i = ai Am 47 i := fun i i0 i1 => by
    have := cp.2.1 i i0 i1
    rw [Int.zero_add] at this
    exact this
  obtain ⟨s1, s2, s3, s4, s5, s6, s7⟩ := Y.1
  refine ⟨N.fr (fun _ => rfl) (fun _ _ => rfl) rfl (fun q _ _ => cp.1 q (by omega)), SBx.mk0 (fun k k0 k1 => ?_) (fun k k0 k1 => ?_) (fun k k0 k1 => ?_) (fun k k0 k1 => ?_), ?_, ?_, s7.1⟩
  · rw [t47 (6 + k) (by omega) (by omega)]
    exact s1 k k0 k1
  · rw [t47 k (by omega) (by omega)]
    exact s2 k k0 k1
  · rw [t47 (72 + k) (by omega) (by omega)]
    exact s3 k k0 k1
  · rw [t47 (42 + k) (by omega) (by omega), t47 (48 + k) (by omega) (by omega), t47 (54 + k) (by omega) (by omega), t47 (60 + k) (by omega) (by omega), t47 (66 + k) (by omega) (by omega)]
    have w := s4 k k0 k1
    exact ⟨w.1, w.2.1, w.2.2.1, fun _ => w.2.2.2⟩
  · rw [t47 78 (by decide) (by decide)]
    exact s5
  · rw [t47 79 (by decide) (by decide)]
    exact s6
theorem p2_task (X : XR P F A Fm Am) (S : SAm Fm Am) : P2 (e_SleepWork_task n P F A J x1 x2) (d_task m Fm Am Jm x1 x2) (fun a b => a = b.1) := by
  have ct := X.1.ct
  have hs := X.1.sd
  have ek : F (P 0 8) 16 = Am 19 (Fm 18).toInt.toNat := CX.tasks X.1.1
  unfold e_SleepWork_task d_task
  refine p2_r (v_dTask S) ?_
  intro w b
  rw [← ek] at b
  rcases b with ⟨rfl, p⟩ | ⟨rfl, p⟩
  · refine p2_cr (fun _ => ?_) (fun c => absurd c (by decide))
    refine p2_cl (fun c => ?_) (fun _ => ?_)
    · rw [i_lt, i_0] at c
      omega
    refine p2_bl (fun _ hk => ?_)
    obtain ⟨-, rfl⟩ := gg_chk hk
    refine p2_cl (fun _ => ?_) (fun c => ?_)
    · refine p2_r r_takes ?_
      rintro ⟨u, F4, A5, J6⟩ ⟨rfl, cp⟩
      dsimp only at cp ⊢
      obtain ⟨N, B, -, -, -⟩ := X.take cp
      refine p2_dd (fun _ => ?_) (fun _ => ?_)
      · refine p2_bl (fun _ hk => ?_)
        obtain ⟨-, rfl⟩ := gg_chk hk
        refine p2_bl (fun v6 h6 => p2_br (fun w6 k6 => p2_some (i_ext ?_)))
        show v6.toInt = w6.toInt
        rw [(gl h6).2.2, (gm k6).2.2, ix6 hs (by omega)]
        exact N.rm p.1 p.2
      refine p2_dd (fun _ => ?_) (fun _ => ?_)
      · refine p2_bl (fun _ hk => ?_)
        obtain ⟨-, rfl⟩ := gg_chk hk
        refine p2_bl (fun v6 h6 => p2_r (v_steps hs (by omega)) (fun w6 k6 => p2_some (i_ext ?_)))
        show v6.toInt = w6.toInt
        rw [(gl h6).2.2, k6]
        exact N.stp p.1 p.2
      refine p2_dd (fun _ => ?_) (fun _ => ?_)
      · refine p2_bl (fun v6 h6 => p2_br (fun w6 k6 => p2_some (i_ext ?_)))
        show v6.toInt = w6.toInt
        rw [(gl h6).2.2, (gm k6).2.2]
        exact (B.sf p.1 (by omega)).1
      refine p2_dd (fun _ => ?_) (fun _ => ?_)
      · refine p2_bl (fun _ hk => ?_)
        obtain ⟨-, rfl⟩ := gg_chk hk
        refine p2_call (p2_worth N (fun k k0 k1 => B.dn k0 k1) p.1 p.2 rfl rfl) ?_
        rintro v w e
        exact p2_some e
      refine p2_dd (fun _ => ?_) (fun _ => p2_some rfl)
      · refine p2_bl (fun _ hk => ?_)
        obtain ⟨-, rfl⟩ := gg_chk hk
        refine p2_call (p2_ended N B p.1 p.2 rfl rfl) ?_
        rintro v w ⟨rfl, -⟩
        cases g_cnd .eq v 0 with
        | true => exact p2_some rfl
        | false => exact p2_some rfl
    · rw [i_nlt] at c
      omega
  · refine p2_cr (fun c => absurd c (by decide)) (fun _ => ?_)
    refine p2_cl (fun _ => p2_some rfl) (fun c => ?_)
    rw [i_nlt, i_0] at c
    refine p2_bl (fun _ hk => ?_)
    obtain ⟨-, rfl⟩ := gg_chk hk
    refine p2_cl (fun c2 => ?_) (fun _ => p2_some rfl)
    rw [i_lt] at c2
    exact absurd ⟨c, c2⟩ p
end H9fe
