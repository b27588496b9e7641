/-! the law's walk out of the logical machine's answer -/
set_option maxHeartbeats 4000000 in
theorem k_whole {p : Program} {e : Env} {s : State} {m : MethodId} {below : List Frame} {meth : Method} {c : Code} (l : Launch) {b L : Nat} {xs : Nat → Int32} (C0 : lw_At p s m meth c b L xs) {fl lg : Nat → Nat} (hfl : ∀ i, fl (lg i) = i) {n d : Nat} {h' : gH} (hd : d ≤ 1300)
    (hex : g_exec (k_t xs L) k_tb lg k_df k_mt n d k_LAW 0 [(0, .float 0)] [] ((0, 0), fun _ => []) = some (some (.int 1), h')) (hc : h'.1.1 ≤ 600000) (hs : h'.1.2 ≤ 7302250) :
    W p l e room_1 s m #[Value.ref b] below meth c s.heap [] 0 0 (lw_Z below #[Value.ref b] s) (entryFrame m ([Value.ref b] : List Value).toArray 4) := by
  obtain ⟨hx, hb, hr, hml, hown, hts, hX, hbl, hlocks, hname, hgv⟩ := id C0
  have hgd : ∀ w ∈ lw_gd, w.before #[Value.ref b] s = true := fun w hw => hts w (k_tblOf hw)
  have hfc := flat_of_before _ hgv
  obtain ⟨D, hD⟩ := k_known hts
  obtain ⟨c0, k0, q0, f0, g0, e0⟩ := Cond.arrayClass_spec (hgd _ k_ac0)
  obtain ⟨c1, k1, q1, f1, g1, e1⟩ := Cond.arrayClass_spec (hgd _ k_ac1)
  obtain ⟨c2, k2, q2, f2, g2, e2⟩ := Cond.arrayClass_spec (hgd _ k_ac2)
  obtain ⟨c3, k3, q3, f3, g3, e3⟩ := Cond.arrayClass_spec (hgd _ k_ac3)
  have hAO : va_AO "SleepWork$State" s := va_AO.of (hts _ k_over)
  obtain ⟨q4, c4, k4, f4, -, g4, e4, f5⟩ := Cond.arrayOver_spec hAO
  obtain ⟨adK, adV, hV, hev⟩ := vk_Sof (args := #[Value.ref b]) (s := s) (N := 2) (tm := k_tm) (len := k_tb.map List.length) (byt := k_tb) (A := fun q => s.heap.size ≤ q) (by decide +kernel) (fun i hi => hfc _ (k_s1 i hi)) (fun i hi => hfc _ (k_s2 i hi)) (fun i hi => hfc _ (k_s3 i hi)) (fun i hi => hfc _ (k_s4 i hi)) (fun i hi j hj => hfc _ (k_s5 i hi j hj))
    (fun i j hi hj hij => by
      rcases (show i = 0 ∨ i = 1 by omega) with rfl | rfl <;> rcases (show j = 0 ∨ j = 1 by omega) with rfl | rfl
      · exact absurd rfl hij
      · exact Or.inl (hfc _ k_s6)
      · exact Or.inr (hfc _ k_s6)
      · exact absurd rfl hij) (fun a ha => Nat.not_le.mpr ha)
  have hZ : va_Z "java/lang/String" "COMPACT_STRINGS" "Z" (.int 1) (fun q => s.heap.size ≤ q) s s.heap := va_Zof (hts _ k_laysS) (hts _ k_iniS) (va_eqt (hfc _ k_s7)) (fun a ha => Nat.not_le.mpr ha)
  have hZq : ∃ u : Nat, va_Z "jdk/internal/util/Preconditions" "SIOOBE_FORMATTER" "Ljava/util/function/BiFunction;" (va_rf (match u with | 0 => none | a + 1 => some a)) (fun q => s.heap.size ≤ q) s s.heap := by
    rcases va_Zqof (hts _ k_laysF) (hts _ k_iniF) (hfc _ k_s8) (A := fun q => s.heap.size ≤ q) (fun a ha => Nat.not_le.mpr ha) with h | ⟨a, h⟩
    · exact ⟨0, h⟩
    · exact ⟨a + 1, h⟩
  obtain ⟨u, hZ2⟩ := hZq
  obtain ⟨cst, hcst⟩ : ∃ cst : Nat → Nat, cst 0 = b ∧ cst 1 = adK 0 ∧ cst 2 = adK 1 ∧ cst 3 = adV 0 ∧ cst 4 = adV 1 ∧ cst 1000 = u := ⟨fun j => if j = 1000 then u else match j with | 0 => b | 1 => adK 0 | 2 => adK 1 | 3 => adV 0 | _ => adV 1, rfl, rfl, rfl, rfl, rfl, rfl⟩
  obtain ⟨n0, n1, n2, n3, n4, n5⟩ := hcst
  obtain ⟨cA, hA⟩ : ∃ cA : Nat → ClassId, cA 0 = c0 ∧ cA 1 = c1 ∧ cA 2 = c2 ∧ cA 3 = c3 ∧ cA 4 = c4 := ⟨fun j => match j with | 0 => c0 | 1 => c1 | 2 => c2 | 3 => c3 | _ => c4, rfl, rfl, rfl, rfl, rfl⟩
  obtain ⟨a0, a1, a2, a3, a4⟩ := hA
  have hK : va_K D k_cl (g_tys cA "SleepWork$State") s := by
    refine ⟨hD, fun k q hq => ?_⟩
    match k, hq with
    | 0, hq => cases hq; rw [a0]; exact ⟨fun n z => ⟨fun k h => (by cases h), k0, g0, q0, e0⟩, f0⟩
    | 1, hq => cases hq; rw [a1]; exact ⟨fun n z => ⟨fun k h => (by cases h), k1, g1, q1, e1⟩, f1⟩
    | 2, hq => cases hq; rw [a2]; exact ⟨fun n z => ⟨fun k h => (by cases h), k2, g2, q2, e2⟩, f2⟩
    | 3, hq => cases hq; rw [a3]; exact ⟨fun n z => ⟨fun k h => (by cases h), k3, g3, q3, e3⟩, f3⟩
    | 4, hq => cases hq; rw [a4]; exact ⟨fun n z => ⟨fun k h => (by cases h), k4, g4, q4, e4⟩, k4, q4, g4, e4, f4, f5⟩
    | k + 5, hq => simp [g_tys] at hq
  have hTX : g_TX k_tb k_tn cst s.heap s := by
    refine ⟨fun j hj => ?_, ⟨fun i hi => ?_, fun i j hi hj hij => ?_⟩, hZ, by rw [n5]; exact hZ2⟩
    · have hj2 : j < 2 := hj
      have h1 := hev j hj2
      rcases (show j = 0 ∨ j = 1 by omega) with rfl | rfl
      · rw [n1]; exact vk_R.of (hts _ (k_strs 0 (by decide))) h1
      · rw [n2]; exact vk_R.of (hts _ (k_strs 1 (by decide))) h1
    · have hi2 : i < 2 := hi
      have h1 := hV.1 i hi2
      rcases (show i = 0 ∨ i = 1 by omega) with rfl | rfl
      · dsimp only; rw [show cst (0 + 1) = adK 0 from n1, show cst (0 + 1 + k_tb.length) = adV 0 from n3]; exact h1
      · dsimp only; rw [show cst (1 + 1) = adK 1 from n2, show cst (1 + 1 + k_tb.length) = adV 1 from n4]; exact h1
    · have hi2 : i < 2 := hi
      have hj2 : j < 2 := hj
      rcases (show i = 0 ∨ i = 1 by omega) with rfl | rfl <;> rcases (show j = 0 ∨ j = 1 by omega) with rfl | rfl
      · rfl
      · exact hV.2 0 1 (by decide) (by decide) (by rw [← n1, ← n2]; exact hij)
      · exact hV.2 1 0 (by decide) (by decide) (by rw [← n1, ← n2]; exact hij)
      · rfl
  have hKK : g_KK k_Ns D k_cl cA "SleepWork$State" (k_t xs L) k_tb k_tn cst s.heap s := ⟨hK, by rw [n0]; exact hX, hTX, hAO, fun q hq => va_Nw.of rfl (hts _ (k_nests q hq))⟩
  have hl := lv_entry ([.ref b]) (n := 4) (Nat.le_of_ble_eq_true rfl)
  rw [lg_entry_eq]
  generalize (lg_sl ([.ref b]) ++ List.replicate (4 - (lg_sl ([.ref b])).length) Slot.unset).toArray = ls at hl ⊢
  have hl : lv_has ls 4 (g_shl (fun j => s.heap.size + fl j) cst [(0, .float 0)]) := by
    show lv_has ls 4 [(0, .ref (cst 0))]
    rw [n0]
    exact hl
  have hHH : g_HH D k_cl (g_tys cA "SleepWork$State") fl lg cst s.heap ((0, 0), fun _ => []) s.heap := ⟨rfl, fun _ _ => rfl, fun k e hk => by simp [g_get] at hk⟩
  refine g_sim (k_OK xs L hfl) (by rw [n0]; exact hbl) l n d k_LAW 0 [(0, .float 0)] [] ((0, 0), fun _ => []) (some (.int 1)) h' hex (R := room_1) (locs := []) (cells := 0) (slots := 0) h'.1.1 h'.1.2 hx hb hml hown hname hgd hKK hHH hl (fun q hq => by cases hq) (by show d + 1 ≤ 2048; omega) (by show 64 * (d + 1) ≤ 84000; omega) (by show 0 + h'.1.1 = h'.1.1 + 0; omega) (by show 0 + h'.1.2 = h'.1.2 + 0; omega) hc hs ?_
  intro pc I len ls st H2 locs2 r1 r2 r3 r4 r5
  refine va_forget r5 (W.widen hc hs ?_)
  have r3 : g_ret (some .boolean) I st = some (some (.int 1)) := r3
  unfold g_ret at r3
  split at r3
  · have hlen : len = 1 := r2.resolve_left (fun h => by cases h)
    subst hlen
    split at r3
    next ty x heq =>
      split at r3
      next => cases r3; exact lw_ret hx hb hr hlocks (by rw [← hb]; exact r1)
      next => cases r3
    next => cases r3
  · split at r3
    next heq => cases r3
    next => cases r3
  · split at r3
    next heq => cases heq
    next => cases r3
  · cases r3
