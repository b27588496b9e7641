/-! rows of running: one instruction each that may fail, or branches -/
section KW
variable {t : gT} {lg : Nat → Nat} {d M pc : Nat} {loc : List (Nat × Value)} {st : List Value} {h : gH} {z : Option Value × gH} {r : List Nat}
theorem k_runS {I : Instr} {pc' : Nat} {loc' : List (Nat × Value)} {st' : List Value} {h' : gH} (hI : (k_mt M).2 pc = some (I, r)) (hs : g_step t k_tb lg k_df (k_mt M).1.2.2.1 I r pc loc st h = some (pc', loc', st', h')) (hr : k_run t lg d M pc' loc' st' h' z) : k_run t lg d M pc loc st h z := by
  obtain ⟨n, hn⟩ := hr
  refine ⟨n + 1, ?_⟩
  unfold g_exec
  rw [hI]
  dsimp only
  rw [hs]
  exact hn
theorem k_memS {I : Instr} {st' : List Value} {h' : gH} (hI : (k_mt M).2 pc = some (I, r)) (h1 : g_pure I st = none) (h2 : g_loc (k_mt M).1.2.2.1 I loc st = none) (h3 : g_br I r pc st = none) (hm : g_mem t I r st h = some (st', h')) (hr : k_run t lg d M (pc + g_len I) loc st' h' z) : k_run t lg d M pc loc st h z := by
  refine k_runS hI ?_ hr
  unfold g_step
  rw [h1, h2, h3, hm]
theorem k_iald {a n : Nat} {f : Nat → Int32} {i : Int32} (hI : (k_mt M).2 pc = some (.iaload, r)) (hg : g_get h a = some (.inl (0, n, .inl f))) (hin : ¬ (i < 0 ∨ n ≤ i.toNatClampNeg)) (hr : k_run t lg d M (pc + 1) loc (.int (f i.toNatClampNeg) :: st) h z) : k_run t lg d M pc loc (.int i :: .ref a :: st) h z := by
  refine k_memS hI rfl rfl rfl ?_ hr
  unfold g_mem
  simp only [hg]
  rw [if_neg hin]
theorem k_bald {a n : Nat} {f : Nat → Int32} {i : Int32} (hI : (k_mt M).2 pc = some (.baload, r)) (hg : g_get h a = some (.inl (1, n, .inl f))) (hin : ¬ (i < 0 ∨ n ≤ i.toNatClampNeg)) (hr : k_run t lg d M (pc + 1) loc (.int (f i.toNatClampNeg) :: st) h z) : k_run t lg d M pc loc (.int i :: .ref a :: st) h z := by
  refine k_memS hI rfl rfl rfl ?_ hr
  unfold g_mem
  simp only [hg]
  rw [if_neg hin]
theorem k_zald {a n : Nat} {f : Nat → Int32} {i : Int32} (hI : (k_mt M).2 pc = some (.baload, r)) (hg : g_get h a = some (.inl (2, n, .inl f))) (hin : ¬ (i < 0 ∨ n ≤ i.toNatClampNeg)) (hr : k_run t lg d M (pc + 1) loc (.int (f i.toNatClampNeg) :: st) h z) : k_run t lg d M pc loc (.int i :: .ref a :: st) h z := by
  refine k_memS hI rfl rfl rfl ?_ hr
  unfold g_mem
  simp only [hg]
  rw [if_neg hin]
theorem k_lald {a n : Nat} {f : Nat → Int64} {i : Int32} (hI : (k_mt M).2 pc = some (.laload, r)) (hg : g_get h a = some (.inl (3, n, .inr (.inl f)))) (hin : ¬ (i < 0 ∨ n ≤ i.toNatClampNeg)) (hr : k_run t lg d M (pc + 1) loc (.long (f i.toNatClampNeg) :: st) h z) : k_run t lg d M pc loc (.int i :: .ref a :: st) h z := by
  refine k_memS hI rfl rfl rfl ?_ hr
  unfold g_mem
  simp only [hg]
  rw [if_neg hin]
theorem k_iast {a n : Nat} {f : Nat → Int32} {i x : Int32} (hI : (k_mt M).2 pc = some (.iastore, r)) (hg : g_get h a = some (.inl (0, n, .inl f))) (hin : ¬ (i < 0 ∨ n ≤ i.toNatClampNeg)) {h' : gH} (hh : g_set h a (.inl (0, n, .inl (upd f i.toNatClampNeg x))) = h') (hr : k_run t lg d M (pc + 1) loc st h' z) : k_run t lg d M pc loc (.int x :: .int i :: .ref a :: st) h z := by
  subst hh
  refine k_memS hI rfl rfl rfl ?_ hr
  unfold g_mem
  simp only [hg]
  rw [if_neg hin]
theorem k_bast {a n : Nat} {f : Nat → Int32} {i x : Int32} (hI : (k_mt M).2 pc = some (.bastore, r)) (hg : g_get h a = some (.inl (1, n, .inl f))) (hin : ¬ (i < 0 ∨ n ≤ i.toNatClampNeg)) {h' : gH} (hh : g_set h a (.inl (1, n, .inl (upd f i.toNatClampNeg (vp_nar .byte x)))) = h') (hr : k_run t lg d M (pc + 1) loc st h' z) : k_run t lg d M pc loc (.int x :: .int i :: .ref a :: st) h z := by
  subst hh
  refine k_memS hI rfl rfl rfl ?_ hr
  unfold g_mem
  simp only [hg]
  rw [if_neg hin]
theorem k_zast {a n : Nat} {f : Nat → Int32} {i x : Int32} (hI : (k_mt M).2 pc = some (.bastore, r)) (hg : g_get h a = some (.inl (2, n, .inl f))) (hin : ¬ (i < 0 ∨ n ≤ i.toNatClampNeg)) {h' : gH} (hh : g_set h a (.inl (2, n, .inl (upd f i.toNatClampNeg (vp_nar .boolean x)))) = h') (hr : k_run t lg d M (pc + 1) loc st h' z) : k_run t lg d M pc loc (.int x :: .int i :: .ref a :: st) h z := by
  subst hh
  refine k_memS hI rfl rfl rfl ?_ hr
  unfold g_mem
  simp only [hg]
  rw [if_neg hin]
theorem k_last {a n : Nat} {f : Nat → Int64} {i : Int32} {x : Int64} (hI : (k_mt M).2 pc = some (.lastore, r)) (hg : g_get h a = some (.inl (3, n, .inr (.inl f)))) (hin : ¬ (i < 0 ∨ n ≤ i.toNatClampNeg)) {h' : gH} (hh : g_set h a (.inl (3, n, .inr (.inl (vp_updL f i.toNatClampNeg x)))) = h') (hr : k_run t lg d M (pc + 1) loc st h' z) : k_run t lg d M pc loc (.long x :: .int i :: .ref a :: st) h z := by
  subst hh
  refine k_memS hI rfl rfl rfl ?_ hr
  unfold g_mem
  simp only [hg]
  rw [if_neg hin]
theorem k_idiv {x y : Int32} (hI : (k_mt M).2 pc = some (.idiv, r)) (hy : ¬ y = 0) (hr : k_run t lg d M (pc + 1) loc (.int (x / y) :: st) h z) : k_run t lg d M pc loc (.int y :: .int x :: st) h z := by
  refine k_runS hI ?_ hr
  have : g_pure .idiv (.int y :: .int x :: st) = some (.int (x / y) :: st) := by
    unfold g_pure
    simp only
    rw [if_neg hy]
  unfold g_step
  rw [this]
  rfl
theorem k_irem {x y : Int32} (hI : (k_mt M).2 pc = some (.irem, r)) (hy : ¬ y = 0) (hr : k_run t lg d M (pc + 1) loc (.int (x - x / y * y) :: st) h z) : k_run t lg d M pc loc (.int y :: .int x :: st) h z := by
  refine k_runS hI ?_ hr
  have : g_pure .irem (.int y :: .int x :: st) = some (.int (x - x / y * y) :: st) := by
    unfold g_pure
    simp only
    rw [if_neg hy]
  unfold g_step
  rw [this]
  rfl
theorem k_if {cd : Jvm.ClassFile.Cond} {off : Int} {tgt : Nat} {x : Int32} (hI : (k_mt M).2 pc = some (.ifCond cd off, [tgt])) (ht : g_cnd cd x 0 = true → k_run t lg d M tgt loc st h z) (hf : g_cnd cd x 0 = false → k_run t lg d M (pc + 3) loc st h z) : k_run t lg d M pc loc (.int x :: st) h z := by
  cases hc : g_cnd cd x 0 with
  | true =>
    refine k_runS hI ?_ (ht hc)
    show some (if g_cnd cd x 0 = true then tgt else pc + 3, loc, st, h) = _
    rw [hc]
    rfl
  | false =>
    refine k_runS hI ?_ (hf hc)
    show some (if g_cnd cd x 0 = true then tgt else pc + 3, loc, st, h) = _
    rw [hc]
    rfl
theorem k_ic {cd : Jvm.ClassFile.Cond} {off : Int} {tgt : Nat} {x y : Int32} (hI : (k_mt M).2 pc = some (.if_icmp cd off, [tgt])) (ht : g_cnd cd x y = true → k_run t lg d M tgt loc st h z) (hf : g_cnd cd x y = false → k_run t lg d M (pc + 3) loc st h z) : k_run t lg d M pc loc (.int y :: .int x :: st) h z := by
  cases hc : g_cnd cd x y with
  | true =>
    refine k_runS hI ?_ (ht hc)
    show some (if g_cnd cd x y = true then tgt else pc + 3, loc, st, h) = _
    rw [hc]
    rfl
  | false =>
    refine k_runS hI ?_ (hf hc)
    show some (if g_cnd cd x y = true then tgt else pc + 3, loc, st, h) = _
    rw [hc]
    rfl
theorem k_to {z' : Option Value × gH} (hz : z' = z) (hr : k_run t lg d M pc loc st h z') : k_run t lg d M pc loc st h z := hz ▸ hr
theorem k_iret {v : Int32} (hI : (k_mt M).2 pc = some (.ireturn, r)) (ht : (k_mt M).1.2.2.2 = some .int) : k_run t lg d M pc loc [.int v] h (some (.int v), h) := by
  refine k_runR hI rfl ?_
  rw [ht]
  unfold g_ret
  simp only
  rw [if_pos (vp_nar_int v)]
theorem k_zret {v : Int32} (hI : (k_mt M).2 pc = some (.ireturn, r)) (ht : (k_mt M).1.2.2.2 = some .boolean) (hv : v = 0 ∨ v = 1) : k_run t lg d M pc loc [.int v] h (some (.int v), h) := by
  refine k_runR hI rfl ?_
  rw [ht]
  unfold g_ret
  simp only
  rw [if_pos (by rcases hv with rfl | rfl <;> decide)]
theorem k_lret {v : Int64} (hI : (k_mt M).2 pc = some (.lreturn, r)) (ht : (k_mt M).1.2.2.2 = some .long) : k_run t lg d M pc loc [.long v] h (some (.long v), h) := by
  refine k_runR hI rfl ?_
  rw [ht]
  rfl
theorem k_vret (hI : (k_mt M).2 pc = some (.return_, r)) (ht : (k_mt M).1.2.2.2 = none) : k_run t lg d M pc loc [] h (none, h) := by
  refine k_runR hI rfl ?_
  rw [ht]
  rfl
/-- a store into a field -/
theorem k_put {ix ci k a : Nat} {v : Value} {fs : List Value} {h' : gH} (hI : (k_mt M).2 pc = some (.putfield ix, [ci, k])) (hg : g_get h a = some (.inr (ci, fs))) (hk : k < fs.length) (hf : g_fit (t.1 ci k) v = true) (hh : g_set h a (.inr (ci, fs.set k v)) = h') (hr : k_run t lg d M (pc + 3) loc st h' z) : k_run t lg d M pc loc (v :: .ref a :: st) h z := by
  subst hh
  refine k_memS hI rfl rfl rfl ?_ hr
  unfold g_mem
  simp only [hg]
  rw [if_pos ⟨trivial, hk, hf⟩]
/-- a switch -/
theorem k_tab {dd lo hi : Int} {offs : Array Int} {x : Int32} {tgt : Nat} (hI : (k_mt M).2 pc = some (.tableswitch dd lo hi offs, r)) (hs : (if x.toInt < lo ∨ hi < x.toInt then r[0]? else r[(x.toInt - lo).toNat + 1]?) = some tgt) (hr : k_run t lg d M tgt loc st h z) : k_run t lg d M pc loc (.int x :: st) h z := by
  refine k_runS hI ?_ hr
  have hb : g_br (.tableswitch dd lo hi offs) r pc (.int x :: st) = some (tgt, st) := by
    unfold g_br
    simp only
    split at hs
    next hc => rw [if_pos hc, hs]; rfl
    next hc => rw [if_neg hc, hs]; rfl
  unfold g_step
  rw [show g_pure (.tableswitch dd lo hi offs) (.int x :: st) = none from rfl, show g_loc (k_mt M).1.2.2.1 (.tableswitch dd lo hi offs) loc (.int x :: st) = none from rfl, hb]
end KW
