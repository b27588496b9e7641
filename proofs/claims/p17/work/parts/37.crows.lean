/-! rows of running over the class's heap -/
def c_chk (K q : Nat) : Option Nat := if c_kind q = K then some q else none
theorem c_chk_ok {K q v : Nat} (h : c_chk K q = some v) : c_kind v = K ∧ q = v := by
  unfold c_chk at h
  split at h
  next hc => cases h; exact ⟨hc, rfl⟩
  · cases h
def c_st (A : Nat → Nat → Nat → Int32) (r o n : Nat) (i x : Int32) : Option (Nat → Nat → Nat → Int32) := if i < 0 ∨ n ≤ i.toNatClampNeg then none else some (va_up A r (va_up (A r) o (upd (A r o) i.toNatClampNeg x)))
def c_stJ (J : Nat → Nat → Nat → Int64) (r o n : Nat) (i : Int32) (x : Int64) : Option (Nat → Nat → Nat → Int64) := if i < 0 ∨ n ≤ i.toNatClampNeg then none else some (va_up J r (va_up (J r) o (vp_updL (J r o) i.toNatClampNeg x)))
def c_pf (F : Nat → Nat → Int32) (r k : Nat) (x : Int32) : Option (Nat → Nat → Int32) := some (va_up F r (upd (F r) k x))
def c_pp (P : Nat → Nat → Nat) (r k q : Nat) : Option (Nat → Nat → Nat) := some (va_up P r (va_up (P r) k q))
def c_cp (A : Nat → Nat → Nat → Int32) (r o q k n : Nat) : Option (Nat → Nat → Nat → Int32) := some (va_up A q (va_up (A q) k (va_cpy (A r o) (A q k) 0 0 n)))
theorem c_st_ok {A A' : Nat → Nat → Nat → Int32} {r o n : Nat} {i x : Int32} (h : c_st A r o n i x = some A') : ¬ (i < 0 ∨ n ≤ i.toNatClampNeg) ∧ va_up A r (va_up (A r) o (upd (A r o) i.toNatClampNeg x)) = A' := by
  unfold c_st at h
  split at h
  · cases h
  next hc => exact ⟨hc, Option.some.inj h⟩
theorem c_stJ_ok {J J' : Nat → Nat → Nat → Int64} {r o n : Nat} {i : Int32} {x : Int64} (h : c_stJ J r o n i x = some J') : ¬ (i < 0 ∨ n ≤ i.toNatClampNeg) ∧ va_up J r (va_up (J r) o (vp_updL (J r o) i.toNatClampNeg x)) = J' := by
  unfold c_stJ at h
  split at h
  · cases h
  next hc => exact ⟨hc, Option.some.inj h⟩
theorem c_up_same {α : Type} (f : Nat → α) (k : Nat) (v : α) : va_up f k v k = v := if_pos rfl
theorem c_up_ne {α : Type} {f : Nat → α} {k j : Nat} {v : α} (h : j ≠ k) : va_up f k v j = f j := if_neg h
section KC
variable {t : gT} {lg : Nat → Nat} {d M pc : Nat} {loc : List (Nat × Value)} {st : List Value} {z : Option Value × gH} {R : List Nat}
variable {c : Nat × Nat} {B : Nat → List gE} {P P' : Nat → Nat → Nat} {F F' : Nat → Nat → Int32} {A A' : Nat → Nat → Nat → Int32} {J J' : Nat → Nat → Nat → Int64}
/-- a field -/
theorem k_gf (r o : Nat) {K a ix ci k : Nat} {v : Value} {fs : List Value} (hk : c_kind r = K) (hI : (k_mt M).2 pc = some (.getfield ix, [ci, k])) (ha : r * 1024 + o = a) (hg : (c_lay K r (P r) (F r) (A r) (J r) (B r))[o]? = some (.inr (ci, fs))) (hv : fs[k]? = some v) (hr : k_run t lg d M (pc + 3) loc (v :: st) (c_h c B P F A J) z) (ho : o < 1024 := by decide) : k_run t lg d M pc loc (.ref a :: st) (c_h c B P F A J) z := by
  subst ha
  refine k_memS hI rfl rfl rfl ?_ hr
  unfold g_mem
  simp only [c_get (c := c) (B := B) (P := P) (F := F) (A := A) (J := J) hk ho, hg]
  rw [if_pos trivial, hv]
  rfl
/-- a field that holds an object of a kind -/
theorem k_gq (r o : Nat) {K K2 a ix ci k key q : Nat} {fs : List Value} (hk : c_kind r = K) (hI : (k_mt M).2 pc = some (.getfield ix, [ci, k])) (ha : r * 1024 + o = a) (hg : (c_lay K r (P r) (F r) (A r) (J r) (B r))[o]? = some (.inr (ci, fs))) (hv : fs[k]? = some (.ref (P r key * 1024))) (hq : c_chk K2 (P r key) = some q) (hr : c_kind q = K2 → k_run t lg d M (pc + 3) loc (.ref (q * 1024) :: st) (c_h c B P F A J) z) (ho : o < 1024 := by decide) : k_run t lg d M pc loc (.ref a :: st) (c_h c B P F A J) z := by
  obtain ⟨h1, rfl⟩ := c_chk_ok hq
  exact k_gf r o hk hI ha hg hv (hr h1) ho
theorem k_cstI (r o : Nat) {K a n : Nat} {i x : Int32} (hk : c_kind r = K) (hI : (k_mt M).2 pc = some (.iastore, R)) (ha : r * 1024 + o = a) (hg : (c_lay K r (P r) (F r) (A r) (J r) (B r))[o]? = some (.inl (0, n, .inl (A r o)))) (hs : ∀ g, (c_lay K r (P r) (F r) (A r) (J r) (B r)).set o (.inl (0, n, .inl g)) = c_lay K r (P r) (F r) (va_up (A r) o g) (J r) (B r)) (hv : c_st A r o n i x = some A') (hr : k_run t lg d M (pc + 1) loc st (c_h c B P F A' J) z) (ho : o < 1024 := by decide) : k_run t lg d M pc loc (.int x :: .int i :: .ref a :: st) (c_h c B P F A J) z := by
  subst ha
  obtain ⟨h1, rfl⟩ := c_st_ok hv
  exact k_iast hI ((c_get hk ho).trans hg) h1 (c_set hk ho (by rw [c_up_same]; exact hs _) (fun q hq => ⟨rfl, rfl, c_up_ne hq, rfl⟩)) hr
theorem k_cstB (r o : Nat) {K a n : Nat} {i x : Int32} (hk : c_kind r = K) (hI : (k_mt M).2 pc = some (.bastore, R)) (ha : r * 1024 + o = a) (hg : (c_lay K r (P r) (F r) (A r) (J r) (B r))[o]? = some (.inl (1, n, .inl (A r o)))) (hs : ∀ g, (c_lay K r (P r) (F r) (A r) (J r) (B r)).set o (.inl (1, n, .inl g)) = c_lay K r (P r) (F r) (va_up (A r) o g) (J r) (B r)) (hv : c_st A r o n i (vp_nar .byte x) = some A') (hr : k_run t lg d M (pc + 1) loc st (c_h c B P F A' J) z) (ho : o < 1024 := by decide) : k_run t lg d M pc loc (.int x :: .int i :: .ref a :: st) (c_h c B P F A J) z := by
  subst ha
  obtain ⟨h1, rfl⟩ := c_st_ok hv
  exact k_bast hI ((c_get hk ho).trans hg) h1 (c_set hk ho (by rw [c_up_same]; exact hs _) (fun q hq => ⟨rfl, rfl, c_up_ne hq, rfl⟩)) hr
theorem k_cstL (r o : Nat) {K a n : Nat} {i : Int32} {x : Int64} (hk : c_kind r = K) (hI : (k_mt M).2 pc = some (.lastore, R)) (ha : r * 1024 + o = a) (hg : (c_lay K r (P r) (F r) (A r) (J r) (B r))[o]? = some (.inl (3, n, .inr (.inl (J r o))))) (hs : ∀ g, (c_lay K r (P r) (F r) (A r) (J r) (B r)).set o (.inl (3, n, .inr (.inl g))) = c_lay K r (P r) (F r) (A r) (va_up (J r) o g) (B r)) (hv : c_stJ J r o n i x = some J') (hr : k_run t lg d M (pc + 1) loc st (c_h c B P F A J') z) (ho : o < 1024 := by decide) : k_run t lg d M pc loc (.long x :: .int i :: .ref a :: st) (c_h c B P F A J) z := by
  subst ha
  obtain ⟨h1, rfl⟩ := c_stJ_ok hv
  exact k_last hI ((c_get hk ho).trans hg) h1 (c_set hk ho (by rw [c_up_same]; exact hs _) (fun q hq => ⟨rfl, rfl, rfl, c_up_ne hq⟩)) hr
theorem k_cpt (r o : Nat) {K a ix ci k key : Nat} {x : Int32} {fs : List Value} (hk : c_kind r = K) (hI : (k_mt M).2 pc = some (.putfield ix, [ci, k])) (ht : t.1 ci k = k_ty ci k) (ha : r * 1024 + o = a) (hg : ((c_lay K r (P r) (F r) (A r) (J r) (B r))[o]?, (c_lay K r (P r) (F r) (A r) (J r) (B r)).set o (.inr (ci, fs.set k (.int x)))) = (some (.inr (ci, fs)), c_lay K r (P r) (upd (F r) key x) (A r) (J r) (B r))) (hl : (k_ty ci k, decide (k < fs.length)) = (.int, true)) (hv : c_pf F r key x = some F') (hr : k_run t lg d M (pc + 3) loc st (c_h c B P F' A J) z) (ho : o < 1024 := by decide) : k_run t lg d M pc loc (.int x :: .ref a :: st) (c_h c B P F A J) z := by
  subst ha
  cases hv
  obtain ⟨h1, h2⟩ := Prod.mk.inj hg
  obtain ⟨h3, h4⟩ := Prod.mk.inj hl
  exact k_put hI ((c_get hk ho).trans h1) (of_decide_eq_true h4) (by rw [ht, h3]; rfl) (c_set hk ho (by rw [c_up_same]; exact h2) (fun q hq => ⟨rfl, c_up_ne hq, rfl, rfl⟩)) hr
theorem k_cpp (r o : Nat) {K a ix ci k key q : Nat} {C : String} {fs : List Value} (hk : c_kind r = K) (hI : (k_mt M).2 pc = some (.putfield ix, [ci, k])) (ht : t.1 ci k = k_ty ci k) (ha : r * 1024 + o = a) (hg : ((c_lay K r (P r) (F r) (A r) (J r) (B r))[o]?, (c_lay K r (P r) (F r) (A r) (J r) (B r)).set o (.inr (ci, fs.set k (.ref (q * 1024))))) = (some (.inr (ci, fs)), c_lay K r (va_up (P r) key q) (F r) (A r) (J r) (B r))) (hl : (k_ty ci k, decide (k < fs.length)) = (.object C, true)) (hv : c_pp P r key q = some P') (hr : k_run t lg d M (pc + 3) loc st (c_h c B P' F A J) z) (ho : o < 1024 := by decide) : k_run t lg d M pc loc (.ref (q * 1024) :: .ref a :: st) (c_h c B P F A J) z := by
  subst ha
  cases hv
  obtain ⟨h1, h2⟩ := Prod.mk.inj hg
  obtain ⟨h3, h4⟩ := Prod.mk.inj hl
  exact k_put hI ((c_get hk ho).trans h1) (of_decide_eq_true h4) (by rw [ht, h3]; rfl) (c_set hk ho (by rw [c_up_same]; exact h2) (fun q hq => ⟨c_up_ne hq, rfl, rfl, rfl⟩)) hr
/-- a call on an object -/
theorem k_runV {h h1 : gH} {ix M' na ci b : Nat} {fs as rest : List Value} {v : Option Value} (hI : (k_mt M).2 pc = some (.invokevirtual ix, [2, M', na, ci])) (hd : (st.drop na, (st.take na).reverse) = (.ref b :: rest, as)) (hn : Nat.ble na st.length = true) (hg : g_get h b = some (.inr (ci, fs))) (h8 : Nat.ble (g_sum rest) 8 = true) (hl : Nat.ble (lg_sl (.ref b :: as)).length (k_mt M').1.2.2.1 = true) (hc : k_run t lg d M' 0 (lv_args 0 (.ref b :: as)) [] h (v, h1)) (hr : k_run t lg (d + 1) M (pc + 3) loc (v.toList ++ rest) h1 z) : k_run t lg (d + 1) M pc loc st h z := by
  obtain ⟨e1, e2⟩ := Prod.mk.inj hd
  refine k_runC hI ?_ ?_ ?_ hc hr
  · unfold g_step
    rfl
  · unfold g_ret
    rfl
  · unfold g_inv
    simp only [e1, hg]
    rw [if_pos ⟨trivial, Nat.le_of_ble_eq_true hn, Nat.le_of_ble_eq_true h8, by rw [e2]; exact Nat.le_of_ble_eq_true hl⟩, e2]
/-- System.arraycopy of a whole row -/
theorem k_ccp (r o q k : Nat) {K K2 a b m n0 n1 ix : Nat} {n : Int32} (hk : c_kind r = K) (hk2 : c_kind q = K2) (hI : (k_mt M).2 pc = some (.invokestatic ix, [5])) (ha : r * 1024 + o = a) (hb : q * 1024 + k = b) (hg : (c_lay K r (P r) (F r) (A r) (J r) (B r))[o]? = some (.inl (0, n0, .inl (A r o)))) (hg2 : (c_lay K2 q (P q) (F q) (A q) (J q) (B q))[k]? = some (.inl (0, n1, .inl (A q k)))) (hs : ∀ g, (c_lay K2 q (P q) (F q) (A q) (J q) (B q)).set k (.inl (0, n1, .inl g)) = c_lay K2 q (P q) (F q) (va_up (A q) k g) (J q) (B q)) (hm : (decide (n < 0), n.toNatClampNeg, Nat.ble m n0, Nat.ble m n1, Nat.ble (g_sum st) 8) = (false, m, true, true, true)) (hv : c_cp A r o q k m = some A') (hr : k_run t lg d M (pc + 3) loc st (c_h c B P F A' J) z) (ho : o < 1024 := by decide) (hk3 : k < 1024 := by decide) : k_run t lg d M pc loc (.int n :: .int 0 :: .ref b :: .int 0 :: .ref a :: st) (c_h c B P F A J) z := by
  subst ha
  subst hb
  cases hv
  simp only [Prod.mk.injEq] at hm
  obtain ⟨m1, m2, m3, m4, m5⟩ := hm
  have m1 : ¬ n < 0 := of_decide_eq_false m1
  have m3 := Nat.le_of_ble_eq_true m3
  have m4 := Nat.le_of_ble_eq_true m4
  have m5 := Nat.le_of_ble_eq_true m5
  refine k_runS hI ?_ hr
  have hnat : g_nat (.invokestatic ix) [5] (.int n :: .int 0 :: .ref (q * 1024 + k) :: .int 0 :: .ref (r * 1024 + o) :: st) (c_h c B P F A J) = some (st, c_h c B P F (va_up A q (va_up (A q) k (va_cpy (A r o) (A q k) 0 0 m))) J) := by
    unfold g_nat
    simp only [c_get (c := c) (B := B) (P := P) (F := F) (A := A) (J := J) hk ho, c_get (c := c) (B := B) (P := P) (F := F) (A := A) (J := J) hk2 hk3, hg, hg2]
    have e0 : (0 : Int32).toNatClampNeg = 0 := by decide
    rw [if_neg (by rw [e0, m2]; rintro (h | h | h | h | h | h) <;> first | exact absurd h (by decide) | exact m1 h | omega), e0, m2]
    rw [c_set hk2 hk3 (P' := P) (F' := F) (J' := J) (A' := va_up A q (va_up (A q) k (va_cpy (A r o) (A q k) 0 0 m))) (by rw [c_up_same]; exact hs _) (fun x hx => ⟨rfl, rfl, c_up_ne hx, rfl⟩)]
  unfold g_step
  rw [show g_pure (.invokestatic ix) (.int n :: .int 0 :: .ref (q * 1024 + k) :: .int 0 :: .ref (r * 1024 + o) :: st) = none from rfl, show g_loc (k_mt M).1.2.2.1 (.invokestatic ix) loc (.int n :: .int 0 :: .ref (q * 1024 + k) :: .int 0 :: .ref (r * 1024 + o) :: st) = none from rfl, show g_br (.invokestatic ix) [5] pc (.int n :: .int 0 :: .ref (q * 1024 + k) :: .int 0 :: .ref (r * 1024 + o) :: st) = none from rfl, show g_mem t (.invokestatic ix) [5] (.int n :: .int 0 :: .ref (q * 1024 + k) :: .int 0 :: .ref (r * 1024 + o) :: st) (c_h c B P F A J) = none from rfl, show g_new lg k_df (.invokestatic ix) [5] (.int n :: .int 0 :: .ref (q * 1024 + k) :: .int 0 :: .ref (r * 1024 + o) :: st) (c_h c B P F A J) = none from rfl, show g_txt k_tb (.invokestatic ix) [5] (.int n :: .int 0 :: .ref (q * 1024 + k) :: .int 0 :: .ref (r * 1024 + o) :: st) = none from rfl, hnat]
end KC
