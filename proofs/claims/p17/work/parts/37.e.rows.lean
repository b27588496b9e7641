/-! a byte of a text -/
def c_tx (j : Nat) : Nat → Int32 := fun i => (k_tb.getD j []).getD i 0
theorem k_tbl {t : gT} {lg : Nat → Nat} {d M pc : Nat} {loc : List (Nat × Value)} {st : List Value} {z : Option Value × gH} {R : List Nat} {h : gH} (j : Nat) {n : Nat} {f : UInt32} {i v : Int32} (hI : (k_mt M).2 pc = some (.baload, R)) (hf : (f.toNat - 1 - k_tb.length, Nat.ble (k_tb.length + 1) f.toNat, Nat.ble f.toNat (2 * k_tb.length), (k_tb.getD j []).length) = (j, true, true, n)) (hv : m_ld (c_tx j) n i = some v) (hr : k_run t lg d M (pc + 1) loc (.int v :: st) h z) : k_run t lg d M pc loc (.int i :: .float f :: st) h z := by
  simp only [Prod.mk.injEq] at hf
  obtain ⟨e1, e2, e3, e4⟩ := hf
  have e2 := Nat.le_of_ble_eq_true e2
  have e3 := Nat.le_of_ble_eq_true e3
  obtain ⟨h1, rfl⟩ := m_ld_ok hv
  refine k_runS hI ?_ hr
  have hx : g_txt k_tb .baload R (.int i :: .float f :: st) = some (.int (c_tx j i.toNatClampNeg) :: st) := by
    unfold g_txt
    simp only
    rw [if_pos ⟨by omega, e3⟩, e1, e4, if_neg h1]
    rfl
  unfold g_step
  rw [show g_pure .baload (.int i :: .float f :: st) = none from rfl, show g_loc (k_mt M).1.2.2.1 .baload loc (.int i :: .float f :: st) = none from rfl, show g_br .baload R pc (.int i :: .float f :: st) = none from rfl, show g_mem t .baload R (.int i :: .float f :: st) h = none from rfl, show g_new lg k_df .baload R (.int i :: .float f :: st) h = none from rfl, hx]
  rfl
theorem k_nret {t : gT} {lg : Nat → Nat} {d M pc : Nat} {loc : List (Nat × Value)} {R : List Nat} {h : gH} {v : Int32} {ty : FieldType} (hI : (k_mt M).2 pc = some (.ireturn, R)) (ht : (k_mt M).1.2.2.2 = some ty) (hn : narrow ty (.int v) = .int v) : k_run t lg d M pc loc [.int v] h (some (.int v), h) := by
  refine k_runR hI rfl ?_
  rw [ht]
  unfold g_ret
  simp only
  rw [if_pos hn]
