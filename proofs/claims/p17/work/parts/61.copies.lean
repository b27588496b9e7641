/-! rows of a hundred, copied -/
def RHm (F : Nat → Int32) (A : Nat → Nat → Int32) (j : Nat) (o k : Int) : Prop := ∀ m, 0 ≤ m → m < k → 0 ≤ ai A j (o + (42 + m)) → SVm F A (ai A j (o + (42 + m))) (ai A j (o + (48 + m)))
def HIm (F : Nat → Int32) (A : Nat → Nat → Int32) (k : Int) : Prop := ∀ u, 0 ≤ u → u < (F 74).toInt → RHm F A 57 (100 * u) k
def HEm (F : Nat → Int32) (A : Nat → Nat → Int32) (k : Int) : Prop := ∀ s, 0 ≤ s → s < 3 → ai A 61 s = 1 → RHm F A 62 (100 * s) k
section CP
variable {F F' : Nat → Int32} {A A' A1 : Nat → Nat → Int32} {k i x y : Int} {j j' : Nat}
theorem RVm.toH (h : RVm F A j k) : RHm F A j 0 k := fun m h0 h1 => by
  rw [Int.zero_add, Int.zero_add]
  exact h m h0 h1
theorem RHm.toV (h : RHm F A j 0 k) : RVm F A j k := fun m h0 h1 => by
  have e := h m h0 h1
  rw [Int.zero_add, Int.zero_add] at e
  exact e
theorem RHm.cp {o o' : Int} (h : RHm F A j' o' k) (hk : k ≤ 6) (e : ∀ t, 0 ≤ t → t < 100 → ai A j (o + t) = ai A j' (o' + t)) : RHm F A j o k := fun m h0 h1 => by
  rw [e (42 + m) (by omega) (by omega), e (48 + m) (by omega) (by omega)]
  exact h m h0 h1
theorem RHm.cg {o : Int} (h : RHm F A j o k) (hF : F' 18 = F 18) (h19 : A' 19 = A 19) (h22 : A' 22 = A 22) (e : ∀ m, 0 ≤ m → m < k → ai A' j (o + (42 + m)) = ai A j (o + (42 + m)) ∧ ai A' j (o + (48 + m)) = ai A j (o + (48 + m))) : RHm F' A' j o k := fun m h0 h1 => by
  rw [(e m h0 h1).1, (e m h0 h1).2]
  exact fun q => (h m h0 h1 q).fr hF h19 h22
theorem RHm.fr {o : Int} (h : RHm F A j o k) (hF : F' 18 = F 18) (h19 : A' 19 = A 19) (h22 : A' 22 = A 22) (hj : A' j = A j) : RHm F' A' j o k :=
  h.cg hF h19 h22 (fun m _ _ => by rw [ai_fr hj]; exact ⟨rfl, rfl⟩)
theorem HIm.fr (h : HIm F A k) (hF : F' 18 = F 18) (hU : F' 74 = F 74) (h19 : A' 19 = A 19) (h22 : A' 22 = A 22) (hj : A' 57 = A 57) : HIm F' A' k := fun u h0 h1 =>
  (h u h0 (by rw [hU] at h1; exact h1)).fr hF h19 h22 hj
theorem HEm.fr (h : HEm F A k) (hF : F' 18 = F 18) (h19 : A' 19 = A 19) (h22 : A' 22 = A 22) (h61 : A' 61 = A 61) (h62 : A' 62 = A 62) : HEm F' A' k := fun s h0 h1 h2 =>
  (h s h0 h1 (by rw [ai_fr h61] at h2; exact h2)).fr hF h19 h22 h62
/-- a copy of one more -/
theorem cp_st {o o' v i' : Int} (o1 : ∀ q, q ≠ j → A' q = A q) (s : ai A' j i = v) (n : ∀ q, 0 ≤ q → q ≠ i → ai A' j q = ai A j q) (hv : v = ai A j' i') (hjj : j' ≠ j) (C : ∀ t, 0 ≤ t → t < x → ai A j (o + t) = ai A j' (o' + t)) (hi : i = o + x) (hi' : i' = o' + x) (h0 : 0 ≤ o) : ∀ t, 0 ≤ t → t < x + 1 → ai A' j (o + t) = ai A' j' (o' + t) := by
  intro t t0 t1
  rw [ai_fr (o1 j' hjj)]
  by_cases e : t = x
  · subst e
    rw [← hi, s, hv, hi']
  · rw [n _ (by omega) (by omega)]
    exact C t t0 (by omega)
/-- a task and a step are put for a man -/
theorem RVm.lv {i1 i2 : Int} (h : RVm F A j k) (hj : 19 ≠ j ∧ 22 ≠ j) (o1 : ∀ q, q ≠ j → A1 q = A q) (s1 : ai A1 j i1 = x) (n1 : ∀ q, 0 ≤ q → q ≠ i1 → ai A1 j q = ai A j q) (o2 : ∀ q, q ≠ j → A' q = A1 q) (s2 : ai A' j i2 = y) (n2 : ∀ q, 0 ≤ q → q ≠ i2 → ai A' j q = ai A1 j q) (e1 : i1 = 42 + i) (e2 : i2 = 48 + i) (hi : 0 ≤ i ∧ i ≤ 5) (hk : k ≤ 6) (hx : 0 ≤ x → SVm F A x y) : RVm F A' j k := by
  intro m m0 m1
  have fr : ∀ {t s : Int}, SVm F A t s → SVm F A' t s := fun w => w.fr rfl ((o2 19 hj.1).trans (o1 19 hj.1)) ((o2 22 hj.2).trans (o1 22 hj.2))
  by_cases e : m = i
  · subst e
    rw [← e1, ← e2, s2, n2 i1 (by omega) (by omega), s1]
    exact fun q => fr (hx q)
  · rw [n2 (42 + m) (by omega) (by omega), n1 (42 + m) (by omega) (by omega), n2 (48 + m) (by omega) (by omega), n1 (48 + m) (by omega) (by omega)]
    exact fun q => fr (h m m0 m1 q)
end CP
section HI
variable {F F' : Nat → Int32} {A A' B : Nat → Nat → Int32} {k i x : Int}
theorem HIm.st (h : HIm F A k) (o1 : ∀ q, q ≠ 57 → A' q = A q) (n : ∀ q, 0 ≤ q → q ≠ i → ai A' 57 q = ai A 57 q) (hi : 100 * (F 74).toInt ≤ i) (hk : k ≤ 6) : HIm F A' k := fun u h0 h1 =>
  (h u h0 h1).cg rfl (o1 19 (by decide)) (o1 22 (by decide)) (fun m m0 m1 => ⟨n _ (by omega) (by omega), n _ (by omega) (by omega)⟩)
theorem HIm.up (h : HIm F A k) (P : RVm F A 47 k) (C : ∀ t, 0 ≤ t → t < 100 → ai A 57 (100 * (F 74).toInt + t) = ai A 47 (0 + t)) (hF : F' 18 = F 18) (hU : (F' 74).toInt = (F 74).toInt + 1) (hk : k ≤ 6) : HIm F' A k := fun u h0 h1 => by
  by_cases e : u = (F 74).toInt
  · subst e
    exact (P.toH.cp hk C).fr hF rfl rfl rfl
  · exact (h u h0 (by omega)).fr hF rfl rfl rfl
theorem HIm.dn (h : HIm F A k) (hF : F' 18 = F 18) (hU : (F' 74).toInt ≤ (F 74).toInt) : HIm F' A k := fun u h0 h1 =>
  (h u h0 (by omega)).fr hF rfl rfl rfl
theorem HIm.sh (h : HIm F B k) (h19 : A 19 = B 19) (h22 : A 22 = B 22) (hS : ∀ i, 0 ≤ i → i < 1900 → ai A 57 i = ai B 57 (i + 100)) (hF : F' 18 = F 18) (hU : (F 74).toInt = 20) (hU' : (F' 74).toInt ≤ 19) (hk : k ≤ 6) : HIm F' A k := fun u h0 h1 m m0 m1 => by
  have w := h (u + 1) (by omega) (by omega) m m0 m1
  rw [hS _ (by omega) (by omega), hS _ (by omega) (by omega)]
  rw [show 100 * u + (42 + m) + 100 = 100 * (u + 1) + (42 + m) by omega, show 100 * u + (48 + m) + 100 = 100 * (u + 1) + (48 + m) by omega]
  exact fun q => (w q).fr hF h19 h22
/-- what is held, but for one -/
def HEx (F : Nat → Int32) (A : Nat → Nat → Int32) (x k : Int) : Prop := ∀ s, 0 ≤ s → s < 3 → s ≠ x → ai A 61 s = 1 → RHm F A 62 (100 * s) k
theorem HEx.st (h : HEx F A x k) (o1 : ∀ q, q ≠ 62 → A' q = A q) (n : ∀ q, 0 ≤ q → q ≠ i → ai A' 62 q = ai A 62 q) (hi : 100 * x ≤ i) (hi' : i < 100 * x + 100) (hk : k ≤ 6) : HEx F A' x k := fun s h0 h1 h2 h3 =>
  (h s h0 h1 h2 (by rw [ai_fr (o1 61 (by decide))] at h3; exact h3)).cg rfl (o1 19 (by decide)) (o1 22 (by decide)) (fun m m0 m1 => ⟨n _ (by omega) (by omega), n _ (by omega) (by omega)⟩)
theorem HEx.fin (h : HEx F A x k) (r : RHm F A 62 (100 * x) k) : HEm F A k := fun s h0 h1 h2 => by
  by_cases e : s = x
  · subst e; exact r
  · exact h s h0 h1 e h2
theorem HEm.at (h : HEm F A k) (o1 : ∀ q, q ≠ 61 → A' q = A q) (n : ∀ q, 0 ≤ q → q ≠ x → ai A' 61 q = ai A 61 q) : HEx F A' x k := fun s h0 h1 h2 h3 =>
  (h s h0 h1 (by rw [n s h0 h2] at h3; exact h3)).fr rfl (o1 19 (by decide)) (o1 22 (by decide)) (o1 62 (by decide))
theorem i_shl12 {v : Int32} (h0 : 0 ≤ v.toInt) (h1 : v.toInt ≤ 12) : 1 ≤ (1 <<< (v &&& 31) : Int32).toInt ∧ (1 <<< (v &&& 31) : Int32).toInt ≤ 4096 := by
  have e : v = Int32.ofInt v.toInt := i_ext (by rw [Int32.toInt_ofInt_of_le (by omega) (by omega)])
  have d : ∀ i : Fin 13, 1 ≤ (1 <<< (Int32.ofInt (i.val : Int) &&& 31) : Int32).toInt ∧ (1 <<< (Int32.ofInt (i.val : Int) &&& 31) : Int32).toInt ≤ 4096 := by decide
  have w := d ⟨v.toInt.toNat, by omega⟩
  rw [show ((⟨v.toInt.toNat, by omega⟩ : Fin 13).val : Int) = v.toInt by show ((v.toInt.toNat : Nat) : Int) = v.toInt; omega, ← e] at w
  exact w
end HI
theorem i_m8 {x : Int32} (h : 0 ≤ x.toInt) : (x + -8).toInt = x.toInt - 8 := by
  have lm : (-8 : Int32).toInt = -8 := by decide
  have r := i_rng x
  exact (i_add (by rw [lm]; omega) (by rw [lm]; omega)).trans (by rw [lm]; rfl)
