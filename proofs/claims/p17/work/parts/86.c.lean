/-! the class's rows and fields by values: what holds of each at every time -/
def ci (A : Nat → Nat → Nat → Int32) (r o : Nat) (i : Int) : Int := (A r o i.toNat).toInt
def cf (F : Nat → Nat → Int32) (r k : Nat) : Int := (F r k).toInt
/-- fields, by kind and key -/
def rFc (K k : Nat) (v : Int) : Prop := match K with
  | 0 => (match k with | 10 => 0 ≤ v ∧ v ≤ 7 | _ => True)
  | 1 => (match k with | 1 => 0 ≤ v ∧ v ≤ 2000 | _ => True)
  | 3 => (match k with | 1 => 0 ≤ v ∧ v ≤ 19 | 2 => 0 ≤ v ∧ v ≤ 20 | _ => True)
  | 4 => (match k with | 2 => 0 ≤ v ∧ v ≤ 30 | _ => True)
  | 6 => (match k with | 13 => 0 ≤ v ∧ v ≤ 8 | 14 => 0 ≤ v ∧ v ≤ 12 | 15 => 0 ≤ v ∧ v ≤ 6 | 16 => 0 ≤ v ∧ v ≤ 6 | 17 => 0 ≤ v ∧ v ≤ 6 | 1304 => 0 ≤ v ∧ v ≤ 400 | _ => True)
  | 7 => (match k with | 15 => 0 ≤ v ∧ v ≤ 37 | _ => True)
  | 11 => (match k with | 7 => 0 ≤ v ∧ v ≤ 400 | 8 => 0 ≤ v ∧ v ≤ 400 | 9 => 0 ≤ v ∧ v ≤ 8 | 105 => 0 ≤ v ∧ v ≤ 2000 | _ => True)
  | _ => True
/-- rows, by kind and place -/
def rRc (K o : Nat) (v : Int) : Prop := match K with
  | 4 => (match o with | 1 => 0 ≤ v ∧ v ≤ 35 | _ => True)
  | 6 => (match o with | 1 => -1 ≤ v ∧ v ≤ 7 | 2 => -1 ≤ v ∧ v ≤ 7 | 4 => -1 ≤ v ∧ v ≤ 7 | 5 => 0 ≤ v ∧ v ≤ 6 | 10 => -2 ≤ v ∧ v ≤ 5 | 12 => -1 ≤ v ∧ v ≤ 7 | _ => True)
  | 10 => (match o with | 4 => -1 ≤ v ∧ v ≤ 5 | 5 => 0 ≤ v ∧ v ≤ 5 | _ => True)
  | _ => True
def Rc (F : Nat → Nat → Int32) (A : Nat → Nat → Nat → Int32) : Prop := (∀ r k, rFc (c_kind r) k (cf F r k)) ∧ (∀ r o i, 0 ≤ i → rRc (c_kind r) o (ci A r o i))
/-- a row has been written -/
def CUm (A A' : Nat → Nat → Nat → Int32) (r o : Nat) (i v : Int) : Prop := ci A' r o i = v ∧ (∀ j, 0 ≤ j → j ≠ i → ci A' r o j = ci A r o j) ∧ (∀ r' o', ¬ (r' = r ∧ o' = o) → A' r' o' = A r' o')
/-- a field has been written -/
def FUm (F F' : Nat → Nat → Int32) (r k : Nat) (x : Int32) : Prop := F' r k = x ∧ (∀ r' k', ¬ (r' = r ∧ k' = k) → F' r' k' = F r' k')
/-- what the past and the house in use rest on is as it was -/
def CSc (F F' : Nat → Nat → Int32) (A A' : Nat → Nat → Nat → Int32) : Prop := (∀ q, q = 27 ∨ q = 28 → (∀ k, F' q k = F q k) ∧ (∀ o, o ≠ 17 → A' q o = A q o)) ∧ (∀ r, c_kind r = 2 → r ≠ 3 → r ≠ 33 → A' r 3 = A r 3) ∧ (∀ k, F' 4 k = F 4 k) ∧ F' 0 10 = F 0 10 ∧ (∀ k, F' 1 k = F 1 k)
section C86
variable {P P' : Nat → Nat → Nat} {F F' F1 : Nat → Nat → Int32} {A A' A1 : Nat → Nat → Nat → Int32} {J : Nat → Nat → Nat → Int64} {β : Type} {Q : β → Prop} {r o k n : Nat} {i x : Int32}
theorem ci_fr {r' o' : Nat} (h : A' r' o' = A r' o') : ci A' r' o' = ci A r' o' := by
  funext i
  unfold ci
  rw [h]
theorem ok_cst {g : (Nat → Nat → Nat → Int32) → Option β} (h0 : 0 ≤ i.toInt) (h1 : i.toInt < (n : Int)) (kk : ∀ A', CUm A A' r o i.toInt x.toInt → ok (g A') Q) : ok ((c_st A r o n i x).bind g) Q := by
  unfold c_st
  rw [if_neg (i_in h0 h1)]
  refine kk _ ⟨?_, fun j hj hn => ?_, fun r' o' hn => ?_⟩
  · unfold ci
    rw [c_up_same, c_up_same]
    unfold upd
    have e : i.toInt.toNat = i.toNatClampNeg := rfl
    rw [if_pos e]
  · unfold ci
    rw [c_up_same, c_up_same]
    unfold upd
    have e : i.toNatClampNeg = i.toInt.toNat := rfl
    rw [if_neg (by rw [e]; omega)]
  · by_cases e : r' = r
    · subst e
      rw [c_up_same, c_up_ne (fun e => hn ⟨rfl, e⟩)]
    · rw [c_up_ne e]
theorem ok_cpf {g : (Nat → Nat → Int32) → Option β} (kk : ∀ F', FUm F F' r k x → ok (g F') Q) : ok ((c_pf F r k x).bind g) Q := by
  refine kk _ ⟨?_, fun r' k' hn => ?_⟩
  · rw [c_up_same]
    exact if_pos rfl
  · by_cases e : r' = r
    · subst e
      rw [c_up_same]
      exact if_neg (fun e => hn ⟨rfl, e⟩)
    · rw [c_up_ne e]
theorem ok_cpp {q : Nat} {g : (Nat → Nat → Nat) → Option β} (kk : ∀ P', P' r k = q → (∀ r' k', ¬ (r' = r ∧ k' = k) → P' r' k' = P r' k') → ok (g P') Q) : ok ((c_pp P r k q).bind g) Q := by
  refine kk _ ?_ (fun r' k' hn => ?_)
  · rw [c_up_same, c_up_same]
  · by_cases e : r' = r
    · subst e
      rw [c_up_same, c_up_ne (fun e => hn ⟨rfl, e⟩)]
    · rw [c_up_ne e]
theorem ok_chk {K q : Nat} {g : Nat → Option β} (h : c_kind q = K) (kk : ok (g q) Q) : ok ((c_chk K q).bind g) Q := by
  unfold c_chk
  rw [if_pos h]
  exact kk
theorem ok_car {b K : Nat} {g : Nat → Option β} (h0 : 0 ≤ i.toInt) (h1 : i.toInt < (n : Int)) (h : c_kind (b + i.toInt.toNat) = K) (kk : ok (g (b + i.toInt.toNat)) Q) : ok ((c_ar n b K i).bind g) Q := by
  unfold c_ar
  rw [if_neg (i_in h0 h1)]
  exact ok_chk h kk
theorem ok_ldc {K : Nat} {g : Int32 → Option β} (R : Rc F A) (hk : c_kind r = K) (h0 : 0 ≤ i.toInt) (h1 : i.toInt < (n : Int)) (kk : ∀ v : Int32, v.toInt = ci A r o i.toInt → rRc K o v.toInt → ok (g v) Q) : ok ((m_ld (A r o) n i).bind g) Q :=
  ok_ld0 h0 h1 (kk _ rfl (by have := R.2 r o i.toInt h0; rw [hk] at this; exact this))
theorem ok_cfi {g : (Nat → Nat → Nat → Int32) → Option β} (kk : ∀ A', (∀ j, 0 ≤ j → j < (n : Int) → ci A' r o j = x.toInt) → (∀ j, (n : Int) ≤ j → ci A' r o j = ci A r o j) → (∀ r' o', ¬ (r' = r ∧ o' = o) → A' r' o' = A r' o') → ok (g A') Q) : ok ((c_fi A r o n x).bind g) Q := by
  refine kk _ (fun j hj hn => ?_) (fun j hn => ?_) (fun r' o' hn => ?_)
  · unfold ci
    rw [c_up_same, c_up_same, if_pos (by omega)]
  · unfold ci
    rw [c_up_same, c_up_same, if_neg (by omega)]
  · by_cases e : r' = r
    · subst e
      rw [c_up_same, c_up_ne (fun e => hn ⟨rfl, e⟩)]
    · rw [c_up_ne e]
theorem Rc.st (R : Rc F A) {i v : Int} (U : CUm A A' r o i v) (hv : rRc (c_kind r) o v) : Rc F A' := by
  refine ⟨R.1, fun r' o' j hj => ?_⟩
  by_cases e : r' = r ∧ o' = o
  · obtain ⟨rfl, rfl⟩ := e
    by_cases z : j = i
    · rw [z, U.1]; exact hv
    · rw [U.2.1 j hj z]; exact R.2 _ _ j hj
  · rw [ci_fr (U.2.2 r' o' e)]
    exact R.2 r' o' j hj
theorem Rc.pf (R : Rc F A) (U : FUm F F' r k x) (hv : rFc (c_kind r) k x.toInt) : Rc F' A := by
  refine ⟨fun r' k' => ?_, R.2⟩
  unfold cf
  by_cases e : r' = r ∧ k' = k
  · obtain ⟨rfl, rfl⟩ := e
    rw [U.1]; exact hv
  · rw [U.2 r' k' e]
    exact R.1 r' k'
theorem Rc.fi (R : Rc F A) (h1 : ∀ j, 0 ≤ j → j < (n : Int) → ci A' r o j = x.toInt) (h2 : ∀ j, (n : Int) ≤ j → ci A' r o j = ci A r o j) (h3 : ∀ r' o', ¬ (r' = r ∧ o' = o) → A' r' o' = A r' o') (hv : rRc (c_kind r) o x.toInt) : Rc F A' := by
  refine ⟨R.1, fun r' o' j hj => ?_⟩
  by_cases e : r' = r ∧ o' = o
  · obtain ⟨rfl, rfl⟩ := e
    by_cases z : j < (n : Int)
    · rw [h1 j hj z]; exact hv
    · rw [h2 j (by omega)]; exact R.2 _ _ j hj
  · rw [ci_fr (h3 r' o' e)]
    exact R.2 r' o' j hj
theorem CSc.rfl' : CSc F F A A := ⟨fun _ _ => ⟨fun _ => rfl, fun _ _ => rfl⟩, fun _ _ _ _ => rfl, fun _ => rfl, rfl, fun _ => rfl⟩
theorem CSc.tr (h : CSc F F1 A A1) (h' : CSc F1 F' A1 A') : CSc F F' A A' := ⟨fun q hq => ⟨fun k => ((h'.1 q hq).1 k).trans ((h.1 q hq).1 k), fun o ho => ((h'.1 q hq).2 o ho).trans ((h.1 q hq).2 o ho)⟩, fun r a b c => (h'.2.1 r a b c).trans (h.2.1 r a b c), fun k => (h'.2.2.1 k).trans (h.2.2.1 k), h'.2.2.2.1.trans h.2.2.2.1, fun k => (h'.2.2.2.2 k).trans (h.2.2.2.2 k)⟩
/-- rows on which nothing rests -/
def tf (r o : Nat) : Prop := (c_kind r = 6 → o = 17) ∧ (c_kind r = 2 → o ≠ 3 ∨ r = 3 ∨ r = 33)
theorem CSc.st {i v : Int} (U : CUm A A' r o i v) (h : tf r o) : CSc F F A A' := by
  refine ⟨fun q hq => ⟨fun _ => rfl, fun o' ho => U.2.2 q o' ?_⟩, fun r' a b c => U.2.2 r' 3 ?_, fun _ => rfl, rfl, fun _ => rfl⟩
  · rintro ⟨rfl, rfl⟩
    exact ho (h.1 (by rcases hq with rfl | rfl <;> decide))
  · rintro ⟨rfl, e⟩
    rcases h.2 a with g | g | g
    · exact g e.symm
    · exact b g
    · exact c g
theorem CSc.fi (h3 : ∀ r' o', ¬ (r' = r ∧ o' = o) → A' r' o' = A r' o') (h : tf r o) : CSc F F A A' := by
  refine ⟨fun q hq => ⟨fun _ => rfl, fun o' ho => h3 q o' ?_⟩, fun r' a b c => h3 r' 3 ?_, fun _ => rfl, rfl, fun _ => rfl⟩
  · rintro ⟨rfl, rfl⟩
    exact ho (h.1 (by rcases hq with rfl | rfl <;> decide))
  · rintro ⟨rfl, e⟩
    rcases h.2 a with g | g | g
    · exact g e.symm
    · exact b g
    · exact c g
theorem CSc.pf (U : FUm F F' r k x) (h : c_kind r ≠ 6 ∧ r ≠ 4 ∧ (r ≠ 0 ∨ k ≠ 10) ∧ r ≠ 1) : CSc F F' A A := by
  refine ⟨fun q hq => ⟨fun k' => U.2 q k' ?_, fun _ _ => rfl⟩, fun _ _ _ _ => rfl, fun k' => U.2 4 k' ?_, U.2 0 10 ?_, fun k' => U.2 1 k' ?_⟩
  · rintro ⟨rfl, rfl⟩
    exact h.1 (by rcases hq with rfl | rfl <;> decide)
  · rintro ⟨rfl, rfl⟩
    exact h.2.1 rfl
  · rintro ⟨rfl, rfl⟩
    exact h.2.2.1.elim (fun e => e rfl) (fun e => e rfl)
  · rintro ⟨rfl, rfl⟩
    exact h.2.2.2 rfl
/-- the house in use -/
def HVc (F : Nat → Nat → Int32) (A : Nat → Nat → Nat → Int32) (q : Nat) : Prop := (∀ d, 0 ≤ d → d < cf F q 14 → 0 ≤ ci A q 1 d ∧ 0 ≤ ci A q 2 d) ∧ (∀ m, 0 ≤ m → m < cf F q 17 → 0 ≤ ci A q 12 m) ∧ (∀ t, 0 ≤ t → t < 6 → 0 < ci A q 5 t → 0 ≤ ci A q 4 t) ∧ (∀ t s, 0 ≤ t → t < 6 → 0 ≤ s → s < ci A q 5 t → ci A q 11 (t * 6 + s) ≤ 5) ∧ (∀ i, 0 ≤ i → i < cf F q 1304 → ci A q 15 i = 2 → 0 ≤ ci A q 16 i ∧ ci A q 16 i ≤ 5) ∧ 1 ≤ cf F q 18 ∧ cf F q 18 ≤ 600
/-- what men left, by the house q -/
def LVx (A : Nat → Nat → Nat → Int32) (q : Nat) (v : Int) : Prop := v = -1 ∨ (0 ≤ v ∧ v < 36 ∧ v % 6 < ci A q 5 (v / 6))
def LVc (A : Nat → Nat → Nat → Int32) (q r : Nat) : Prop := ∀ m, 0 ≤ m → m < 6 → LVx A q (ci A r 3 m)
def Gc (P : Nat → Nat → Nat) (F : Nat → Nat → Int32) (A : Nat → Nat → Nat → Int32) : Prop := Rc F A ∧ ((P 0 8 = 27 ∧ P 0 9 = 28) ∨ (P 0 8 = 28 ∧ P 0 9 = 27)) ∧ P 32 4 = P 0 8 ∧ HVc F A (P 0 8) ∧ LVc A (P 0 8) 2 ∧ (∀ u, 0 ≤ u → u < cf F 4 2 → LVc A (P 0 8) (5 + ((cf F 4 1 + u) % 20).toNat)) ∧ (∀ s : Nat, s < 3 → (F 0 10 &&& (1 <<< (Int32.ofNat s &&& 31))) ≠ 0 → LVc A (P 0 8) (29 + s))
theorem HVc.cg {q : Nat} (h : HVc F A q) (hF : ∀ k, F' q k = F q k) (hA : ∀ o, o ≠ 17 → A' q o = A q o) : HVc F' A' q := by
  unfold HVc cf
  simp only [hF, ci_fr (hA 1 (by decide)), ci_fr (hA 2 (by decide)), ci_fr (hA 4 (by decide)), ci_fr (hA 5 (by decide)), ci_fr (hA 11 (by decide)), ci_fr (hA 12 (by decide)), ci_fr (hA 15 (by decide)), ci_fr (hA 16 (by decide))]
  exact h
theorem LVx.cg {q : Nat} {v : Int} (h : LVx A q v) (h5 : A' q 5 = A q 5) : LVx A' q v := by
  unfold LVx
  rw [ci_fr h5]
  exact h
theorem LVc.cg {q r : Nat} (h : LVc A q r) (h5 : A' q 5 = A q 5) (h3 : A' r 3 = A r 3) : LVc A' q r := fun m m0 m1 => by
  rw [ci_fr h3]
  exact (h m m0 m1).cg h5
theorem k_st {m : Nat} (h : m < 20) : c_kind (5 + m) = 2 ∧ 5 + m ≠ 3 ∧ 5 + m ≠ 33 := by
  refine ⟨?_, by omega, by omega⟩
  have : ∀ m : Fin 20, c_kind (5 + m.val) = 2 := by decide
  exact this ⟨m, h⟩
theorem k_sl {m : Nat} (h : m < 3) : c_kind (29 + m) = 2 ∧ 29 + m ≠ 3 ∧ 29 + m ≠ 33 := by
  refine ⟨?_, by omega, by omega⟩
  have : ∀ m : Fin 3, c_kind (29 + m.val) = 2 := by decide
  exact this ⟨m, h⟩
theorem Gc.live (G : Gc P F A) : P 0 8 = 27 ∨ P 0 8 = 28 := G.2.1.imp And.left And.left
theorem Gc.k08 (G : Gc P F A) : c_kind (P 0 8) = 6 := by rcases G.live with h | h <;> rw [h] <;> decide
theorem Gc.k09 (G : Gc P F A) : c_kind (P 0 9) = 6 := by rcases G.2.1 with h | h <;> rw [h.2] <;> decide
theorem Gc.k324 (G : Gc P F A) : c_kind (P 32 4) = 6 := by rw [G.2.2.1]; exact G.k08
theorem Gc.cg (G : Gc P F A) (R : Rc F' A') (c : CSc F F' A A') (h8 : P' 0 8 = P 0 8) (h9 : P' 0 9 = P 0 9) (h4 : P' 32 4 = P 32 4) : Gc P' F' A' := by
  have hl := G.live
  obtain ⟨g1, g2, g3, g4, g5, g6, g7⟩ := G
  obtain ⟨c1, c2, c3, c4, -⟩ := c
  obtain ⟨d1, d2⟩ := c1 _ hl
  have d5 := d2 5 (by decide)
  refine ⟨R, by rw [h8, h9]; exact g2, by rw [h4, h8]; exact g3, by rw [h8]; exact g4.cg d1 d2, by rw [h8]; exact g5.cg d5 (c2 2 (by decide) (by decide) (by decide)), fun u u0 u1 => ?_, fun s s0 s1 => ?_⟩
  · unfold cf at u1 ⊢
    rw [c3 1, h8]
    rw [c3 2] at u1
    have := k_st (m := (((F 4 1).toInt + u) % 20).toNat) (by omega)
    exact (g6 u u0 u1).cg d5 (c2 _ this.1 this.2.1 this.2.2)
  · rw [c4] at s1
    rw [h8]
    have := k_sl s0
    exact (g7 s s0 s1).cg d5 (c2 _ this.1 this.2.1 this.2.2)
/-- nothing but what nothing rests on has changed -/
def QKc (P P' : Nat → Nat → Nat) (F F' : Nat → Nat → Int32) (A A' : Nat → Nat → Nat → Int32) : Prop := (∀ r k, r ≠ 36 → P' r k = P r k) ∧ Rc F' A' ∧ CSc F F' A A'
theorem QKc.g (q : QKc P P' F F' A A') (G : Gc P F A) : Gc P' F' A' := G.cg q.2.1 q.2.2 (q.1 0 8 (by decide)) (q.1 0 9 (by decide)) (q.1 32 4 (by decide))
theorem QKc.rfl' (R : Rc F A) : QKc P P F F A A := ⟨fun _ _ _ => rfl, R, CSc.rfl'⟩
theorem QKc.tr {P1 : Nat → Nat → Nat} (h : QKc P P1 F F1 A A1) (h' : QKc P1 P' F1 F' A1 A') : QKc P P' F F' A A' := ⟨fun r k hr => (h'.1 r k hr).trans (h.1 r k hr), h'.2.1, h.2.2.tr h'.2.2⟩
theorem QKc.st {i v : Int} (h : QKc P P' F F' A A1) (U : CUm A1 A' r o i v) (hv : rRc (c_kind r) o v) (ht : tf r o) : QKc P P' F F' A A' := ⟨h.1, h.2.1.st U hv, h.2.2.tr (CSc.st U ht)⟩
theorem QKc.pf (h : QKc P P' F F1 A A') (U : FUm F1 F' r k x) (hv : rFc (c_kind r) k x.toInt) (ht : c_kind r ≠ 6 ∧ r ≠ 4 ∧ (r ≠ 0 ∨ k ≠ 10) ∧ r ≠ 1) : QKc P P' F F' A A' := ⟨h.1, h.2.1.pf U hv, h.2.2.tr (CSc.pf U ht)⟩
end C86
theorem i_div6 {v : Int32} (h : 0 ≤ v.toInt) : (v / 6).toInt = v.toInt / 6 := by
  rw [Int32.toInt_div]
  have e : (6 : Int32).toInt = 6 := by decide
  rw [e, Int.tdiv_eq_ediv_of_nonneg h]
  have := i_rng v
  exact Int.bmod_eq_of_le (by omega) (by omega)
theorem i_rem6 {v : Int32} (h : 0 ≤ v.toInt) : (v - v / 6 * 6).toInt = v.toInt % 6 := by
  have r := i_rng v
  have d := i_div6 h
  have e : (6 : Int32).toInt = 6 := by decide
  have m := i_mulR (c := 6) (k := 6) (x := v / 6) (by decide) (by omega) (by omega)
  have s := i_sub (x := v) (y := v / 6 * 6) (by omega) (by omega)
  omega
