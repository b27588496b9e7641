/-! what waits while an expression is read; codes that are being written -/
def wop (A : Nat → Nat → Int32) : Nat → Int
  | 0 => 0
  | w + 1 => if ai A 44 (w : Int) = 6 then wop A w + 1 else wop A w
def wqs (A : Nat → Nat → Int32) : Nat → Int
  | 0 => 0
  | w + 1 => if ai A 44 (w : Int) = 6 then wqs A w else wqs A w + 1
def wru (A : Nat → Nat → Int32) : Nat → Int
  | 0 => 0
  | w + 1 => if ai A 44 (w : Int) = 6 then 0 else wru A w + 1
def WGm (A : Nat → Nat → Int32) : Nat → Prop
  | 0 => True
  | w + 1 => WGm A w ∧ (ai A 44 (w : Int) = 6 ∨ wru A w = 0 ∨ (wru A w = 1 ∧ 10 ≤ ai A 44 (w : Int)))
section EXW
variable {A A' : Nat → Nat → Int32}
theorem w_fr (w : Nat) (h : ∀ i : Nat, i < w → ai A' 44 (i : Int) = ai A 44 (i : Int)) : wop A' w = wop A w ∧ wqs A' w = wqs A w ∧ wru A' w = wru A w ∧ (WGm A w → WGm A' w) := by
  induction w with
  | zero => exact ⟨rfl, rfl, rfl, id⟩
  | succ w ih =>
    obtain ⟨a, b, c, d⟩ := ih (fun i hi => h i (by omega))
    have e := h w (by omega)
    refine ⟨?_, ?_, ?_, ?_⟩
    · show (if ai A' 44 (w : Int) = 6 then wop A' w + 1 else wop A' w) = _
      rw [e, a]; rfl
    · show (if ai A' 44 (w : Int) = 6 then wqs A' w else wqs A' w + 1) = _
      rw [e, b]; rfl
    · show (if ai A' 44 (w : Int) = 6 then 0 else wru A' w + 1) = _
      rw [e, c]; rfl
    · rintro ⟨g, k⟩
      refine ⟨d g, ?_⟩
      rw [e, c]
      exact k
theorem w_bd (w : Nat) : 0 ≤ wop A w ∧ 0 ≤ wqs A w ∧ 0 ≤ wru A w ∧ (w : Int) = wop A w + wqs A w ∧ (WGm A w → wru A w ≤ 2 ∧ (w : Int) ≤ 3 * wop A w + wru A w) := by
  induction w with
  | zero => exact ⟨Int.le_refl 0, Int.le_refl 0, Int.le_refl 0, rfl, fun _ => ⟨by show (0 : Int) ≤ 2; omega, by show ((0 : Nat) : Int) ≤ 3 * 0 + 0; omega⟩⟩
  | succ w ih =>
    obtain ⟨a, b, c, d, e⟩ := ih
    by_cases h : ai A 44 (w : Int) = 6
    · have e1 : wop A (w + 1) = wop A w + 1 := if_pos h
      have e2 : wqs A (w + 1) = wqs A w := if_pos h
      have e3 : wru A (w + 1) = 0 := if_pos h
      rw [e1, e2, e3]
      refine ⟨by omega, by omega, by omega, by omega, fun g => ?_⟩
      have k := e g.1
      exact ⟨by omega, by omega⟩
    · have e1 : wop A (w + 1) = wop A w := if_neg h
      have e2 : wqs A (w + 1) = wqs A w + 1 := if_neg h
      have e3 : wru A (w + 1) = wru A w + 1 := if_neg h
      rw [e1, e2, e3]
      refine ⟨by omega, by omega, by omega, by omega, fun g => ?_⟩
      have k := e g.1
      have k2 := g.2
      exact ⟨by omega, by omega⟩
theorem dpm_bl {u c : Int} (hu : 0 ≤ u) (h : ∀ i, 0 ≤ i → i < c → ai A' 42 i = ai A 42 i) : ∀ k : Nat, u + k ≤ c → dpm A' u k = dpm A u k
  | 0, _ => rfl
  | k + 1, hk => by
    have ih := dpm_bl hu h k (by omega)
    show (if ai A' 42 (u + (k : Int)) < 2 then dpm A' u k + 1 else dpm A' u k - 1) = _
    rw [ih, h (u + k) (by omega) (by omega)]
    rfl
theorem WFm.bl {u v : Int} (w : WFm A u v) (h : ∀ i, 0 ≤ i → i < v → ai A' 42 i = ai A 42 i ∧ ai A' 43 i = ai A 43 i) : WFm A' u v := by
  obtain ⟨a, b, c, d, e, f⟩ := w
  refine ⟨a, b, c, d, fun k h1 h2 => ?_, fun i h1 h2 h3 => ?_⟩
  · rw [dpm_bl a (fun i p q => (h i p q).1) k (by omega)]
    rw [(h (u + k) (by omega) (by omega)).1] at h2
    exact e k h1 h2
  · rw [(h i (by omega) h2).1] at h3
    rw [(h i (by omega) h2).2]
    exact f i h1 h2 h3
def CWm (A : Nat → Nat → Int32) (u c q : Int) : Prop := 0 ≤ u ∧ u ≤ c ∧ dpm A u (c - u).toNat = q ∧ (∀ k : Nat, u + k < c → 2 ≤ ai A 42 (u + k) → 2 ≤ dpm A u k) ∧ (∀ i, u ≤ i → i < c → ai A 42 i = 1 → 0 ≤ ai A 43 i ∧ ai A 43 i ≤ 5)
theorem CWm.fr {u c q : Int} (w : CWm A u c q) (h42 : A' 42 = A 42) (h43 : A' 43 = A 43) : CWm A' u c q := by
  unfold CWm
  simp only [ai_fr h42, ai_fr h43, dpm_fr h42]
  exact w
theorem CWm.emit {u c q k v : Int} (w : CWm A u c q) (h : ∀ i, 0 ≤ i → i ≠ c → ai A' 42 i = ai A 42 i ∧ ai A' 43 i = ai A 43 i) (hk : ai A' 42 c = k) (hv : ai A' 43 c = v) (h1 : k = 1 → 0 ≤ v ∧ v ≤ 5) (h2 : 2 ≤ k → 2 ≤ q) : CWm A' u (c + 1) (if k < 2 then q + 1 else q - 1) := by
  obtain ⟨a, b, e, f, g⟩ := w
  have bl : ∀ k : Nat, u + k ≤ c → dpm A' u k = dpm A u k := dpm_bl a (fun i p r => (h i p (by omega)).1)
  refine ⟨a, by omega, ?_, fun k1 k2 k3 => ?_, fun i p r s => ?_⟩
  · rw [dpm_step (by omega), hk, bl _ (by omega), e]
  · by_cases z : u + (k1 : Int) = c
    · rw [z, hk] at k3
      have y : k1 = (c - u).toNat := by omega
      rw [y, bl _ (by omega), e]
      exact h2 k3
    · rw [bl _ (by omega)]
      rw [(h _ (by omega) z).1] at k3
      exact f k1 (by omega) k3
  · by_cases z : i = c
    · rw [z, hk] at s
      rw [z, hv]
      exact h1 s
    · rw [(h i (by omega) z).1] at s
      rw [(h i (by omega) z).2]
      exact g i p (by omega) s
theorem CWm.wf {u c q : Int} (w : CWm A u c q) (h1 : c ≤ u + 400) (h2 : c ≤ 840) : WFm A u c := ⟨w.1, w.2.1, h1, h2, w.2.2.2.1, w.2.2.2.2⟩
end EXW
def OBm (A A' : Nat → Nat → Int32) (c s : Int) : Prop := ∀ i, 0 ≤ i → (i < c ∨ 420 * s + 420 ≤ i) → ai A' 42 i = ai A 42 i ∧ ai A' 43 i = ai A 43 i
def EXm (F : Nat → Int32) (A : Nat → Nat → Int32) (c s d : Int) : Prop := ∃ w : Nat, (F 60).toInt = w ∧ WGm A w ∧ wop A w = (F 12).toInt ∧ 420 * s ≤ c ∧ CWm A c (F 56).toInt (wqs A w + d) ∧ (F 56).toInt + wqs A w ≤ 420 * s + (F 11).toInt + 1 ∧ (1 ≤ (F 13).toInt ∨ (F 56).toInt + wqs A w ≤ 420 * s + (F 11).toInt)
/-- what stays while an expression is read -/
def EBm (F F' : Nat → Int32) (A A' : Nat → Nat → Int32) (c s : Int) : Prop := (∀ q, q ∉ ([11, 12, 13, 14, 56, 60] : List Nat) → F' q = F q) ∧ (∀ q, q ∉ ([42, 43, 44] : List Nat) → A' q = A q) ∧ OBm A A' c s ∧ (F 11).toInt ≤ (F' 11).toInt ∧ (1 ≤ (F 13).toInt → 1 ≤ (F' 13).toInt)
section EXB
variable {F F' F1 : Nat → Int32} {A A' A1 : Nat → Nat → Int32} {c s : Int}
theorem OBm.tr (h : OBm A A1 c s) (h' : OBm A1 A' c s) : OBm A A' c s := fun i p q => ⟨(h' i p q).1.trans (h i p q).1, (h' i p q).2.trans (h i p q).2⟩
theorem OBm.fr (h42 : A' 42 = A 42) (h43 : A' 43 = A 43) : OBm A A' c s := fun i _ _ => ⟨by rw [ai_fr h42], by rw [ai_fr h43]⟩
theorem EBm.go (h : EBm F F1 A A1 c s) (oF : ∀ q, q ∉ ([11, 12, 13, 14, 56, 60] : List Nat) → F' q = F1 q) (oA : ∀ q, q ∉ ([42, 43, 44] : List Nat) → A' q = A1 q) (ob : OBm A1 A' c s) (h11 : (F1 11).toInt ≤ (F' 11).toInt) (h13 : 1 ≤ (F1 13).toInt → 1 ≤ (F' 13).toInt) : EBm F F' A A' c s :=
  ⟨fun q hq => (oF q hq).trans (h.1 q hq), fun q hq => (oA q hq).trans (h.2.1 q hq), h.2.2.1.tr ob, by have := h.2.2.2.1; omega, fun q => h13 (h.2.2.2.2 q)⟩
theorem EBm.rfl' : EBm F F A A c s := ⟨fun _ _ => rfl, fun _ _ => rfl, fun _ _ _ => ⟨rfl, rfl⟩, Int.le_refl _, id⟩
end EXB
