/-! the rows of the house that is read, on both sides -/
section A5z
variable {d j : Nat} {nd nt nk nm s x : Int} {F F' : Nat → Nat → Int32} {A A' : Nat → Nat → Nat → Int32} {Fm Fm' : Nat → Int32} {Am Am' : Nat → Nat → Int32}
/-- the doors that are shut, as bits -/
def shv (f : Int → Int) : Nat → Int32
  | 0 => 0
  | n + 1 => if f n = 0 then shv f n else shv f n ||| ((1 : Int32) <<< (Int32.ofNat n &&& 31))
theorem shv_s (f : Int → Int) (n : Nat) : shv f (n + 1) = if f n = 0 then shv f n else shv f n ||| ((1 : Int32) <<< (Int32.ofNat n &&& 31)) := rfl
theorem shv_cg {f g : Int → Int} : ∀ {n : Nat}, (∀ k : Int, 0 ≤ k → k < n → f k = g k) → shv f n = shv g n
  | 0, _ => rfl
  | n + 1, h => by
    unfold shv
    rw [h n (by omega) (by omega), shv_cg (fun k k0 k1 => h k k0 (by omega))]
/-- nothing: -2 in the class, -1 in the reference -/
def NNx (a b : Int) : Prop := a = b ∨ (a = -2 ∧ b = -1)
/-- what a man left -/
def LFx (a t u : Int32) : Prop := (a = -1 ∧ t = -1 ∧ u = -1) ∨ a = t * 6 + u
def RWd (nd s : Int) (d : Nat) (F : Nat → Nat → Int32) (A : Nat → Nat → Nat → Int32) (Am : Nat → Nat → Int32) : Prop := (∀ k : Int, 0 ≤ k → k < nd → ci A d 1 k = ai Am 13 (12 * s + k) ∧ ci A d 2 k = ai Am 14 (12 * s + k) ∧ ci A d 3 k = ai Am 15 (12 * s + k)) ∧ F 3 7 = shv (fun k => ai Am 16 (12 * s + k)) nd.toNat
def RWt (nt s : Int) (A : Nat → Nat → Nat → Int32) (Am : Nat → Nat → Int32) : Prop := (∀ k : Int, 0 ≤ k → k < nt → ci A 3 4 k = ai Am 18 (6 * s + k)) ∧ (∀ k : Int, nt ≤ k → k < 6 → ci A 3 4 k = 0)
def RWk (nk s : Int) (d : Nat) (A : Nat → Nat → Nat → Int32) (Am : Nat → Nat → Int32) : Prop := (∀ k : Int, 0 ≤ k → k < nk → ci A d 4 k = ai Am 20 (6 * s + k) ∧ ci A 3 2 k = ai Am 21 (6 * s + k)) ∧ (∀ k : Int, nk ≤ k → k < 6 → ci A 3 2 k = 0)
def RWs (nk s : Int) (d : Nat) (A : Nat → Nat → Nat → Int32) (Am : Nat → Nat → Int32) : Prop := ∀ t u : Int, 0 ≤ t → t < nk → 0 ≤ u → u < ci A d 5 t → ci A d 6 (t * 6 + u) = ai Am 23 (6 * (6 * s + t) + u) ∧ ci A d 7 (t * 6 + u) = ai Am 24 (6 * (6 * s + t) + u) ∧ ci A d 8 (t * 6 + u) = ai Am 25 (6 * (6 * s + t) + u) ∧ ci A d 9 (t * 6 + u) = ai Am 26 (6 * (6 * s + t) + u) ∧ NNx (ci A d 10 (t * 6 + u)) (ai Am 27 (6 * (6 * s + t) + u)) ∧ NNx (ci A d 11 (t * 6 + u)) (ai Am 28 (6 * (6 * s + t) + u))
def RWm (nm s : Int) (d : Nat) (A : Nat → Nat → Nat → Int32) (Am : Nat → Nat → Int32) : Prop := (∀ k : Int, 0 ≤ k → k < nm → ci A d 12 k = ai Am 30 (6 * s + k) ∧ LFx (A 3 3 k.toNat) (Am 31 (6 * s + k).toNat) (Am 32 (6 * s + k).toNat)) ∧ (∀ k : Int, nm ≤ k → k < 6 → ci A 3 3 k = -1)
def RWz (F : Nat → Nat → Int32) (A : Nat → Nat → Nat → Int32) : Prop := (∀ k : Int, 0 ≤ k → k < 36 → ci A 3 1 k = 0) ∧ (∀ k : Int, 0 ≤ k → k < 6 → ci A 3 5 k = 0 ∧ ci A 3 6 k = 0 ∧ ci A 3 7 k = -2) ∧ F 3 8 = 0
def RWn (s : Int) (d : Nat) (F : Nat → Nat → Int32) (Am : Nat → Nat → Int32) : Prop := F d 18 = Am 41 s.toNat
/-- the house that is read, and its first evening, row by row: with nd doors, nt tools, nk tasks, nm men -/
def RWc (nd nt nk nm : Int) (d : Nat) (F : Nat → Nat → Int32) (A : Nat → Nat → Nat → Int32) (Fm : Nat → Int32) (Am : Nat → Nat → Int32) : Prop := RWd nd (Fm 19).toInt d F A Am ∧ RWt nt (Fm 19).toInt A Am ∧ RWk nk (Fm 19).toInt d A Am ∧ RWs nk (Fm 19).toInt d A Am ∧ RWm nm (Fm 19).toInt d A Am ∧ RWz F A ∧ RWn (Fm 19).toInt d F Am
abbrev RW (d : Nat) (F : Nat → Nat → Int32) (A : Nat → Nat → Nat → Int32) (Fm : Nat → Int32) (Am : Nat → Nat → Int32) : Prop := RWc (F d 14).toInt (F d 15).toInt (F d 16).toInt (F d 17).toInt d F A Fm Am
/-- where the reference's rows count -/
def RLg (nd nt nk nm s : Int) (f : Int → Int) (j : Nat) (i : Int) : Prop := ((j = 13 ∨ j = 14 ∨ j = 15 ∨ j = 16) ∧ 12 * s ≤ i ∧ i < 12 * s + nd) ∨ (j = 18 ∧ 6 * s ≤ i ∧ i < 6 * s + nt) ∨ ((j = 20 ∨ j = 21) ∧ 6 * s ≤ i ∧ i < 6 * s + nk) ∨ ((j = 23 ∨ j = 24 ∨ j = 25 ∨ j = 26 ∨ j = 27 ∨ j = 28) ∧ ∃ t u : Int, 0 ≤ t ∧ t < nk ∧ 0 ≤ u ∧ u < f t ∧ i = 6 * (6 * s + t) + u) ∨ ((j = 30 ∨ j = 31 ∨ j = 32) ∧ 6 * s ≤ i ∧ i < 6 * s + nm) ∨ (j = 41 ∧ i = s)
theorem RLg.cs {f : Int → Int} {i : Int} (h : RLg nd nt nk nm s f j i) : ((j = 13 ∨ j = 14 ∨ j = 15 ∨ j = 16) ∧ 12 * s ≤ i ∧ i < 12 * s + nd) ∨ (j = 18 ∧ 6 * s ≤ i ∧ i < 6 * s + nt) ∨ ((j = 20 ∨ j = 21) ∧ 6 * s ≤ i ∧ i < 6 * s + nk) ∨ ((j = 23 ∨ j = 24 ∨ j = 25 ∨ j = 26 ∨ j = 27 ∨ j = 28) ∧ 36 * s ≤ i) ∨ ((j = 30 ∨ j = 31 ∨ j = 32) ∧ 6 * s ≤ i ∧ i < 6 * s + nm) ∨ (j = 41 ∧ i = s) := by
  rcases h with h | h | h | ⟨h, t, u, t0, t1, u0, u1, e⟩ | h | h
  · exact .inl h
  · exact .inr (.inl h)
  · exact .inr (.inr (.inl h))
  · exact .inr (.inr (.inr (.inl ⟨h, by omega⟩)))
  · exact .inr (.inr (.inr (.inr (.inl h))))
  · exact .inr (.inr (.inr (.inr (.inr h))))
theorem RWc.m (W : RWc nd nt nk nm d F A Fm Am) (hs : 0 ≤ (Fm 19).toInt) (e19 : Fm' 19 = Fm 19) (h : ∀ j i, RLg nd nt nk nm (Fm 19).toInt (ci A d 5) j i → ai Am' j i = ai Am j i) : RWc nd nt nk nm d F A Fm' Am' := by
  obtain ⟨⟨a1, a2⟩, ⟨b1, b2⟩, ⟨c1, c2⟩, w, ⟨m1, m2⟩, z, n⟩ := W
  unfold RWc
  rw [e19]
  refine ⟨⟨fun k k0 k1 => ?_, ?_⟩, ⟨fun k k0 k1 => ?_, b2⟩, ⟨fun k k0 k1 => ?_, c2⟩, fun t u t0 t1 u0 u1 => ?_, ⟨fun k k0 k1 => ?_, m2⟩, z, ?_⟩
  · rw [h 13 (12 * (Fm 19).toInt + k) (.inl ⟨by omega, by omega, by omega⟩), h 14 (12 * (Fm 19).toInt + k) (.inl ⟨by omega, by omega, by omega⟩), h 15 (12 * (Fm 19).toInt + k) (.inl ⟨by omega, by omega, by omega⟩)]
    exact a1 k k0 k1
  · rw [a2]
    exact shv_cg (fun k k0 k1 => (h 16 (12 * (Fm 19).toInt + k) (.inl ⟨by omega, by omega, by omega⟩)).symm)
  · rw [h 18 (6 * (Fm 19).toInt + k) (.inr (.inl ⟨rfl, by omega, by omega⟩))]
    exact b1 k k0 k1
  · rw [h 20 (6 * (Fm 19).toInt + k) (.inr (.inr (.inl ⟨by omega, by omega, by omega⟩))), h 21 (6 * (Fm 19).toInt + k) (.inr (.inr (.inl ⟨by omega, by omega, by omega⟩)))]
    exact c1 k k0 k1
  · have q : ∀ j, (j = 23 ∨ j = 24 ∨ j = 25 ∨ j = 26 ∨ j = 27 ∨ j = 28) → ai Am' j (6 * (6 * (Fm 19).toInt + t) + u) = ai Am j (6 * (6 * (Fm 19).toInt + t) + u) := fun j hj => h j _ (.inr (.inr (.inr (.inl ⟨hj, t, u, t0, t1, u0, u1, rfl⟩))))
    rw [q 23 (by omega), q 24 (by omega), q 25 (by omega), q 26 (by omega), q 27 (by omega), q 28 (by omega)]
    exact w t u t0 t1 u0 u1
  · have q : ∀ j, (j = 30 ∨ j = 31 ∨ j = 32) → ai Am' j (6 * (Fm 19).toInt + k) = ai Am j (6 * (Fm 19).toInt + k) := fun j hj => h j _ (.inr (.inr (.inr (.inr (.inl ⟨hj, by omega, by omega⟩)))))
    rw [q 30 (by omega), i_ext (q 31 (by omega)), i_ext (q 32 (by omega))]
    exact m1 k k0 k1
  · unfold RWn at n ⊢
    rw [n]
    exact i_ext (h 41 (Fm 19).toInt (.inr (.inr (.inr (.inr (.inr ⟨rfl, rfl⟩)))))).symm
/-- rows by which nothing is told have changed -/
theorem RWc.fr (W : RWc nd nt nk nm d F A Fm Am) (hs : 0 ≤ (Fm 19).toInt) (h7 : F' 3 7 = F 3 7) (h8 : F' 3 8 = F 3 8) (h18 : F' d 18 = F d 18) (h3 : ∀ o, A' 3 o = A 3 o) (hA : ∀ o, 1 ≤ o → o ≤ 12 → A' d o = A d o) (e19 : Fm' 19 = Fm 19) (hM : ∀ q, 13 ≤ q → q ≤ 41 → q ≤ 32 ∨ q = 41 → q ≠ 17 → q ≠ 19 → q ≠ 22 → q ≠ 29 → Am' q = Am q) : RWc nd nt nk nm d F' A' Fm' Am' := by
  have W2 := W.m (Fm' := Fm') (Am' := Am') hs e19 (fun j i h => by
    rw [ai_fr (hM j (by have h := RLg.cs h; omega) (by have h := RLg.cs h; omega) (by have h := RLg.cs h; omega) (by have h := RLg.cs h; omega) (by have h := RLg.cs h; omega) (by have h := RLg.cs h; omega) (by have h := RLg.cs h; omega))])
  unfold RWc RWd RWt RWk RWs RWm RWz RWn at W2 ⊢
  rw [h7, h8, h18, ci_fr (h3 1), ci_fr (h3 2), ci_fr (h3 3), ci_fr (h3 4), ci_fr (h3 5), ci_fr (h3 6), ci_fr (h3 7), h3 3, ci_fr (hA 1 (by decide) (by decide)), ci_fr (hA 2 (by decide) (by decide)), ci_fr (hA 3 (by decide) (by decide)), ci_fr (hA 4 (by decide) (by decide)), ci_fr (hA 5 (by decide) (by decide)), ci_fr (hA 6 (by decide) (by decide)), ci_fr (hA 7 (by decide) (by decide)), ci_fr (hA 8 (by decide) (by decide)), ci_fr (hA 9 (by decide) (by decide)), ci_fr (hA 10 (by decide) (by decide)), ci_fr (hA 11 (by decide) (by decide)), ci_fr (hA 12 (by decide) (by decide))]
  exact W2
/-- the reference has written behind what counts -/
theorem RWc.st (W : RWc nd nt nk nm d F A Fm Am) (hs : 0 ≤ (Fm 19).toInt) (o : ∀ q, q ≠ j → Am' q = Am q) (n : ∀ i, 0 ≤ i → i ≠ x → ai Am' j i = ai Am j i) (hx : ∀ i, RLg nd nt nk nm (Fm 19).toInt (ci A d 5) j i → 0 ≤ i ∧ i ≠ x) : RWc nd nt nk nm d F A Fm Am' :=
  W.m hs rfl (fun q i h => by
    by_cases e : q = j
    · subst e
      exact n i (hx i h).1 (hx i h).2
    · rw [ai_fr (o q e)])
theorem RWc.v (W : RWc nd nt nk nm d F A Fm Am) (hs : 0 ≤ (Fm 19).toInt) (hd : d ≠ 37) (fc : FrC F F') (fm : FrM Fm Fm') : RWc nd nt nk nm d F' A Fm' Am :=
  W.fr hs (fc 3 7 (by decide)) (fc 3 8 (by decide)) (fc d 18 (fun e => hd e.1)) (fun _ => rfl) (fun _ _ _ => rfl) (fm 19 (by decide) (by decide) (by decide) (by decide) (by decide)) (fun _ _ _ _ _ _ _ _ => rfl)
/-- one door more -/
theorem RWd.add (W : RWd nd s d F A Am) (h0 : 0 ≤ nd) (r1 : ∀ k, 0 ≤ k → k < nd → ci A' d 1 k = ci A d 1 k) (r2 : ∀ k, 0 ≤ k → k < nd → ci A' d 2 k = ci A d 2 k) (r3 : ∀ k, 0 ≤ k → k < nd → ci A' d 3 k = ci A d 3 k) (b1 : ci A' d 1 nd = ai Am 13 (12 * s + nd)) (b2 : ci A' d 2 nd = ai Am 14 (12 * s + nd)) (b3 : ci A' d 3 nd = ai Am 15 (12 * s + nd)) (b7 : F' 3 7 = if ai Am 16 (12 * s + nd) = 0 then F 3 7 else F 3 7 ||| ((1 : Int32) <<< (Int32.ofNat nd.toNat &&& 31))) : RWd (nd + 1) s d F' A' Am := by
  refine ⟨fun k k0 k1 => ?_, ?_⟩
  · by_cases e : k = nd
    · subst e
      exact ⟨b1, b2, b3⟩
    · rw [r1 k k0 (by omega), r2 k k0 (by omega), r3 k k0 (by omega)]
      exact W.1 k k0 (by omega)
  · have e : (nd + 1).toNat = nd.toNat + 1 := by omega
    have e2 : ((nd.toNat : Nat) : Int) = nd := by omega
    rw [b7, W.2, e, shv_s]
    simp only [e2]
theorem RWt.add (W : RWt nt s A Am) (r : ∀ k, 0 ≤ k → k < 6 → k ≠ nt → ci A' 3 4 k = ci A 3 4 k) (h6 : nt < 6) (b : ci A' 3 4 nt = ai Am 18 (6 * s + nt)) (h0 : 0 ≤ nt) : RWt (nt + 1) s A' Am := by
  refine ⟨fun k k0 k1 => ?_, fun k k0 k1 => ?_⟩
  · by_cases e : k = nt
    · subst e; exact b
    · rw [r k k0 (by omega) e]; exact W.1 k k0 (by omega)
  · rw [r k (by omega) k1 (by omega)]; exact W.2 k (by omega) k1
theorem RWk.add (W : RWk nk s d A Am) (r : ∀ k, 0 ≤ k → k < 6 → k ≠ nk → ci A' d 4 k = ci A d 4 k ∧ ci A' 3 2 k = ci A 3 2 k) (h6 : nk < 6) (b : ci A' d 4 nk = ai Am 20 (6 * s + nk)) (b2 : ci A' 3 2 nk = ai Am 21 (6 * s + nk)) (h0 : 0 ≤ nk) : RWk (nk + 1) s d A' Am := by
  refine ⟨fun k k0 k1 => ?_, fun k k0 k1 => ?_⟩
  · by_cases e : k = nk
    · subst e; exact ⟨b, b2⟩
    · rw [(r k k0 (by omega) e).1, (r k k0 (by omega) e).2]; exact W.1 k k0 (by omega)
  · rw [(r k (by omega) k1 (by omega)).2]; exact W.2 k (by omega) k1
theorem RWs.add (W : RWs nk s d A Am) (r : ∀ o, 5 ≤ o → o ≤ 11 → A' d o = A d o) (z : ci A d 5 nk = 0) : RWs (nk + 1) s d A' Am := by
  intro t u t0 t1 u0 u1
  rw [ci_fr (r 5 (by decide) (by decide))] at u1
  have e : t ≠ nk := fun e => by rw [e] at u1; omega
  rw [ci_fr (r 6 (by decide) (by decide)), ci_fr (r 7 (by decide) (by decide)), ci_fr (r 8 (by decide) (by decide)), ci_fr (r 9 (by decide) (by decide)), ci_fr (r 10 (by decide) (by decide)), ci_fr (r 11 (by decide) (by decide))]
  exact W t u t0 (by omega) u0 u1
theorem RWm.add (W : RWm nm s d A Am) (r : ∀ k, 0 ≤ k → k < 6 → k ≠ nm → ci A' d 12 k = ci A d 12 k ∧ ci A' 3 3 k = ci A 3 3 k) (h6 : nm < 6) (b : ci A' d 12 nm = ai Am 30 (6 * s + nm)) (b2 : LFx (A' 3 3 nm.toNat) (Am 31 (6 * s + nm).toNat) (Am 32 (6 * s + nm).toNat)) (h0 : 0 ≤ nm) : RWm (nm + 1) s d A' Am := by
  refine ⟨fun k k0 k1 => ?_, fun k k0 k1 => ?_⟩
  · by_cases e : k = nm
    · subst e; exact ⟨b, b2⟩
    · have r3 : A' 3 3 k.toNat = A 3 3 k.toNat := i_ext (r k k0 (by omega) e).2
      rw [(r k k0 (by omega) e).1, r3]; exact W.1 k k0 (by omega)
  · rw [(r k (by omega) k1 (by omega)).2]; exact W.2 k (by omega) k1
theorem RW.v (W : RW d F A Fm Am) (hs : 0 ≤ (Fm 19).toInt) (hd : d ≠ 37) (fc : FrC F F') (fm : FrM Fm Fm') : RW d F' A Fm' Am := by
  have h := RWc.v W hs hd fc fm
  show RWc (F' d 14).toInt (F' d 15).toInt (F' d 16).toInt (F' d 17).toInt d F' A Fm' Am
  rw [fc d 14 (fun e => hd e.1), fc d 15 (fun e => hd e.1), fc d 16 (fun e => hd e.1), fc d 17 (fun e => hd e.1)]
  exact h
theorem RWd.ca (W : RWd nd s d F A Am) (h : ∀ o, 1 ≤ o → o ≤ 3 → A' d o = A d o) : RWd nd s d F A' Am := by
  unfold RWd
  rw [ci_fr (h 1 (by decide) (by decide)), ci_fr (h 2 (by decide) (by decide)), ci_fr (h 3 (by decide) (by decide))]
  exact W
theorem RWt.ca (W : RWt nt s A Am) (h : A' 3 4 = A 3 4) : RWt nt s A' Am := by
  unfold RWt
  rw [ci_fr h]
  exact W
theorem RWk.ca (W : RWk nk s d A Am) (h : A' d 4 = A d 4) (h2 : A' 3 2 = A 3 2) : RWk nk s d A' Am := by
  unfold RWk
  rw [ci_fr h, ci_fr h2]
  exact W
theorem RWs.ca (W : RWs nk s d A Am) (r : ∀ o, 5 ≤ o → o ≤ 11 → A' d o = A d o) : RWs nk s d A' Am := by
  unfold RWs
  rw [ci_fr (r 5 (by decide) (by decide)), ci_fr (r 6 (by decide) (by decide)), ci_fr (r 7 (by decide) (by decide)), ci_fr (r 8 (by decide) (by decide)), ci_fr (r 9 (by decide) (by decide)), ci_fr (r 10 (by decide) (by decide)), ci_fr (r 11 (by decide) (by decide))]
  exact W
theorem RWm.ca (W : RWm nm s d A Am) (h : A' d 12 = A d 12) (h2 : A' 3 3 = A 3 3) : RWm nm s d A' Am := by
  unfold RWm
  rw [ci_fr h, ci_fr h2, h2]
  exact W
theorem RWz.ca (W : RWz F A) (h : ∀ o, o = 1 ∨ o = 5 ∨ o = 6 ∨ o = 7 → A' 3 o = A 3 o) : RWz F A' := by
  unfold RWz
  rw [ci_fr (h 1 (by omega)), ci_fr (h 5 (by omega)), ci_fr (h 6 (by omega)), ci_fr (h 7 (by omega))]
  exact W
theorem RW.fr (W : RW d F A Fm Am) (hs : 0 ≤ (Fm 19).toInt) (hF : ∀ k, 14 ≤ k → k ≤ 18 → F' d k = F d k) (h7 : F' 3 7 = F 3 7) (h8 : F' 3 8 = F 3 8) (h3 : ∀ o, A' 3 o = A 3 o) (hA : ∀ o, 1 ≤ o → o ≤ 12 → A' d o = A d o) (e19 : Fm' 19 = Fm 19) (hM : ∀ q, 13 ≤ q → q ≤ 41 → q ≤ 32 ∨ q = 41 → q ≠ 17 → q ≠ 19 → q ≠ 22 → q ≠ 29 → Am' q = Am q) : RW d F' A' Fm' Am' := by
  have h := RWc.fr W hs h7 h8 (hF 18 (by decide) (by decide)) h3 hA e19 hM
  show RWc (F' d 14).toInt (F' d 15).toInt (F' d 16).toInt (F' d 17).toInt d F' A' Fm' Am'
  rw [hF 14 (by decide) (by decide), hF 15 (by decide) (by decide), hF 16 (by decide) (by decide), hF 17 (by decide) (by decide)]
  exact h
/-- one step more -/
theorem RWs.put {v c : Int} (W : RWs nk s d A Am) (hs : 0 ≤ s) (v0 : 0 ≤ v) (c0 : 0 ≤ c) (c6 : c < 6) (hc : ci A d 5 v = c) (h6 : ∀ t, 0 ≤ t → ci A d 5 t ≤ 6) (a5 : ci A' d 5 v = c + 1) (a5' : ∀ t, 0 ≤ t → t ≠ v → ci A' d 5 t = ci A d 5 t) (ra : ∀ o, 6 ≤ o → o ≤ 11 → ∀ i, 0 ≤ i → i ≠ v * 6 + c → ci A' d o i = ci A d o i) (rm : ∀ j, 23 ≤ j → j ≤ 28 → ∀ i, 0 ≤ i → i ≠ 6 * (6 * s + v) + c → ai Am' j i = ai Am j i) (n1 : ci A' d 6 (v * 6 + c) = ai Am' 23 (6 * (6 * s + v) + c)) (n2 : ci A' d 7 (v * 6 + c) = ai Am' 24 (6 * (6 * s + v) + c)) (n3 : ci A' d 8 (v * 6 + c) = ai Am' 25 (6 * (6 * s + v) + c)) (n4 : ci A' d 9 (v * 6 + c) = ai Am' 26 (6 * (6 * s + v) + c)) (n5 : NNx (ci A' d 10 (v * 6 + c)) (ai Am' 27 (6 * (6 * s + v) + c))) (n6 : NNx (ci A' d 11 (v * 6 + c)) (ai Am' 28 (6 * (6 * s + v) + c))) : RWs nk s d A' Am' := by
  intro t u t0 t1 u0 u1
  by_cases e : t = v ∧ u = c
  · obtain ⟨rfl, rfl⟩ := e
    exact ⟨n1, n2, n3, n4, n5, n6⟩
  · have lt : u < ci A d 5 t := by
      by_cases e2 : t = v
      · subst e2
        have : u ≠ c := fun h => e ⟨rfl, h⟩
        omega
      · rw [a5' t t0 e2] at u1; exact u1
    have l6 := h6 t t0
    have ne : t * 6 + u ≠ v * 6 + c := by omega
    have ne2 : 6 * (6 * s + t) + u ≠ 6 * (6 * s + v) + c := by omega
    have i0 : 0 ≤ t * 6 + u := by omega
    have j0 : 0 ≤ 6 * (6 * s + t) + u := by omega
    rw [ra 6 (by decide) (by decide) _ i0 ne, ra 7 (by decide) (by decide) _ i0 ne, ra 8 (by decide) (by decide) _ i0 ne, ra 9 (by decide) (by decide) _ i0 ne, ra 10 (by decide) (by decide) _ i0 ne, ra 11 (by decide) (by decide) _ i0 ne, rm 23 (by decide) (by decide) _ j0 ne2, rm 24 (by decide) (by decide) _ j0 ne2, rm 25 (by decide) (by decide) _ j0 ne2, rm 26 (by decide) (by decide) _ j0 ne2, rm 27 (by decide) (by decide) _ j0 ne2, rm 28 (by decide) (by decide) _ j0 ne2]
    exact W t u t0 t1 u0 lt
/-- one more of a kind -/
def nx (q q' : Nat) (c : Int) : Int := if q = q' then c + 1 else c
end A5z
