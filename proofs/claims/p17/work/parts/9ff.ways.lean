/-! the ways at night: the class's are the reference's row 49 -/
section H9ff
variable {n m h : Nat} {F F' : Nat → Nat → Int32} {A A' : Nat → Nat → Nat → Int32} {Fm : Nat → Int32} {Am Am' : Nat → Nat → Int32} {Jm : Nat → Nat → Int64} {b : mR Unit}
theorem NHx.dr (H : NHx h F A Fm Am) : DRx (F h 13).toInt (F h 14).toInt h F A Fm Am := by
  have hy := H.hy.1
  have w := H.2.1.1
  have e : F h 14 = Am 12 (Fm 18).toInt.toNat := H.1.2.1
  refine ⟨rfl, by rw [← e], H.sd.1, H.sd.2, fun k k0 k1 => ?_⟩
  obtain ⟨a, b, c1, c2⟩ := hy k k0 k1
  have d := w k k0 k1
  exact ⟨a, b, ⟨by omega, by omega⟩, d.1, d.2.1, d.2.2⟩
theorem DRx.cgF {r nd : Int} (D : DRx r nd h F A Fm Am) (hF : ∀ k, F' h k = F h k) (hA : ∀ o, o ≠ 17 → A' h o = A h o) : DRx r nd h F' A' Fm Am := by
  unfold DRx
  rw [hF, ci_fr (hA 1 (by decide)), ci_fr (hA 2 (by decide)), ci_fr (hA 3 (by decide))]
  exact D
theorem WD_of (H : NHx h F A Fm Am) (hb : d_fillsWays m Fm Am Jm = some b) : WDx h F A (Am 48 78) (mx b.2.2.1) := by
  intro n n' P F1 A1 J f a r hr
  have ct := H.ct
  have n36 : h ≠ 36 := fun e => absurd H.kd (by rw [e]; decide)
  have D := H.dr.cgF f a
  have w := p2_ways (r := (F h 13).toInt) (by omega) (by omega) (by omega) n36 (by rw [f 13]) D rfl r b hr hb
  exact fun x y x0 x1 y0 y1 => w.2 x y x0 x1 y0 y1
end H9ff
