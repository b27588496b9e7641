/-! what the tape's calls and bars leave of all that is shared (frames printed by wip/frames.py with wip/nt/rules.g) -/
section H9fj
variable {P0 P P' : Nat → Nat → Nat} {F0 F F' : Nat → Nat → Int32} {A0 A A' : Nat → Nat → Nat → Int32} {Fm Fm' : Nat → Int32} {Am Am' : Nat → Nat → Int32}
/-- the tape alone has changed -/
def TGx (P0 : Nat → Nat → Nat) (F0 : Nat → Nat → Int32) (A0 : Nat → Nat → Nat → Int32) (P : Nat → Nat → Nat) (F : Nat → Nat → Int32) (A : Nat → Nat → Nat → Int32) : Prop := P = P0 ∧ (∀ r k, r ≠ 1 → F r k = F0 r k) ∧ ∀ r o, r ≠ 1 → A r o = A0 r o
theorem TGx.rfl' : TGx P F A P F A := ⟨rfl, fun _ _ _ => rfl, fun _ _ _ => rfl⟩
theorem tg_pf {γ : Type} {k : Nat} {x : Int32} {g : (Nat → Nat → Int32) → Option γ} {Q : γ → Prop} (h : TGx P0 F0 A0 P F A) (kk : ∀ F', TGx P0 F0 A0 P F' A → po (g F') Q) : po ((c_pf F 1 k x).bind g) Q :=
  po_bl (fun F' e => kk F' ⟨h.1, fun r k hr => ((gg_cpf e).2 r k (fun e => hr e.1)).trans (h.2.1 r k hr), h.2.2⟩)
theorem tg_st {γ : Type} {o n : Nat} {i x : Int32} {g : (Nat → Nat → Nat → Int32) → Option γ} {Q : γ → Prop} (h : TGx P0 F0 A0 P F A) (kk : ∀ A', TGx P0 F0 A0 P F A' → po (g A') Q) : po ((c_st A 1 o n i x).bind g) Q :=
  po_bl (fun A' e => kk A' ⟨h.1, h.2.1, fun r o hr => ((gg_cst e).2.2.2.2 r o (fun e => hr e.1)).trans (h.2.2 r o hr)⟩)
theorem tg_e_Tape_addWord_3   : ∀ {n : Nat} {P : Nat → Nat → Nat} {F : Nat → Nat → Int32} {A : Nat → Nat → Nat → Int32} {J : Nat → Nat → Nat → Int64} {x1 : Int32} {x2 : Int32}, TGx P0 F0 A0 P F A → po (e_Tape_addWord_3  n P F A J x1 x2) (fun r => TGx P0 F0 A0 r.2.1 r.2.2.1 r.2.2.2.1) := by
  intro n
  induction n with
  | zero => intro P F A J x1 x2 _ r hr; cases hr
  | succ n ih =>
    intro P F A J x1 x2 h
    unfold e_Tape_addWord_3
    repeat' (first
      | with_reducible exact po_some (by assumption)
      | (with_reducible refine tg_pf (by assumption) ?_; intro _ _)
      | (with_reducible refine tg_st (by assumption) ?_; intro _ _)
      | with_reducible exact ih (by assumption)
      | (with_reducible refine po_call (ih (by assumption)) ?_; rintro ⟨_, _, _, _, _⟩ _; try dsimp only)
      | (intros; with_reducible exact ih (by assumption))
      | with_reducible refine po_cond (fun _ => ?_) (fun _ => ?_)
      | with_reducible refine po_bind_cond (fun _ => ?_) (fun _ => ?_)
      | with_reducible refine po_bl (fun _ _ => ?_))
theorem tg_e_Tape_addWord {n : Nat} {P : Nat → Nat → Nat} {F : Nat → Nat → Int32} {A : Nat → Nat → Nat → Int32} {J : Nat → Nat → Nat → Int64} {x1 : Int32}  (h : TGx P0 F0 A0 P F A) : po (e_Tape_addWord n P F A J x1) (fun r => TGx P0 F0 A0 r.2.1 r.2.2.1 r.2.2.2.1) := by
  unfold e_Tape_addWord
  repeat' (first
    | with_reducible exact po_some (by assumption)
    | (with_reducible refine tg_pf (by assumption) ?_; intro _ _)
    | (with_reducible refine tg_st (by assumption) ?_; intro _ _)
    | with_reducible exact tg_e_Tape_addWord_3 (by assumption)
    | (with_reducible refine po_call (tg_e_Tape_addWord_3 (by assumption)) ?_; rintro ⟨_, _, _, _, _⟩ _; try dsimp only)
    | with_reducible refine po_cond (fun _ => ?_) (fun _ => ?_)
    | with_reducible refine po_bind_cond (fun _ => ?_) (fun _ => ?_)
    | with_reducible refine po_bl (fun _ _ => ?_))
theorem tg_e_SleepWork_feed {n : Nat} {P : Nat → Nat → Nat} {F : Nat → Nat → Int32} {A : Nat → Nat → Nat → Int32} {J : Nat → Nat → Nat → Int64} {x1 : Int32} {x2 : Int32} {x3 : Int32} {x4 : Int32} {x5 : Int32}  (h : TGx P0 F0 A0 P F A) : po (e_SleepWork_feed n P F A J x1 x2 x3 x4 x5) (fun r => TGx P0 F0 A0 r.2.1 r.2.2.1 r.2.2.2.1) := by
  unfold e_SleepWork_feed
  repeat' (first
    | with_reducible exact po_some (by assumption)
    | (with_reducible refine tg_pf (by assumption) ?_; intro _ _)
    | (with_reducible refine tg_st (by assumption) ?_; intro _ _)
    | with_reducible exact tg_e_Tape_addWord (by assumption)
    | (with_reducible refine po_call (tg_e_Tape_addWord (by assumption)) ?_; rintro ⟨_, _, _, _, _⟩ _; try dsimp only)
    | with_reducible refine po_cond (fun _ => ?_) (fun _ => ?_)
    | with_reducible refine po_bind_cond (fun _ => ?_) (fun _ => ?_)
    | with_reducible refine po_bl (fun _ _ => ?_))
theorem tg_e_SleepWork_back {P : Nat → Nat → Nat} {F : Nat → Nat → Int32} {A : Nat → Nat → Nat → Int32} {J : Nat → Nat → Nat → Int64} {x1 : Int32}  (h : TGx P0 F0 A0 P F A) : po (e_SleepWork_back P F A J x1) (fun r => TGx P0 F0 A0 r.2.1 r.2.2.1 r.2.2.2.1) := by
  unfold e_SleepWork_back
  repeat' (first
    | with_reducible exact po_some (by assumption)
    | (with_reducible refine tg_pf (by assumption) ?_; intro _ _)
    | (with_reducible refine tg_st (by assumption) ?_; intro _ _)
    | with_reducible refine po_cond (fun _ => ?_) (fun _ => ?_)
    | with_reducible refine po_bind_cond (fun _ => ?_) (fun _ => ?_)
    | with_reducible refine po_bl (fun _ _ => ?_))
/-- all that is shared stays, whatever comes onto the tapes -/
theorem XR.tape (X : XR P F A Fm Am) (G : Gc P F A) (g : TGx P F A P' F' A') (e : ∀ q, q ≠ 2 → Fm' q = Fm q) (m : ∀ q, q ≠ 1 → Am' q = Am q) : XR P' F' A' Fm' Am' := by
  obtain ⟨N, C, Y, W, T⟩ := X
  obtain ⟨rfl, hF, hA⟩ := g
  have n1 : P' 0 8 ≠ 1 := fun e => absurd G.k08 (by rw [e]; decide)
  have hF8 : ∀ k, F' (P' 0 8) k = F (P' 0 8) k := fun k => hF _ k n1
  have hA8 : ∀ o, A' (P' 0 8) o = A (P' 0 8) o := fun o => hA _ o n1
  have hS : SOK (SS (P' 0 8) F A) := SS.ok N.ct.2.2.2.2.2
  have sr : ∀ r : Nat, r ≠ 1 → SE (F r) (F' r) (A r) (A' r) := fun r h1 => .of (fun k => hF r k h1) (fun o => hA r o h1)
  have Y' : YS (SS (P' 0 8) F A) F' A' Fm' Am' := by
    refine ⟨Y.1.cg hS (sr 2 (by decide)) (fun i _ _ => by unfold ai; rw [m 47 (by decide)]), ?_, Y.2.2.cg hS (fun r r0 r1 => sr r (by omega)) (m 61 (by decide)) (m 62 (by decide))⟩
    rw [e 74 (by decide)]
    exact Y.2.1.cg hS (by rw [hF 4 1 (by decide)]) (fun r r0 r1 => sr r (by omega)) (m 57 (by decide))
  refine ⟨N.fr hF8 (fun o _ => hA8 o) (e 18 (by decide)) (fun q a b => m q (by omega)), ⟨by rw [hF 25 2 (by decide), e 77 (by decide)]; exact C.1, by rw [hF 4 2 (by decide), e 74 (by decide)]; exact C.2.1, fun s hs => by rw [hF 0 10 (by decide), m 61 (by decide)]; exact C.2.2 s hs⟩, Y'.map (fun f a g s => s.hs (hF8 17) (hF8 16) (hA8 5)), W.cg hF8 (fun o _ => hA8 o) (hF 36 101 (by decide)) (hA 36 2 (by decide)), fun i i0 i1 => ?_⟩
  rw [hF 25 2 (by decide)] at i1
  rw [ci_fr (hA 25 1 (by decide)), ci_fr (hA 25 2 (by decide)), ai_fr (m 58 (by decide)), ai_fr (m 59 (by decide)), ai_fr (m 60 (by decide))]
  exact T i i0 i1
/-- what a try of the reference leaves, from the lists of what it writes -/
theorem KT.of {Lf La : List Nat} (fF : ∀ q, q ∉ Lf → Fm' q = Fm q) (fA : ∀ q, q ∉ La → Am' q = Am q) (cF : Lf.all (fun q => decide (q = 63 ∨ q = 76)) = true) (cA : La.all (fun q => decide (45 ≤ q ∧ q ≠ 47 ∧ q < 57)) = true) : KT Fm Am Fm' Am' := by
  refine ⟨fun q h1 h2 => fF q (fun h => ?_), fun q hq => fA q (fun h => ?_)⟩
  · have := of_decide_eq_true (List.all_eq_true.mp cF q h)
    omega
  · have := of_decide_eq_true (List.all_eq_true.mp cA q h)
    omega
/-- what bars leaves of the class, but for its row of seen arrivals -/
def BW (P0 : Nat → Nat → Nat) (F0 : Nat → Nat → Int32) (A0 : Nat → Nat → Nat → Int32) (F : Nat → Nat → Int32) (A : Nat → Nat → Nat → Int32) : Prop := SFr F0 F A0 A ∧ (∀ k, F 4 k = F0 4 k) ∧ F 0 10 = F0 0 10 ∧ (c_kind (P0 0 8) = 6 → WCx (P0 0 8) F0 A0 → WCx (P0 0 8) F A)
theorem BW.rfl' : BW P F A F A := ⟨SFr.rfl', fun _ => rfl, rfl, fun _ w => w⟩
theorem BW.q (b : BW P0 F0 A0 F A) (e8 : P 0 8 = P0 0 8) (q : QFc P P' F F' A A') : BW P0 F0 A0 F' A' := ⟨b.1.tr q.2.1, fun k => (q.1.2.2.2.2.1 k).trans (b.2.1 k), q.1.2.2.2.2.2.1.trans b.2.2.1, fun hk w => by
  have z := q.2.2
  rw [e8] at z
  exact z hk (b.2.2.2 hk w)⟩
theorem XR.bars (X : XR P F A Fm Am) (G : Gc P F A) (hk : HK P F A P' F' A') (b : BW P F A F' A') : XR P' F' A' Fm Am := by
  obtain ⟨N, C, Y, W, T⟩ := X
  have e8 : P' 0 8 = P 0 8 := hk.1
  have hF := (hk.2 _ G.live).1
  have hA := (hk.2 _ G.live).2
  have hS : SOK (SS (P 0 8) F A) := SS.ok N.ct.2.2.2.2.2
  have st := b.1.1
  have sr : ∀ r : Nat, r < 32 → (r = 2 ∨ (5 ≤ r ∧ r ≤ 24) ∨ 29 ≤ r) → SE (F r) (F' r) (A r) (A' r) := fun r h1 h2 => .of (st r (kd_st r h1 h2) (by omega) (by omega)).2 (st r (kd_st r h1 h2) (by omega) (by omega)).1
  have Y' : YS (SS (P 0 8) F A) F' A' Fm Am := ⟨Y.1.cg hS (sr 2 (by decide) (by decide)) (fun _ _ _ => rfl), Y.2.1.cg hS (by rw [b.2.1 1]) (fun r r0 r1 => sr r (by omega) (by omega)) rfl, Y.2.2.cg hS (fun r r0 r1 => sr r (by omega) (by omega)) rfl rfl⟩
  unfold XR
  rw [e8]
  refine ⟨N.fr hF hA rfl (fun _ _ _ => rfl), ⟨by rw [b.1.2.2 2]; exact C.1, by rw [b.2.1 2]; exact C.2.1, fun s hs => by rw [b.2.2.1]; exact C.2.2 s hs⟩, Y'.map (fun f a g s => s.hs (hF 17) (hF 16) (hA 5 (by decide))), b.2.2.2 N.kd W, fun i i0 i1 => ?_⟩
  rw [b.1.2.2 2] at i1
  rw [ci_fr (b.1.2.1 1), ci_fr (b.1.2.1 2)]
  exact T i i0 i1
end H9fj
