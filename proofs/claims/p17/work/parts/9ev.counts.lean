/-! what both sides share between calls: the counts of the house in use; answers that rest on them -/
section H9ev
variable {JW JK : Nat → Int64} {P P' : Nat → Nat → Nat} {F F' : Nat → Nat → Int32} {A A' : Nat → Nat → Nat → Int32} {J : Nat → Nat → Nat → Int64} {Fm Fm' : Nat → Int32} {Am Am' : Nat → Nat → Int32} {Jm : Nat → Nat → Int64} {x1 x2 x3 : Int32} {r k q : Nat}
def CX (P : Nat → Nat → Nat) (F : Nat → Nat → Int32) (A : Nat → Nat → Nat → Int32) (Fm : Nat → Int32) (Am : Nat → Nat → Int32) : Prop := HC (P 0 8) F A Fm Am
/-- the reference's house in use is as it was -/
def MF (F F' : Nat → Int32) (A A' : Nat → Nat → Int32) : Prop := F' 18 = F 18 ∧ ∀ q, 8 ≤ q → q ≤ 44 → A' q = A q
theorem MF.rfl' : MF Fm Fm Am Am := ⟨rfl, fun _ _ _ => rfl⟩
theorem CX.c (h : CX P F A Fm Am) (G : Gc P F A) (k : HK P F A P' F' A') : CX P' F' A' Fm Am := by
  have d := k.2 _ G.live
  unfold CX
  rw [k.1]
  refine ⟨fun q hq => (d.1 _).trans (h.1 q hq), (d.1 14).trans h.2.1, fun j j0 j1 => ?_⟩
  rw [d.1 16] at j1
  rw [ci_fr (d.2 5 (by decide))]
  exact h.2.2 j j0 j1
theorem CX.m (h : CX P F A Fm Am) (k : MF Fm Fm' Am Am') : CX P F A Fm' Am' := by
  unfold CX HC
  rw [k.1, k.2 12 (by decide) (by decide), ai_fr (k.2 22 (by decide) (by decide))]
  exact ⟨fun q hq => by rw [k.2 (rq q) (by have := rq_in q; omega) (by have := rq_in q; omega)]; exact h.1 q hq, h.2⟩
theorem po_and {α : Type} {o : Option α} {Q R : α → Prop} (h : po o Q) (k : po o R) : po o (fun a => Q a ∧ R a) := fun a ha => ⟨h a ha, k a ha⟩
theorem gg_zr {x v : Int32} (h : m_zr x = some v) : v = x := by
  unfold m_zr at h
  split at h
  · cases h; rfl
  · cases h
/-- what the class's reader leaves as it was -/
theorem s_rt {n : Nat} (G : Gc P F A) (hn : 6000 ≤ n) : ok (e_Reader_readText n P F A J (P 0 9) 3) (fun r => (∀ r' k, r' ≠ 37 → r.2.1 r' k = P r' k) ∧ RTc r.2.1 (P 0 9) F A r) := by
  have hk := G.k09
  have l0 := i_0
  unfold e_Reader_readText
  refine ok_call (s_open hk G.1 (by omega)) ?_
  rintro ⟨u, P2, F2, A2, J2⟩ ⟨oP, x5, x6, V⟩
  dsimp only at oP x5 x6 V ⊢
  refine ok_mono (s_readText_10 x5 x6 hk V (by decide) (by omega)) (fun r hr => ?_)
  have e := hr.1
  rw [e]
  exact ⟨oP, hr⟩
/-- the house that was read is the house in use -/
theorem po_move (R : Rc F A) (hl : c_kind (P 0 9) = 6) : po (e_SleepWork_moveIn P F A J) (fun r => r.2.1 0 8 = P 0 9 ∧ (∀ k, r.2.2.1 (P 0 9) k = F (P 0 9) k) ∧ ∀ o, r.2.2.2.1 (P 0 9) o = A (P 0 9) o) := by
  have q1 : ∀ {r : Nat}, c_kind r ≠ 6 → P 0 9 ≠ r := fun h e => h (by rw [← e]; exact hl)
  unfold e_SleepWork_moveIn
  refine po_bl (fun _ h1 => ?_)
  obtain ⟨-, rfl⟩ := gg_chk h1
  refine po_bl (fun _ h2 => ?_)
  obtain ⟨-, rfl⟩ := gg_chk h2
  refine po_bl (fun P3 h3 => ?_)
  have u3 := gg_cpp h3
  refine po_bl (fun P4 h4 => ?_)
  have u4 := gg_cpp h4
  have x8 : P4 0 8 = P 0 9 := (u4.2 0 8 (by simp)).trans u3.1
  refine po_call (s_copy (r0 := 2) (r1 := 3) (by decide) (by decide) R).po ?_
  rintro ⟨u, P6, F7, A8, J9⟩ ⟨g1, g2, g3, -, -⟩
  dsimp only at g1 g2 g3 ⊢
  subst g1
  refine po_bl (fun Fa ha => ?_)
  have ua := gg_cpf ha
  refine po_bl (fun Fb hb => ?_)
  have ub := gg_cpf hb
  refine po_bl (fun Fc hc => ?_)
  have uc := gg_cpf hc
  refine po_bl (fun _ h5 => ?_)
  obtain ⟨-, rfl⟩ := gg_chk h5
  unfold e_Evening_enter e_Ways_drop e_Evening_setStale
  have en : po ((c_pp P6 32 4 (P6 0 8)).bind fun P1 => ((c_pf Fc 36 101 (-1)).bind fun F1 => some ((), P1, F1, A8, J9)).bind fun (_, P3, F4, A5, J6) => ((c_pf F4 32 6 (-1)).bind fun F1 => some ((), P3, F1, A5, J6)).bind fun (_, P8, F9, A10, J11) => some ((), P8, F9, A10, J11)) (fun r => r.2.1 0 8 = P6 0 8 ∧ (∀ k, r.2.2.1 (P 0 9) k = Fc (P 0 9) k) ∧ r.2.2.2.1 = A8) := by
    refine po_bl (fun Pd hd => ?_)
    have ud := gg_cpp hd
    refine po_call (R := fun r => r.2.1 = Pd ∧ (∀ k, r.2.2.1 (P 0 9) k = Fc (P 0 9) k) ∧ r.2.2.2.1 = A8) (po_bl (fun Fe he => po_some ⟨rfl, fun k => (gg_cpf he).2 _ k (fun e => q1 (by decide) e.1), rfl⟩)) ?_
    rintro ⟨u, P7, F7', A7, J7⟩ ⟨w1, w2, w3⟩
    dsimp only at w1 w2 w3 ⊢
    subst w1
    subst w3
    refine po_call (R := fun r => r.2.1 = P7 ∧ (∀ k, r.2.2.1 (P 0 9) k = F7' (P 0 9) k) ∧ r.2.2.2.1 = A7) (po_bl (fun Fe he => po_some ⟨rfl, fun k => (gg_cpf he).2 _ k (fun e => q1 (by decide) e.1), rfl⟩)) ?_
    rintro ⟨u, P8, F8', A8', J8⟩ ⟨w4, w5, w6⟩
    dsimp only at w4 w5 w6 ⊢
    exact po_some ⟨by rw [w4]; exact ud.2 0 8 (by simp), fun k => (w5 k).trans (w2 k), w6⟩
  refine po_call en ?_
  rintro ⟨u, P9, F9, A9, J9'⟩ ⟨e1, e2, e3⟩
  dsimp only at e1 e2 e3 ⊢
  refine po_some ⟨e1.trans x8, fun k => ?_, fun o => ?_⟩
  · show F9 (P 0 9) k = F (P 0 9) k
    rw [e2 k, uc.2 _ k (fun e => q1 (by decide) e.1), ub.2 _ k (fun e => q1 (by decide) e.1), ua.2 _ k (fun e => q1 (by decide) e.1)]
    exact g2 _ k (q1 (by decide))
  · show A9 (P 0 9) o = A (P 0 9) o
    rw [e3]
    exact g3 _ o (q1 (by decide))
theorem HC.ls {d : Nat} (h : HC d F A Fm Am) (S : SAm Fm Am) (e : Fm' 18 = Fm 18) (L : LSm (Fm 18).toInt Am Am') (hr : (F d 16).toInt ≤ 6) : HC d F A Fm' Am' := by
  have r18 : 0 ≤ (Fm 18).toInt ∧ (Fm 18).toInt ≤ 1 := S.1 18
  have one : ∀ {j : Nat}, sgm j = 1 → Am' j (Fm 18).toInt.toNat = Am j (Fm 18).toInt.toNat := fun {j} hj => i_ext (L j (Fm 18).toInt (by rw [hj]; omega) (by rw [hj]; omega))
  unfold HC
  rw [e]
  refine ⟨fun q hq => (h.1 q hq).trans (one ?_).symm, h.2.1.trans (one rfl).symm, fun k k0 k1 => (h.2.2 k k0 k1).trans (L 22 _ ?_ ?_).symm⟩
  · have : ∀ q, q < 4 → sgm (rq q) = 1 := by decide
    exact this q hq
  · show 6 * (Fm 18).toInt ≤ _
    omega
  · show _ < 6 * (Fm 18).toInt + 6
    omega
theorem HC.cc {d : Nat} (h : HC d F A Fm Am) (hF : ∀ k, F' d k = F d k) (hA : ∀ o, A' d o = A d o) : HC d F' A' Fm Am := by
  unfold HC
  rw [ci_fr (hA 5)]
  exact ⟨fun q hq => (hF _).trans (h.1 q hq), (hF 14).trans h.2.1, fun k k0 k1 => h.2.2 k k0 (by rw [← hF 16]; exact k1)⟩
/-- read, on both sides -/
theorem p2_cread5 {n m : Nat} (hW : WKx JW JK) (G : Gc P F A) (S : SAm Fm Am) (tp : TPx F A Fm Am) (hc : CX P F A Fm Am) (jw : J 37 6 = JW) (jk : Jm 7 = JK) (hn : 6000 ≤ n) (hm : 12100 ≤ m) : P2 (e_SleepWork_read n P F A J) (d_read m Fm Am Jm) (fun a b => (a.1 = b.1 ∧ JP JW a ∧ JQ JK b) ∧ CX a.2.1 a.2.2.1 a.2.2.2.1 b.2.1 b.2.2.1) := by
  have hl := G.k09
  have q1 : ∀ {r : Nat}, c_kind r ≠ 6 → P 0 9 ≠ r := fun h e => h (by rw [← e]; exact hl)
  have q8 : ∀ {r : Nat}, c_kind r ≠ 6 → P 0 8 ≠ r := fun h e => h (by rw [← e]; exact G.k08)
  have hne : P 0 8 ≠ P 0 9 := by rcases G.2.1 with h | h <;> (rw [h.1, h.2]; decide)
  have h16 : (F (P 0 8) 16).toInt ≤ 6 := by
    have a : 0 ≤ (F (P 0 8) 16).toInt ∧ (F (P 0 8) 16).toInt ≤ 6 := by have := G.1.1 (P 0 8) 16; rw [G.k08] at this; exact this
    exact a.2
  unfold e_SleepWork_read
  refine p2_bl (fun _ h1 => ?_)
  obtain ⟨hk, rfl⟩ := gg_chk h1
  refine p2_bindl (p2_okl (s_rt (J := J) G hn) (p2_read hW hk G.1 S tp jw jk hn hm)) ?_
  rintro ⟨v2, P3, F4, A5, J6⟩ b ⟨⟨e1, ja, jb, good, bad⟩, ⟨oP, t1, t2, t3, t4, t5⟩⟩
  dsimp only at e1 good bad oP t1 t2 t3 t4 t5 ⊢
  have pf : po (e_Reader_placeOfFault P3 F4 A5 J6) (fun _ => True) := fun _ _ => trivial
  refine po_call pf ?_
  intro v7 _
  refine po_bl (fun F8 h8 => ?_)
  have u8 := gg_cpf h8
  refine po_bl (fun F9 h9 => ?_)
  have u9 := gg_cpf h9
  have o9 : ∀ q k, c_kind q = 6 → F9 q k = F4 q k := fun q k hq => (u9.2 q k (fun e => absurd hq (by rw [e.1]; decide))).trans (u8.2 q k (fun e => absurd hq (by rw [e.1]; decide)))
  refine po_cond (fun c => ?_) (fun c => ?_)
  · rw [i_ne, i_0] at c
    refine po_some ⟨⟨e1, ja, jb⟩, ?_⟩
    obtain ⟨b1, -, -, b4, -⟩ := bad c
    show HC (P3 0 8) F9 A5 b.2.1 b.2.2.1
    rw [oP 0 8 (by decide)]
    exact (HC.ls hc S b1 b4 h16).cc (fun k => (o9 _ k G.k08).trans (t3 _ k (q8 (by decide)) hne (q8 (by decide)))) (fun o => t4 _ o (q8 (by decide)) hne (q8 (by decide)))
  · rw [i_nne, i_0] at c
    have R9 : Rc F9 A5 := (t2.pf u8 trivial).pf u9 (show 0 ≤ (0 : Int32).toInt ∧ (0 : Int32).toInt ≤ 2000 by decide)
    have y9 : P3 0 9 = P 0 9 := oP 0 9 (by decide)
    refine po_call (po_and (jc_move ja) (po_move R9 (by rw [y9]; exact hl))) ?_
    rintro ⟨u, P4, F5, A6, J7⟩ ⟨h2, m1, m2, m3⟩
    refine po_some ⟨⟨e1, h2, jb⟩, ?_⟩
    show HC (P4 0 8) F5 A6 b.2.1 b.2.2.1
    dsimp only at m1 m2 m3
    rw [y9] at m1 m2 m3
    rw [m1]
    exact (good c).1.cc (fun k => (m2 k).trans (o9 _ k hl)) m3
end H9ev
