/-! tokens, side by side -/
/-- the words of both sides -/
def WKx (JW JK : Nat → Int64) : Prop := (∀ i : Nat, i < 21 → ∃ j : Nat, j < 21 ∧ ((i : Int), (20 + j : Int)) ∈ kt ∧ TNi (JW i).toInt (JK j).toInt) ∧ (∀ j : Nat, j < 21 → ∃ i : Nat, i < 21 ∧ ((i : Int), (20 + j : Int)) ∈ kt ∧ TNi (JW i).toInt (JK j).toInt) ∧ (∀ i : Nat, i < 21 → (JW i).toInt < 72057594037927936) ∧ (∀ j j' : Nat, j < 21 → j' < 21 → JK j = JK j' → j = j')
theorem WKx.w {JW JK : Nat → Int64} (h_ : WKx JW JK) : ∀ i : Nat, i < 21 → ∃ j : Nat, j < 21 ∧ ((i : Int), (20 + j : Int)) ∈ kt ∧ TNi (JW i).toInt (JK j).toInt := h_.1
theorem WKx.k {JW JK : Nat → Int64} (h_ : WKx JW JK) : ∀ j : Nat, j < 21 → ∃ i : Nat, i < 21 ∧ ((i : Int), (20 + j : Int)) ∈ kt ∧ TNi (JW i).toInt (JK j).toInt := h_.2.1
theorem WKx.s {JW JK : Nat → Int64} (h_ : WKx JW JK) : ∀ i : Nat, i < 21 → (JW i).toInt < 72057594037927936 := h_.2.2.1
theorem WKx.u {JW JK : Nat → Int64} (h_ : WKx JW JK) : ∀ j j' : Nat, j < 21 → j' < 21 → JK j = JK j' → j = j' := h_.2.2.2
/-- a token, on both sides -/
def TR (j : Nat) (A : Nat → Nat → Nat → Int32) (J : Nat → Nat → Nat → Int64) (Am : Nat → Nat → Int32) (Jm : Nat → Nat → Int64) : Prop := KR (A 37 2 j).toInt (Am 3 j).toInt ∧ ((Am 3 j).toInt = 2 → A 37 4 j = Am 5 j) ∧ ((Am 3 j).toInt = 1 → TNi (J 37 5 j).toInt (Jm 6 j).toInt)
def LVm (Am : Nat → Nat → Int32) (j : Nat) : Prop := (Am 3 j).toInt ≠ 0 ∧ (Am 3 j).toInt ≠ 3
def SC (JW JK : Nat → Int64) (k : Nat) (p : Int) (F : Nat → Nat → Int32) (A : Nat → Nat → Nat → Int32) (J : Nat → Nat → Nat → Int64) (Fm : Nat → Int32) (Am : Nat → Nat → Int32) (Jm : Nat → Nat → Int64) : Prop := (F 1 1 = Fm 4) ∧ (0 ≤ (Fm 4).toInt) ∧ ((Fm 4).toInt ≤ 2000) ∧ (∀ i : Nat, (i : Int) < (Fm 4).toInt → A 1 1 i = Am 2 i ∧ -128 ≤ (Am 2 i).toInt ∧ (Am 2 i).toInt ≤ 127) ∧ ((F 37 105).toInt = p) ∧ (0 ≤ p) ∧ (p ≤ (Fm 4).toInt) ∧ ((Fm 10).toInt = k) ∧ (J 37 6 = JW) ∧ (Jm 7 = JK) ∧ (∀ j, j < k → TR j A J Am Jm ∧ LVm Am j) ∧ (∀ j, j + 1 < k → (Am 4 j).toInt < (Am 4 (j + 1)).toInt) ∧ (∀ j, j + 1 = k → (Am 4 j).toInt < p)
theorem SC.sz {JW JK : Nat → Int64} {k : Nat} {p : Int} {F : Nat → Nat → Int32} {A : Nat → Nat → Nat → Int32} {J : Nat → Nat → Nat → Int64} {Fm : Nat → Int32} {Am : Nat → Nat → Int32} {Jm : Nat → Nat → Int64} (h_ : SC JW JK k p F A J Fm Am Jm) : F 1 1 = Fm 4 := h_.1
theorem SC.s0 {JW JK : Nat → Int64} {k : Nat} {p : Int} {F : Nat → Nat → Int32} {A : Nat → Nat → Nat → Int32} {J : Nat → Nat → Nat → Int64} {Fm : Nat → Int32} {Am : Nat → Nat → Int32} {Jm : Nat → Nat → Int64} (h_ : SC JW JK k p F A J Fm Am Jm) : 0 ≤ (Fm 4).toInt := h_.2.1
theorem SC.s1 {JW JK : Nat → Int64} {k : Nat} {p : Int} {F : Nat → Nat → Int32} {A : Nat → Nat → Nat → Int32} {J : Nat → Nat → Nat → Int64} {Fm : Nat → Int32} {Am : Nat → Nat → Int32} {Jm : Nat → Nat → Int64} (h_ : SC JW JK k p F A J Fm Am Jm) : (Fm 4).toInt ≤ 2000 := h_.2.2.1
theorem SC.bt {JW JK : Nat → Int64} {k : Nat} {p : Int} {F : Nat → Nat → Int32} {A : Nat → Nat → Nat → Int32} {J : Nat → Nat → Nat → Int64} {Fm : Nat → Int32} {Am : Nat → Nat → Int32} {Jm : Nat → Nat → Int64} (h_ : SC JW JK k p F A J Fm Am Jm) : ∀ i : Nat, (i : Int) < (Fm 4).toInt → A 1 1 i = Am 2 i ∧ -128 ≤ (Am 2 i).toInt ∧ (Am 2 i).toInt ≤ 127 := h_.2.2.2.1
theorem SC.ps {JW JK : Nat → Int64} {k : Nat} {p : Int} {F : Nat → Nat → Int32} {A : Nat → Nat → Nat → Int32} {J : Nat → Nat → Nat → Int64} {Fm : Nat → Int32} {Am : Nat → Nat → Int32} {Jm : Nat → Nat → Int64} (h_ : SC JW JK k p F A J Fm Am Jm) : (F 37 105).toInt = p := h_.2.2.2.2.1
theorem SC.p0 {JW JK : Nat → Int64} {k : Nat} {p : Int} {F : Nat → Nat → Int32} {A : Nat → Nat → Nat → Int32} {J : Nat → Nat → Nat → Int64} {Fm : Nat → Int32} {Am : Nat → Nat → Int32} {Jm : Nat → Nat → Int64} (h_ : SC JW JK k p F A J Fm Am Jm) : 0 ≤ p := h_.2.2.2.2.2.1
theorem SC.p1 {JW JK : Nat → Int64} {k : Nat} {p : Int} {F : Nat → Nat → Int32} {A : Nat → Nat → Nat → Int32} {J : Nat → Nat → Nat → Int64} {Fm : Nat → Int32} {Am : Nat → Nat → Int32} {Jm : Nat → Nat → Int64} (h_ : SC JW JK k p F A J Fm Am Jm) : p ≤ (Fm 4).toInt := h_.2.2.2.2.2.2.1
theorem SC.fk {JW JK : Nat → Int64} {k : Nat} {p : Int} {F : Nat → Nat → Int32} {A : Nat → Nat → Nat → Int32} {J : Nat → Nat → Nat → Int64} {Fm : Nat → Int32} {Am : Nat → Nat → Int32} {Jm : Nat → Nat → Int64} (h_ : SC JW JK k p F A J Fm Am Jm) : (Fm 10).toInt = k := h_.2.2.2.2.2.2.2.1
theorem SC.jw {JW JK : Nat → Int64} {k : Nat} {p : Int} {F : Nat → Nat → Int32} {A : Nat → Nat → Nat → Int32} {J : Nat → Nat → Nat → Int64} {Fm : Nat → Int32} {Am : Nat → Nat → Int32} {Jm : Nat → Nat → Int64} (h_ : SC JW JK k p F A J Fm Am Jm) : J 37 6 = JW := h_.2.2.2.2.2.2.2.2.1
theorem SC.jk {JW JK : Nat → Int64} {k : Nat} {p : Int} {F : Nat → Nat → Int32} {A : Nat → Nat → Nat → Int32} {J : Nat → Nat → Nat → Int64} {Fm : Nat → Int32} {Am : Nat → Nat → Int32} {Jm : Nat → Nat → Int64} (h_ : SC JW JK k p F A J Fm Am Jm) : Jm 7 = JK := h_.2.2.2.2.2.2.2.2.2.1
theorem SC.tr {JW JK : Nat → Int64} {k : Nat} {p : Int} {F : Nat → Nat → Int32} {A : Nat → Nat → Nat → Int32} {J : Nat → Nat → Nat → Int64} {Fm : Nat → Int32} {Am : Nat → Nat → Int32} {Jm : Nat → Nat → Int64} (h_ : SC JW JK k p F A J Fm Am Jm) : ∀ j, j < k → TR j A J Am Jm ∧ LVm Am j := h_.2.2.2.2.2.2.2.2.2.2.1
theorem SC.up {JW JK : Nat → Int64} {k : Nat} {p : Int} {F : Nat → Nat → Int32} {A : Nat → Nat → Nat → Int32} {J : Nat → Nat → Nat → Int64} {Fm : Nat → Int32} {Am : Nat → Nat → Int32} {Jm : Nat → Nat → Int64} (h_ : SC JW JK k p F A J Fm Am Jm) : ∀ j, j + 1 < k → (Am 4 j).toInt < (Am 4 (j + 1)).toInt := h_.2.2.2.2.2.2.2.2.2.2.2.1
theorem SC.lp {JW JK : Nat → Int64} {k : Nat} {p : Int} {F : Nat → Nat → Int32} {A : Nat → Nat → Nat → Int32} {J : Nat → Nat → Nat → Int64} {Fm : Nat → Int32} {Am : Nat → Nat → Int32} {Jm : Nat → Nat → Int64} (h_ : SC JW JK k p F A J Fm Am Jm) : ∀ j, j + 1 = k → (Am 4 j).toInt < p := h_.2.2.2.2.2.2.2.2.2.2.2.2
def SQ (JW JK : Nat → Int64) (a : cR Unit) (b : mR Unit) : Prop := ∃ K0 : Nat, K0 ≤ 400 ∧ (∀ j, j ≤ K0 → TR j a.2.2.2.1 a.2.2.2.2 b.2.2.1 b.2.2.2) ∧ (∀ j, j < K0 → LVm b.2.2.1 j) ∧ (∀ j, j < K0 → (b.2.2.1 4 j).toInt < (b.2.2.1 4 (j + 1)).toInt) ∧ (K0 = 400 ∨ ¬ LVm b.2.2.1 K0) ∧ a.2.2.2.2 37 6 = JW ∧ b.2.2.2 7 = JK
section C2
variable {JW JK : Nat → Int64} {k : Nat} {p : Int} {P : Nat → Nat → Nat} {F F' : Nat → Nat → Int32} {A A' : Nat → Nat → Nat → Int32} {J J' : Nat → Nat → Nat → Int64} {Fm Fm' : Nat → Int32} {Am Am' : Nat → Nat → Int32} {Jm Jm' : Nat → Nat → Int64} {xk xp : Int32} {γ δ : Type} {Q : γ → δ → Prop}
/-! what the reference has put down stays -/
def GF (k0 : Nat) (A0 : Nat → Nat → Int32) (J0 : Nat → Nat → Int64) (F : Nat → Int32) (A : Nat → Nat → Int32) (J : Nat → Nat → Int64) : Prop := (k0 : Int) ≤ (F 10).toInt ∧ (∀ j, j < k0 → A 3 j = A0 3 j ∧ A 4 j = A0 4 j ∧ A 5 j = A0 5 j ∧ J 6 j = J0 6 j) ∧ J 7 = J0 7
def GFr (k0 : Nat) (A0 : Nat → Nat → Int32) (J0 : Nat → Nat → Int64) {α : Type} (r : mR α) : Prop := GF k0 A0 J0 r.2.1 r.2.2.1 r.2.2.2
theorem ai_nat {A A' : Nat → Nat → Int32} {o j : Nat} (h : ai A' o j = ai A o j) : A' o j = A o j := i_ext h
theorem g_token {x1 x2 x3 : Int32} {x4 : Int64} {r : mR Unit} (h : d_token Fm Am Jm x1 x2 x3 x4 = some r) : ∃ F' A' J', r = ((), F', A', J') ∧ 0 ≤ (Fm 10).toInt ∧ (Fm 10).toInt < 403 ∧ (F' 10).toInt = (Fm 10).toInt + 1 ∧ (∀ q, q ≠ 10 → F' q = Fm q) ∧ (∀ q, q ≠ 3 → q ≠ 4 → q ≠ 5 → A' q = Am q) ∧ (∀ q, q ≠ 6 → J' q = Jm q) ∧ A' 3 (Fm 10).toInt.toNat = x1 ∧ A' 4 (Fm 10).toInt.toNat = x2 ∧ A' 5 (Fm 10).toInt.toNat = x3 ∧ J' 6 (Fm 10).toInt.toNat = x4 ∧ (∀ j : Nat, (j : Int) ≠ (Fm 10).toInt → A' 3 j = Am 3 j ∧ A' 4 j = Am 4 j ∧ A' 5 j = Am 5 j ∧ J' 6 j = Jm 6 j) := by
  unfold d_token at h
  obtain ⟨A1, e1, h⟩ := Option.bind_eq_some_iff.mp h
  obtain ⟨A2, e2, h⟩ := Option.bind_eq_some_iff.mp h
  obtain ⟨A3, e3, h⟩ := Option.bind_eq_some_iff.mp h
  obtain ⟨J4, e4, h⟩ := Option.bind_eq_some_iff.mp h
  obtain ⟨F5, e5, h⟩ := Option.bind_eq_some_iff.mp h
  cases h
  have a1 := gg_st e1
  have a2 := gg_st e2
  have a3 := gg_st e3
  have a4 := gg_stJ e4
  have a5 := gg_pf e5
  have l1 := i_1
  refine ⟨F5, A3, J4, rfl, a1.1, a1.2.1, by rw [a5.1, i_add (by omega) (by omega), i_1], a5.2, fun q h3 h4 h5 => by rw [a3.2.2.1 q h5, a2.2.2.1 q h4, a1.2.2.1 q h3], a4.2.2.1, ?_, ?_, i_ext a3.2.2.2.1, a4.2.2.2.1, fun j hj => ⟨?_, ?_, ?_, ?_⟩⟩
  · rw [a3.2.2.1 3 (by decide), a2.2.2.1 3 (by decide)]; exact i_ext a1.2.2.2.1
  · rw [a3.2.2.1 4 (by decide)]; exact i_ext a2.2.2.2.1
  · rw [a3.2.2.1 3 (by decide), a2.2.2.1 3 (by decide)]; exact ai_nat (a1.2.2.2.2 j (by omega) hj)
  · rw [a3.2.2.1 4 (by decide)]; exact (ai_nat (a2.2.2.2.2 j (by omega) hj)).trans (by rw [a1.2.2.1 4 (by decide)])
  · exact (ai_nat (a3.2.2.2.2 j (by omega) hj)).trans (by rw [a2.2.2.1 5 (by decide), a1.2.2.1 5 (by decide)])
  · exact a4.2.2.2.2 j (by omega) hj
theorem tok_gf {k0 : Nat} {A0 J0} {x1 x2 x3 : Int32} {x4 : Int64} (G : GF k0 A0 J0 Fm Am Jm) : po (d_token Fm Am Jm x1 x2 x3 x4) (GFr k0 A0 J0) := by
  intro r hr
  obtain ⟨F', A', J', rfl, z0, z1, h10, hF, hA, hJ, -, -, -, -, old⟩ := g_token hr
  refine ⟨?_, fun j hj => ?_, ?_⟩
  · show (k0 : Int) ≤ (F' 10).toInt
    have := G.1
    omega
  · have o := old j (by have := G.1; omega)
    have g := G.2.1 j hj
    exact ⟨o.1.trans g.1, o.2.1.trans g.2.1, o.2.2.1.trans g.2.2.1, o.2.2.2.trans g.2.2.2⟩
  · show J' 7 = J0 7
    rw [hJ 7 (by decide)]
    exact G.2.2
section GFK
variable {k0 : Nat} {A0 : Nat → Nat → Int32} {J0 : Nat → Nat → Int64} {K7 : (Nat → Int32) → (Nat → Nat → Int32) → (Nat → Nat → Int64) → Int32 → Option (mR Unit)}
theorem gf_261 {n : Nat} {x1 x3 x4 s1 : Int32} (hK : ∀ F A J x, GF k0 A0 J0 F A J → po (K7 F A J x) (GFr k0 A0 J0)) (G : GF k0 A0 J0 Fm Am Jm) : po (d_cut_261 K7 n Fm Am Jm x1 x3 x4 s1) (GFr k0 A0 J0) := by
  unfold d_cut_261
  refine po_call (tok_gf G) ?_
  rintro ⟨u, F1, A1, J1⟩ g
  exact hK _ _ _ _ g
theorem gf_208 (hK : ∀ F A J x, GF k0 A0 J0 F A J → po (K7 F A J x) (GFr k0 A0 J0)) : ∀ {n : Nat} {x1 x3 x4 : Int32}, GF k0 A0 J0 Fm Am Jm → po (d_cut_208 K7 n Fm Am Jm x1 x3 x4) (GFr k0 A0 J0) := by
  intro n
  induction n with
  | zero => intro x1 x3 x4 _ r hr; cases hr
  | succ n ih =>
    intro x1 x3 x4 G
    unfold d_cut_208 d_cut_244
    refine po_bl (fun _ _ => po_bl (fun _ _ => po_cond (fun _ => po_cond (fun _ => gf_261 hK G) (fun _ => gf_261 hK G)) (fun _ => po_cond (fun _ => ih G) (fun _ => po_bl (fun _ _ => ih G)))))
theorem gf_179 {n : Nat} {x1 x3 : Int32} {x4 : Int64} {x6 : Int32} (hK : ∀ F A J x, GF k0 A0 J0 F A J → po (K7 F A J x) (GFr k0 A0 J0)) (G : GF k0 A0 J0 Fm Am Jm) : po (d_cut_179 K7 n Fm Am Jm x1 x3 x4 x6) (GFr k0 A0 J0) := by
  unfold d_cut_179
  refine po_call (tok_gf G) ?_
  rintro ⟨u, F1, A1, J1⟩ g
  exact hK _ _ _ _ g
theorem gf_146 (hK : ∀ F A J x, GF k0 A0 J0 F A J → po (K7 F A J x) (GFr k0 A0 J0)) : ∀ {n : Nat} {x1 x3 : Int32} {x4 : Int64} {x6 x7 : Int32}, GF k0 A0 J0 Fm Am Jm → po (d_cut_146 K7 n Fm Am Jm x1 x3 x4 x6 x7) (GFr k0 A0 J0) := by
  intro n
  induction n with
  | zero => intro x1 x3 x4 x6 x7 _ r hr; cases hr
  | succ n ih =>
    intro x1 x3 x4 x6 x7 G
    unfold d_cut_146 d_cut_173
    exact po_cond (fun _ => gf_179 hK G) (fun _ => po_bl (fun _ _ => po_cond (fun _ => ih G) (fun _ => ih G)))
theorem gf_85 (hK : ∀ F A J x, GF k0 A0 J0 F A J → po (K7 F A J x) (GFr k0 A0 J0)) : ∀ {n : Nat} {x1 x3 : Int32} {x4 : Int64}, GF k0 A0 J0 Fm Am Jm → po (d_cut_85 K7 n Fm Am Jm x1 x3 x4) (GFr k0 A0 J0) := by
  intro n
  induction n with
  | zero => intro x1 x3 x4 _ r hr; cases hr
  | succ n ih =>
    intro x1 x3 x4 G
    unfold d_cut_85 d_cut_118 d_cut_135
    have z : ∀ {n : Nat} {s0}, po (cond (g_cnd .gt x3 7) (d_cut_179 K7 n Fm Am Jm x1 x3 x4 s0) (d_cut_146 K7 n Fm Am Jm x1 x3 x4 s0 0)) (GFr k0 A0 J0) := po_cond (fun _ => gf_179 hK G) (fun _ => gf_146 hK G)
    exact po_bl (fun _ _ => po_bl (fun _ _ => po_cond (fun _ => po_cond (fun _ => z) (fun _ => z)) (fun _ => po_cond (fun _ => ih G) (fun _ => po_bl (fun _ _ => po_bl (fun _ _ => ih G))))))
theorem gf_sign {x1 x2 x3 : Int32} (G : GF k0 A0 J0 Fm Am Jm) : po (d_sign Fm Am Jm x1 x2 x3) (GFr k0 A0 J0) := by
  have z : ∀ s, po (d_sign_95 Fm Am Jm x1 s) (GFr k0 A0 J0) := by
    intro s
    unfold d_sign_95
    refine po_call (tok_gf G) ?_
    rintro ⟨u, F1, A1, J1⟩ g
    exact po_some g
  have z43 : ∀ s, po (d_sign_43 Fm Am Jm x1 x2 s) (GFr k0 A0 J0) := by
    intro s
    unfold d_sign_43 d_sign_55 d_sign_65 d_sign_75 d_sign_85
    repeat' (first | exact z _ | refine po_cond (fun _ => ?_) (fun _ => ?_))
  unfold d_sign
  repeat' (first | exact z43 _ | refine po_cond (fun _ => ?_) (fun _ => ?_))
end GFK
theorem gf_7 {k0 : Nat} {A0 : Nat → Nat → Int32} {J0 : Nat → Nat → Int64} : ∀ {n : Nat} {Fm : Nat → Int32} {Am : Nat → Nat → Int32} {Jm : Nat → Nat → Int64} {x1 : Int32}, GF k0 A0 J0 Fm Am Jm → po (d_cut_7 n Fm Am Jm x1) (GFr k0 A0 J0) := by
  intro n
  induction n with
  | zero => intro Fm Am Jm x1 _ r hr; cases hr
  | succ n ih =>
    intro Fm Am Jm x1 G
    have hK : ∀ F A J x, GF k0 A0 J0 F A J → po (d_cut_7 n F A J x) (GFr k0 A0 J0) := fun _ _ _ _ g => ih g
    have z67 : po (d_cut_67 (d_cut_7 n) n Fm Am Jm x1) (GFr k0 A0 J0) := by
      unfold d_cut_67 d_cut_291
      exact ih G
    unfold d_cut_7
    refine po_cond (fun _ => po_some G) (fun _ => po_bl (fun _ _ => po_cond (fun _ => ?_) (fun _ => ?_)))
    · refine po_cond (fun _ => z67) (fun _ => po_cond (fun _ => z67) (fun _ => po_cond (fun _ => z67) (fun _ => po_cond (fun _ => ?_) (fun _ => z67))))
      refine po_bl (fun _ _ => po_cond (fun _ => ?_) (fun _ => gf_85 hK G))
      refine po_bl (fun _ _ => po_cond (fun _ => ?_) (fun _ => gf_208 hK G))
      refine po_bl (fun _ _ => ?_)
      refine po_call (gf_sign G) ?_
      rintro ⟨u, F1, A1, J1⟩ g
      unfold d_cut_291
      exact ih g
    · refine po_call (tok_gf G) ?_
      rintro ⟨u, F1, A1, J1⟩ g
      exact po_some g
/-! words -/
theorem c121 {n : Nat} {x3 : Int64} {x5 : Int32} {r : cR Unit} (h : e_Scanner_scanLetters_121 n P F A J xk x3 x5 = some r) : ∃ A' J', r = ((), P, F, A', J') ∧ CUm A A' 37 2 xk.toInt x5.toInt ∧ J' 37 5 xk.toInt.toNat = x3 ∧ (∀ j : Int, 0 ≤ j → j ≠ xk.toInt → J' 37 5 j.toNat = J 37 5 j.toNat) ∧ (∀ r' o', ¬ (r' = 37 ∧ o' = 5) → J' r' o' = J r' o') := by
  unfold e_Scanner_scanLetters_121 at h
  obtain ⟨J1, e1, h⟩ := Option.bind_eq_some_iff.mp h
  obtain ⟨A1, e2, h⟩ := Option.bind_eq_some_iff.mp h
  cases h
  have a1 := gg_cstJ e1
  exact ⟨A1, J1, rfl, (gg_cst e2).2.2, a1.2.2.1, a1.2.2.2.1, a1.2.2.2.2⟩
theorem c85_ne {x3 : Int64} {x5 x6 : Int32} (h : x5.toInt ≠ 100) : ∀ {n : Nat}, po (e_Scanner_scanLetters_85 n P F A J xk x3 x5 x6) (fun r => ∃ n', e_Scanner_scanLetters_121 n' P F A J xk x3 x5 = some r) := by
  intro n
  cases n with
  | zero => intro r hr; cases hr
  | succ n =>
    unfold e_Scanner_scanLetters_85
    rw [i_ne.mpr (by rw [show (100 : Int32).toInt = 100 by decide]; exact h)]
    exact po_cond (fun _ => fun r hr => ⟨n, hr⟩) (fun _ => by rw [cond_true]; exact fun r hr => ⟨n, hr⟩)
theorem c85 {x3 : Int64} : ∀ {n : Nat} {x6 : Int32}, 0 ≤ x6.toInt → (∀ i : Nat, (i : Int) < x6.toInt → J 37 6 i ≠ x3) → po (e_Scanner_scanLetters_85 n P F A J xk x3 100 x6) (fun r => ∃ (n' : Nat) (fd : Int32), ((fd = 100 ∧ ∀ i : Nat, i < 21 → J 37 6 i ≠ x3) ∨ (∃ i : Nat, i < 21 ∧ fd.toInt = i ∧ J 37 6 i = x3)) ∧ e_Scanner_scanLetters_121 n' P F A J xk x3 fd = some r) := by
  have l21 : (21 : Int32).toInt = 21 := by decide
  have l1 := i_1
  intro n
  induction n with
  | zero => intro x6 _ _ r hr; cases hr
  | succ n ih =>
    intro x6 h0 hb
    unfold e_Scanner_scanLetters_85
    refine po_cond (fun c => ?_) (fun c => ?_)
    · rw [i_ge, l21] at c
      exact fun r hr => ⟨n, 100, .inl ⟨rfl, fun i hi => hb i (by omega)⟩, hr⟩
    · rw [i_nge, l21] at c
      rw [i_nne.mpr rfl, cond_false, m_ldJ_in h0 (by omega), Option.bind_some]
      have e1 := i_add (x := x6) (y := 1) (by omega) (by omega)
      refine po_cond (fun c2 => ?_) (fun c2 => ?_)
      · rw [l_cmp] at c2
        unfold e_Scanner_scanLetters_115
        exact ih (by omega) (fun i hi => by
          by_cases hlt : (i : Int) < x6.toInt
          · exact hb i hlt
          · have : i = x6.toInt.toNat := by omega
            rw [this]; exact c2)
      · rw [l_ncmp] at c2
        unfold e_Scanner_scanLetters_115
        refine po_mono (c85_ne (by omega)) ?_
        rintro r ⟨n', hr⟩
        exact ⟨n', x6, .inr ⟨x6.toInt.toNat, by omega, by omega, c2⟩, hr⟩
theorem r146 {x : Option γ} {K7 : (Nat → Int32) → (Nat → Nat → Int32) → (Nat → Nat → Int64) → Int32 → Option (mR Unit)} {Q : γ → mR Unit → Prop} {x1 x3 : Int32} {x4 : Int64} (ks : ∀ (m' : Nat) (kd : Int32), ((kd.toInt = 1 ∧ ∀ i : Nat, i < 21 → Jm 7 i ≠ x4) ∨ (∃ j : Nat, j < 21 ∧ Jm 7 j = x4 ∧ kd.toInt = 20 + j)) → P2 x (d_cut_179 K7 m' Fm Am Jm x1 x3 x4 kd) Q) : ∀ {m : Nat} {x6 x7 : Int32}, 0 ≤ x7.toInt → ((x6.toInt = 1 ∧ ∀ i : Nat, (i : Int) < x7.toInt → Jm 7 i ≠ x4) ∨ (∃ j : Nat, j < 21 ∧ Jm 7 j = x4 ∧ x6.toInt = 20 + j)) → P2 x (d_cut_146 K7 m Fm Am Jm x1 x3 x4 x6 x7) Q := by
  have l21 : (21 : Int32).toInt = 21 := by decide
  have l20 : (20 : Int32).toInt = 20 := by decide
  have l1 := i_1
  intro m
  induction m with
  | zero => intro x6 x7 _ _ a b _ hb; cases hb
  | succ m ih =>
    intro x6 x7 h0 hc
    unfold d_cut_146
    refine p2_cr (fun c => ?_) (fun c => ?_)
    · rw [i_ge, l21] at c
      exact ks m x6 (hc.imp (fun h => ⟨h.1, fun i hi => h.2 i (by omega)⟩) id)
    · rw [i_nge, l21] at c
      rw [m_ldJ_in h0 (by omega), Option.bind_some]
      have e1 := i_add (x := x7) (y := 1) (by omega) (by omega)
      unfold d_cut_173
      refine p2_cr (fun c2 => ?_) (fun c2 => ?_)
      · rw [l_cmp] at c2
        refine ih (by omega) (hc.imp (fun h => ⟨h.1, fun i hi => ?_⟩) id)
        by_cases hlt : (i : Int) < x7.toInt
        · exact h.2 i hlt
        · have : i = x7.toInt.toNat := by omega
          rw [this]; exact c2
      · rw [l_ncmp] at c2
        refine ih (by omega) (.inr ⟨x7.toInt.toNat, by omega, c2, ?_⟩)
        rw [i_add (by omega) (by omega), l20]; omega
end C2
