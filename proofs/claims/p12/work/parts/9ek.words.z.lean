section Qz118
/-! tokens, side by side -/
/-- the words of both sides -/
def WKx (JW JK : Nat → Int64) : Prop := (∀ i : Nat, i < 21 → ∃ j : Nat, j < 21 ∧ ((i : Int), (20 + j : Int)) ∈ kt ∧ TNi (JW i).toInt (JK j).toInt) ∧ (∀ j : Nat, j < 21 → ∃ i : Nat, i < 21 ∧ ((i : Int), (20 + j : Int)) ∈ kt ∧ TNi (JW i).toInt (JK j).toInt) ∧ (∀ i : Nat, i < 21 → (JW i).toInt < 72057594037927936) ∧ (∀ j j' : Nat, j < 21 → j' < 21 → JK j = JK j' → j = j')
theorem WKx.w {JW JK : Nat → Int64} (h_ : WKx JW JK) : ∀ i : Nat, i < 21 → ∃ j : Nat, j < 21 ∧ ((i : Int), (20 + j : Int)) ∈ kt ∧ TNi (JW i).toInt (JK j).toInt := h_.1
theorem WKx.k {JW JK : Nat → Int64} (h_ : WKx JW JK) : ∀ j : Nat, j < 21 → ∃ i : Nat, i < 21 ∧ ((i : Int), (20 + j : Int)) ∈ kt ∧ TNi (JW i).toInt (JK j).toInt := h_.2.1
theorem WKx.s {JW JK : Nat → Int64} (h_ : WKx JW JK) : ∀ i : Nat, i < 21 → (JW i).toInt < 72057594037927936 := h_.2.2.1
theorem WKx.u {JW JK : Nat → Int64} (h_ : WKx JW JK) : ∀ j j' : Nat, j < 21 → j' < 21 → JK j = JK j' → j = j' := h_.2.2.2
/-- a token, on both sides -/
def TR (j : Nat) (A : Nat → Nat → Nat → Int32) (J : Nat → Nat → Nat → Int64) (Am : Nat → Nat → Int32) (Jm : Nat → Nat → Int64) : Prop := KR (A 37 2 j).toInt (Am 3 j).toInt ∧ ((Am 3 j).toInt = 2 → A 37 4 j = Am 5 j) ∧ ((Am 3 j).toInt = 1 → TNi (J 37 5 j).toInt (Jm 6 j).toInt)
def LVm (Am : Nat → Nat → Int32) (j : Nat) : Prop := (Am 3 j).toInt ≠ 0 ∧ (Am 3 j).toInt ≠ 3
def SC (JW JK : Nat → Int64) (k : Nat) (p : Int) (F : Nat → Nat → Int32) (A : Nat → Nat → Nat → Int32) (J : Nat → Nat → Nat → Int64) (Fm : Nat → Int32) (Am : Nat → Nat → Int32) (Jm : Nat → Nat → Int64) : Prop := (F 1 1 = Fm 4) ∧ (0 ≤ (Fm 4).toInt) ∧ ((Fm 4).toInt ≤ 2000) ∧ (∀ i : Nat, (i : Int) < (Fm 4).toInt → A 1 1 i = Am 2 i ∧ -128 ≤ (Am 2 i).toInt ∧ (Am 2 i).toInt ≤ 127) ∧ ((F 37 105).toInt = p) ∧ (0 ≤ p) ∧ (p ≤ (Fm 4).toInt) ∧ ((Fm 10).toInt = k) ∧ (J 37 6 = JW) ∧ (Jm 7 = JK) ∧ (∀ j, j < k → TR j A J Am Jm ∧ LVm Am j) ∧ (∀ j, j + 1 < k → (Am 4 j).toInt < (Am 4 (j + 1)).toInt) ∧ (∀ j, j + 1 = k → (Am 4 j).toInt < p)
theorem SC.sz {JW JK : Nat → Int64} {k : Nat} {p : Int} {F : Nat → Nat → Int32} {A : Nat → Nat → Nat → Int32} {J : Nat → Nat → Nat → Int64} {Fm : Nat → Int32} {Am : Nat → Nat → Int32} {Jm : Nat → Nat → Int64} (h_ : SC JW JK k p F A J Fm Am Jm) : F 1 1 = Fm 4 := h_.1
theorem SC.s0 {JW JK : Nat → Int64} {k : Nat} {p : Int} {F : Nat → Nat → Int32} {A : Nat → Nat → Nat → Int32} {J : Nat → Nat → Nat → Int64} {Fm : Nat → Int32} {Am : Nat → Nat → Int32} {Jm : Nat → Nat → Int64} (h_ : SC JW JK k p F A J Fm Am Jm) : 0 ≤ (Fm 4).toInt := h_.2.1
theorem SC.s1 {JW JK : Nat → Int64} {k : Nat} {p : Int} {F : Nat → Nat → Int32} {A : Nat → Nat → Nat → Int32} {J : Nat → Nat → Nat → Int64} {Fm : Nat → Int32} {Am : Nat → Nat → Int32} {Jm : Nat → Nat → Int64} (h_ : SC JW JK k p F A J Fm Am Jm) : (Fm 4).toInt ≤ 2000 := h_.2.2.1
theorem SC.bt {JW JK : Nat → Int64} {k : Nat} {p : Int} {F : Nat → Nat → Int32} {A : Nat → Nat → Nat → Int32} {J : Nat → Nat → Nat → Int64} {Fm : Nat → Int32} {Am : Nat → Nat → Int32} {Jm : Nat → Nat → Int64} (h_ : SC JW JK k p F A J Fm Am Jm) : ∀ i : Nat, (i : Int) < (Fm 4).toInt → A 1 1 i = Am 2 i ∧ -128 ≤ (Am 2 i).toInt ∧ (Am 2 i).toInt ≤ 127 := h_.2.2.2.1
theorem SC.ps {JW JK : Nat → Int64} {k : Nat} {p : Int} {F : Nat → Nat → Int32} {A : Nat → Nat → Nat → Int32} {J : Nat → Nat → Nat → Int64} {Fm : Nat → Int32} {Am : Nat → Nat → Int32} {Jm : Nat → Nat → Int64} (h_ : SC JW JK k p F A J Fm Am Jm) : (F 37 105).toInt = p := h_.2.2.2.2.1
theorem SC.p0 {JW JK : Nat → Int64} {k : Nat} {p : Int} {F : Nat → Nat → Int32} {A : Nat → Nat → Nat → Int32} {J : Nat → Nat → Nat → Int64} {Fm : Nat → Int32} {Am : Nat → Nat → Int32} {Jm : Nat → Nat → Int64} (h_ : SC JW JK k p F A J Fm Am Jm) : 0 ≤ p := h_.2.2.2.2.2.1
theorem SC.p1 {JW JK : Nat → Int64} {k : Nat} {p : Int} {F : Nat → Nat → Int32} {A : Nat → Nat → Nat → Int32} {J : Nat → Nat → Nat → Int64} {Fm : Nat → Int32} {Am : Nat → Nat → Int32} {Jm : Nat → Nat → Int64} (h_ : SC JW JK k p F A J Fm Am Jm) : p ≤ (Fm 4).toInt := h_.2.2.2.2.2.2.1
theorem SC.fk {JW JK : Nat → Int64} {k : Nat} {p : Int} {F : Nat → Nat → Int32} {A : Nat → Nat → Nat → Int32} {J : Nat → Nat → Nat → Int64} {Fm : Nat → Int32} {Am : Nat → Nat → Int32} {Jm : Nat → Nat → Int64} (h_ : SC JW JK k p F A J Fm Am Jm) : (Fm 10).toInt = k := h_.2.2.2.2.2.2.2.1
theorem SC.jw {JW JK : Nat → Int64} {k : Nat} {p : Int} {F : Nat → Nat → Int32} {A : Nat → Nat → Nat → Int32} {J : Nat → Nat → Nat → Int64} {Fm : Nat → Int32} {Am : Nat → Nat → Int32} {Jm : Nat → Nat → Int64} (h_ : SC JW JK k p F A J Fm Am Jm) : J 37 6 = JW := h_.2.2.2.2.2.2.2.2.1
theorem SC.jk {JW JK : Nat → Int64} {k : Nat} {p : Int} {F : Nat → Nat → Int32} {A : Nat → Nat → Nat → Int32} {J : Nat → Nat → Nat → Int64} {Fm : Nat → Int32} {Am : Nat → Nat → Int32} {Jm : Nat → Nat → Int64} (h_ : SC JW JK k p F A J Fm Am Jm) : Jm 7 = JK := h_.2.2.2.2.2.2.2.2.2.1
theorem SC.tr {JW JK : Nat → Int64} {k : Nat} {p : Int} {F : Nat → Nat → Int32} {A : Nat → Nat → Nat → Int32} {J : Nat → Nat → Nat → Int64} {Fm : Nat → Int32} {Am : Nat → Nat → Int32} {Jm : Nat → Nat → Int64} (h_ : SC JW JK k p F A J Fm Am Jm) : ∀ j, j < k → TR j A J Am Jm ∧ LVm Am j := h_.2.2.2.2.2.2.2.2.2.2.1
theorem SC.up {JW JK : Nat → Int64} {k : Nat} {p : Int} {F : Nat → Nat → Int32} {A : Nat → Nat → Nat → Int32} {J : Nat → Nat → Nat → Int64} {Fm : Nat → Int32} {Am : Nat → Nat → Int32} {Jm : Nat → Nat → Int64} (h_ : SC JW JK k p F A J Fm Am Jm) : ∀ j, j + 1 < k → (Am 4 j).toInt < (Am 4 (j + 1)).toInt := h_.2.2.2.2.2.2.2.2.2.2.2.1
theorem SC.lp {JW JK : Nat → Int64} {k : Nat} {p : Int} {F : Nat → Nat → Int32} {A : Nat → Nat → Nat → Int32} {J : Nat → Nat → Nat → Int64} {Fm : Nat → Int32} {Am : Nat → Nat → Int32} {Jm : Nat → Nat → Int64} (h_ : SC JW JK k p F A J Fm Am Jm) : ∀ j, j + 1 = k → (Am 4 j).toInt < p := h_.2.2.2.2.2.2.2.2.2.2.2.2
def SQ (JW JK : Nat → Int64) (a : cR Unit) (b : mR Unit) : Prop := ∃ K0 : Nat, K0 ≤ 400 ∧ (∀ j, j ≤ K0 → TR j a.2.2.2.1 a.2.2.2.2 b.2.2.1 b.2.2.2) ∧ (∀ j, j < K0 → LVm b.2.2.1 j) ∧ (∀ j, j < K0 → (b.2.2.1 4 j).toInt < (b.2.2.1 4 (j + 1)).toInt) ∧ (K0 = 400 ∨ ¬ LVm b.2.2.1 K0) ∧ a.2.2.2.2 37 6 = JW ∧ b.2.2.2 7 = JK
section C2
variable {JW JK : Nat → Int64} {k : Nat} {p : Int} {P : Nat → Nat → Nat} {F F' : Nat → Nat → Int32} {A A' : Nat → Nat → Nat → Int32} {J J' : Nat → Nat → Nat → Int64} {Fm Fm' : Nat → Int32} {Am Am' : Nat → Nat → Int32} {Jm Jm' : Nat → Nat → Int64} {xk xp : Int32} {γ δ : Type} {Q : γ → δ → Prop}
/-! what the reference has put down stays -/
def GF (k0 : Nat) (A0 : Nat → Nat → Int32) (J0 : Nat → Nat → Int64) (F : Nat → Int32) (A : Nat → Nat → Int32) (J : Nat → Nat → Int64) : Prop := (k0 : Int) ≤ (F 10).toInt ∧ (∀ j, j < k0 → A 3 j = A0 3 j ∧ A 4 j = A0 4 j ∧ A 5 j = A0 5 j ∧ J 6 j = J0 6 j) ∧ J 7 = J0 7
def GFr (k0 : Nat) (A0 : Nat → Nat → Int32) (J0 : Nat → Nat → Int64) {α : Type} (r : mR α) : Prop := GF k0 A0 J0 r.2.1 r.2.2.1 r.2.2.2
theorem ai_nat {A A' : Nat → Nat → Int32} {o j : Nat} (h : ai A' o j = ai A o j) : A' o j = A o j := i_ext h
theorem g_token {x1 x2 x3 : Int32} {x4 : Int64} {r : mR Unit} (h : d_token Fm Am Jm x1 x2 x3 x4 = some r) : ∃ F' A' J', r = ((), F', A', J') ∧ 0 ≤ (Fm 10).toInt ∧ (Fm 10).toInt < 403 ∧ (F' 10).toInt = (Fm 10).toInt + 1 ∧ (∀ q, q ≠ 10 → F' q = Fm q) ∧ (∀ q, q ≠ 3 → q ≠ 4 → q ≠ 5 → A' q = Am q) ∧ (∀ q, q ≠ 6 → J' q = Jm q) ∧ A' 3 (Fm 10).toInt.toNat = x1 ∧ A' 4 (Fm 10).toInt.toNat = x2 ∧ A' 5 (Fm 10).toInt.toNat = x3 ∧ J' 6 (Fm 10).toInt.toNat = x4 ∧ (∀ j : Nat, (j : Int) ≠ (Fm 10).toInt → A' 3 j = Am 3 j ∧ A' 4 j = Am 4 j ∧ A' 5 j = Am 5 j ∧ J' 6 j = Jm 6 j) := by
  unfold d_token at h
  obtain ⟨A1, e1, h⟩ := Option.bind_eq_some_iff.mp h
  obtain ⟨A2, e2, h⟩ := Option.bind_eq_some_iff.mp h
  obtain ⟨A3, e3, h⟩ := Option.bind_eq_some_iff.mp h
  obtain ⟨J4, e4, h⟩ := Option.bind_eq_some_iff.mp h
  obtain ⟨F5, e5, h⟩ := Option.bind_eq_some_iff.mp h
  cases h
  have a1 := gg_st e1
  have a2 := gg_st e2
  have a3 := gg_st e3
  have a4 := gg_stJ e4
  have a5 := gg_pf e5
  have l1 := i_1
  refine ⟨F5, A3, J4, rfl, a1.1, a1.2.1, by rw [a5.1, i_add (by omega) (by omega), i_1], a5.2, fun q h3 h4 h5 => by rw [a3.2.2.1 q h5, a2.2.2.1 q h4, a1.2.2.1 q h3], a4.2.2.1, ?_, ?_, i_ext a3.2.2.2.1, a4.2.2.2.1, fun j hj => ⟨?_, ?_, ?_, ?_⟩⟩
  · rw [a3.2.2.1 3 (by decide), a2.2.2.1 3 (by decide)]; exact i_ext a1.2.2.2.1
  · rw [a3.2.2.1 4 (by decide)]; exact i_ext a2.2.2.2.1
  · rw [a3.2.2.1 3 (by decide), a2.2.2.1 3 (by decide)]; exact ai_nat (a1.2.2.2.2 j (by omega) hj)
  · rw [a3.2.2.1 4 (by decide)]; exact (ai_nat (a2.2.2.2.2 j (by omega) hj)).trans (by rw [a1.2.2.1 4 (by decide)])
  · exact (ai_nat (a3.2.2.2.2 j (by omega) hj)).trans (by rw [a2.2.2.1 5 (by decide), a1.2.2.1 5 (by decide)])
  · exact a4.2.2.2.2 j (by omega) hj
theorem tok_gf {k0 : Nat} {A0 J0} {x1 x2 x3 : Int32} {x4 : Int64} (G : GF k0 A0 J0 Fm Am Jm) : po (d_token Fm Am Jm x1 x2 x3 x4) (GFr k0 A0 J0) := by
  intro r hr
  obtain ⟨F', A', J', rfl, z0, z1, h10, hF, hA, hJ, -, -, -, -, old⟩ := g_token hr
  refine ⟨?_, fun j hj => ?_, ?_⟩
  · show (k0 : Int) ≤ (F' 10).toInt
    have := G.1
    omega
  · have o := old j (by have := G.1; omega)
    have g := G.2.1 j hj
    exact ⟨o.1.trans g.1, o.2.1.trans g.2.1, o.2.2.1.trans g.2.2.1, o.2.2.2.trans g.2.2.2⟩
  · show J' 7 = J0 7
    rw [hJ 7 (by decide)]
    exact G.2.2
section GFK
variable {k0 : Nat} {A0 : Nat → Nat → Int32} {J0 : Nat → Nat → Int64} {K7 : (Nat → Int32) → (Nat → Nat → Int32) → (Nat → Nat → Int64) → Int32 → Option (mR Unit)}
theorem gf_261 {n : Nat} {x1 x3 x4 s1 : Int32} (hK : ∀ F A J x, GF k0 A0 J0 F A J → po (K7 F A J x) (GFr k0 A0 J0)) (G : GF k0 A0 J0 Fm Am Jm) : po (d_cut_261 K7 n Fm Am Jm x1 x3 x4 s1) (GFr k0 A0 J0) := by
  unfold d_cut_261
  refine po_call (tok_gf G) ?_
  rintro ⟨u, F1, A1, J1⟩ g
  exact hK _ _ _ _ g
theorem gf_208 (hK : ∀ F A J x, GF k0 A0 J0 F A J → po (K7 F A J x) (GFr k0 A0 J0)) : ∀ {n : Nat} {x1 x3 x4 : Int32}, GF k0 A0 J0 Fm Am Jm → po (d_cut_208 K7 n Fm Am Jm x1 x3 x4) (GFr k0 A0 J0) := by
  intro n
  induction n with
  | zero => intro x1 x3 x4 _ r hr; cases hr
  | succ n ih =>
    intro x1 x3 x4 G
    unfold d_cut_208 d_cut_244
    refine po_bl (fun _ _ => po_bl (fun _ _ => po_cond (fun _ => po_cond (fun _ => gf_261 hK G) (fun _ => gf_261 hK G)) (fun _ => po_cond (fun _ => ih G) (fun _ => po_bl (fun _ _ => ih G)))))
theorem gf_179 {n : Nat} {x1 x3 : Int32} {x4 : Int64} {x6 : Int32} (hK : ∀ F A J x, GF k0 A0 J0 F A J → po (K7 F A J x) (GFr k0 A0 J0)) (G : GF k0 A0 J0 Fm Am Jm) : po (d_cut_179 K7 n Fm Am Jm x1 x3 x4 x6) (GFr k0 A0 J0) := by
  unfold d_cut_179
  refine po_call (tok_gf G) ?_
  rintro ⟨u, F1, A1, J1⟩ g
  exact hK _ _ _ _ g
theorem gf_146 (hK : ∀ F A J x, GF k0 A0 J0 F A J → po (K7 F A J x) (GFr k0 A0 J0)) : ∀ {n : Nat} {x1 x3 : Int32} {x4 : Int64} {x6 x7 : Int32}, GF k0 A0 J0 Fm Am Jm → po (d_cut_146 K7 n Fm Am Jm x1 x3 x4 x6 x7) (GFr k0 A0 J0) := by
  intro n
  induction n with
  | zero => intro x1 x3 x4 x6 x7 _ r hr; cases hr
  | succ n ih =>
    intro x1 x3 x4 x6 x7 G
    unfold d_cut_146 d_cut_173
    exact po_cond (fun _ => gf_179 hK G) (fun _ => po_bl (fun _ _ => po_cond (fun _ => ih G) (fun _ => ih G)))
theorem gf_85 (hK : ∀ F A J x, GF k0 A0 J0 F A J → po (K7 F A J x) (GFr k0 A0 J0)) : ∀ {n : Nat} {x1 x3 : Int32} {x4 : Int64}, GF k0 A0 J0 Fm Am Jm → po (d_cut_85 K7 n Fm Am Jm x1 x3 x4) (GFr k0 A0 J0) := by
  intro n
  induction n with
  | zero => intro x1 x3 x4 _ r hr; cases hr
  | succ n ih =>
    intro x1 x3 x4 G
    unfold d_cut_85 d_cut_118 d_cut_135
    have z : ∀ {n : Nat} {s0}, po (cond (g_cnd .gt x3 7) (d_cut_179 K7 n Fm Am Jm x1 x3 x4 s0) (d_cut_146 K7 n Fm Am Jm x1 x3 x4 s0 0)) (GFr k0 A0 J0) := po_cond (fun _ => gf_179 hK G) (fun _ => gf_146 hK G)
    exact po_bl (fun _ _ => po_bl (fun _ _ => po_cond (fun _ => po_cond (fun _ => z) (fun _ => z)) (fun _ => po_cond (fun _ => ih G) (fun _ => po_bl (fun _ _ => po_bl (fun _ _ => ih G))))))
theorem gf_sign {x1 x2 x3 : Int32} (G : GF k0 A0 J0 Fm Am Jm) : po (d_sign Fm Am Jm x1 x2 x3) (GFr k0 A0 J0) := by
  have z : ∀ s, po (d_sign_95 Fm Am Jm x1 s) (GFr k0 A0 J0) := by
    intro s
    unfold d_sign_95
    refine po_call (tok_gf G) ?_
    rintro ⟨u, F1, A1, J1⟩ g
    exact po_some g
  have z43 : ∀ s, po (d_sign_43 Fm Am Jm x1 x2 s) (GFr k0 A0 J0) := by
    intro s
    unfold d_sign_43 d_sign_55 d_sign_65 d_sign_75 d_sign_85
    repeat' (first | exact z _ | refine po_cond (fun _ => ?_) (fun _ => ?_))
  unfold d_sign
  repeat' (first | exact z43 _ | refine po_cond (fun _ => ?_) (fun _ => ?_))
end GFK
theorem gf_7 {k0 : Nat} {A0 : Nat → Nat → Int32} {J0 : Nat → Nat → Int64} : ∀ {n : Nat} {Fm : Nat → Int32} {Am : Nat → Nat → Int32} {Jm : Nat → Nat → Int64} {x1 : Int32}, GF k0 A0 J0 Fm Am Jm → po (d_cut_7 n Fm Am Jm x1) (GFr k0 A0 J0) := by
  intro n
  induction n with
  | zero => intro Fm Am Jm x1 _ r hr; cases hr
  | succ n ih =>
    intro Fm Am Jm x1 G
    have hK : ∀ F A J x, GF k0 A0 J0 F A J → po (d_cut_7 n F A J x) (GFr k0 A0 J0) := fun _ _ _ _ g => ih g
    have z67 : po (d_cut_67 (d_cut_7 n) n Fm Am Jm x1) (GFr k0 A0 J0) := by
      unfold d_cut_67 d_cut_291
      exact ih G
    unfold d_cut_7
    refine po_cond (fun _ => po_some G) (fun _ => po_bl (fun _ _ => po_cond (fun _ => ?_) (fun _ => ?_)))
    · refine po_cond (fun _ => z67) (fun _ => po_cond (fun _ => z67) (fun _ => po_cond (fun _ => z67) (fun _ => po_cond (fun _ => ?_) (fun _ => z67))))
      refine po_bl (fun _ _ => po_cond (fun _ => ?_) (fun _ => gf_85 hK G))
      refine po_bl (fun _ _ => po_cond (fun _ => ?_) (fun _ => gf_208 hK G))
      refine po_bl (fun _ _ => ?_)
      refine po_call (gf_sign G) ?_
      rintro ⟨u, F1, A1, J1⟩ g
      unfold d_cut_291
      exact ih g
    · refine po_call (tok_gf G) ?_
      rintro ⟨u, F1, A1, J1⟩ g
      exact po_some g
/-! words -/
theorem c121 {n : Nat} {x3 : Int64} {x5 : Int32} {r : cR Unit} (h : e_Scanner_scanLetters_121 n P F A J xk x3 x5 = some r) : ∃ A' J', r = ((), P, F, A', J') ∧ CUm A A' 37 2 xk.toInt x5.toInt ∧ J' 37 5 xk.toInt.toNat = x3 ∧ (∀ j : Int, 0 ≤ j → j ≠ xk.toInt → J' 37 5 j.toNat = J 37 5 j.toNat) ∧ (∀ r' o', ¬ (r' = 37 ∧ o' = 5) → J' r' o' = J r' o') := by
  unfold e_Scanner_scanLetters_121 at h
  obtain ⟨J1, e1, h⟩ := Option.bind_eq_some_iff.mp h
  obtain ⟨A1, e2, h⟩ := Option.bind_eq_some_iff.mp h
  cases h
  have a1 := gg_cstJ e1
  exact ⟨A1, J1, rfl, (gg_cst e2).2.2, a1.2.2.1, a1.2.2.2.1, a1.2.2.2.2⟩
theorem c85_ne {x3 : Int64} {x5 x6 : Int32} (h : x5.toInt ≠ 100) : ∀ {n : Nat}, po (e_Scanner_scanLetters_85 n P F A J xk x3 x5 x6) (fun r => ∃ n', e_Scanner_scanLetters_121 n' P F A J xk x3 x5 = some r) := by
  intro n
  cases n with
  | zero => intro r hr; cases hr
  | succ n =>
    unfold e_Scanner_scanLetters_85
    rw [i_ne.mpr (by rw [show (100 : Int32).toInt = 100 by decide]; exact h)]
    exact po_cond (fun _ => fun r hr => ⟨n, hr⟩) (fun _ => by rw [cond_true]; exact fun r hr => ⟨n, hr⟩)
theorem c85 {x3 : Int64} : ∀ {n : Nat} {x6 : Int32}, 0 ≤ x6.toInt → (∀ i : Nat, (i : Int) < x6.toInt → J 37 6 i ≠ x3) → po (e_Scanner_scanLetters_85 n P F A J xk x3 100 x6) (fun r => ∃ (n' : Nat) (fd : Int32), ((fd = 100 ∧ ∀ i : Nat, i < 21 → J 37 6 i ≠ x3) ∨ (∃ i : Nat, i < 21 ∧ fd.toInt = i ∧ J 37 6 i = x3)) ∧ e_Scanner_scanLetters_121 n' P F A J xk x3 fd = some r) := by
  have l21 : (21 : Int32).toInt = 21 := by decide
  have l1 := i_1
  intro n
  induction n with
  | zero => intro x6 _ _ r hr; cases hr
  | succ n ih =>
    intro x6 h0 hb
    unfold e_Scanner_scanLetters_85
    refine po_cond (fun c => ?_) (fun c => ?_)
    · rw [i_ge, l21] at c
      exact fun r hr => ⟨n, 100, .inl ⟨rfl, fun i hi => hb i (by omega)⟩, hr⟩
    · rw [i_nge, l21] at c
      rw [i_nne.mpr rfl, cond_false, m_ldJ_in h0 (by omega), Option.bind_some]
      have e1 := i_add (x := x6) (y := 1) (by omega) (by omega)
      refine po_cond (fun c2 => ?_) (fun c2 => ?_)
      · rw [l_cmp] at c2
        unfold e_Scanner_scanLetters_115
        exact ih (by omega) (fun i hi => by
          by_cases hlt : (i : Int) < x6.toInt
          · exact hb i hlt
          · have : i = x6.toInt.toNat := by omega
            rw [this]; exact c2)
      · rw [l_ncmp] at c2
        unfold e_Scanner_scanLetters_115
        refine po_mono (c85_ne (by omega)) ?_
        rintro r ⟨n', hr⟩
        exact ⟨n', x6, .inr ⟨x6.toInt.toNat, by omega, by omega, c2⟩, hr⟩
theorem r146 {x : Option γ} {K7 : (Nat → Int32) → (Nat → Nat → Int32) → (Nat → Nat → Int64) → Int32 → Option (mR Unit)} {Q : γ → mR Unit → Prop} {x1 x3 : Int32} {x4 : Int64} (ks : ∀ (m' : Nat) (kd : Int32), ((kd.toInt = 1 ∧ ∀ i : Nat, i < 21 → Jm 7 i ≠ x4) ∨ (∃ j : Nat, j < 21 ∧ Jm 7 j = x4 ∧ kd.toInt = 20 + j)) → P2 x (d_cut_179 K7 m' Fm Am Jm x1 x3 x4 kd) Q) : ∀ {m : Nat} {x6 x7 : Int32}, 0 ≤ x7.toInt → ((x6.toInt = 1 ∧ ∀ i : Nat, (i : Int) < x7.toInt → Jm 7 i ≠ x4) ∨ (∃ j : Nat, j < 21 ∧ Jm 7 j = x4 ∧ x6.toInt = 20 + j)) → P2 x (d_cut_146 K7 m Fm Am Jm x1 x3 x4 x6 x7) Q := by
  have l21 : (21 : Int32).toInt = 21 := by decide
  have l20 : (20 : Int32).toInt = 20 := by decide
  have l1 := i_1
  intro m
  induction m with
  | zero => intro x6 x7 _ _ a b _ hb; cases hb
  | succ m ih =>
    intro x6 x7 h0 hc
    unfold d_cut_146
    refine p2_cr (fun c => ?_) (fun c => ?_)
    · rw [i_ge, l21] at c
      exact ks m x6 (hc.imp (fun h => ⟨h.1, fun i hi => h.2 i (by omega)⟩) id)
    · rw [i_nge, l21] at c
      rw [m_ldJ_in h0 (by omega), Option.bind_some]
      have e1 := i_add (x := x7) (y := 1) (by omega) (by omega)
      unfold d_cut_173
      refine p2_cr (fun c2 => ?_) (fun c2 => ?_)
      · rw [l_cmp] at c2
        refine ih (by omega) (hc.imp (fun h => ⟨h.1, fun i hi => ?_⟩) id)
        by_cases hlt : (i : Int) < x7.toInt
        · exact h.2 i hlt
        · have : i = x7.toInt.toNat := by omega
          rw [this]; exact c2
      · rw [l_ncmp] at c2
        refine ih (by omega) (.inr ⟨x7.toInt.toNat, by omega, c2, ?_⟩)
        rw [i_add (by omega) (by omega), l20]; omega
end C2
end Qz118
section Qz119
theorem p256 {n m : Nat} (h : n ≤ m) : (256 : Int) ^ n ≤ 256 ^ m := by
  have := Nat.pow_le_pow_right (n := 256) (by decide) h
  have e : ∀ k : Nat, ((256 ^ k : Nat) : Int) = 256 ^ k := fun k => Int.natCast_pow 256 k
  rw [← e, ← e]
  exact Int.ofNat_le.mpr this
theorem p27 {n m : Nat} (h : n ≤ m) : (27 : Int) ^ n ≤ 27 ^ m := by
  have := Nat.pow_le_pow_right (n := 27) (by decide) h
  have e : ∀ k : Nat, ((27 ^ k : Nat) : Int) = 27 ^ k := fun k => Int.natCast_pow 27 k
  rw [← e, ← e]
  exact Int.ofNat_le.mpr this
section C3
variable {JW JK : Nat → Int64} {k : Nat} {p : Int} {P : Nat → Nat → Nat} {F F' F0 : Nat → Nat → Int32} {A A' : Nat → Nat → Nat → Int32} {J J' : Nat → Nat → Nat → Int64} {Fm Fm' : Nat → Int32} {Am Am' : Nat → Nat → Int32} {Jm Jm' : Nat → Nat → Int64} {xk x1 : Int32} {γ : Type} {Q : γ → mR Unit → Prop}
/-- nothing but the place in the text has changed -/
def F105 (F F' : Nat → Nat → Int32) : Prop := ∀ r q, ¬ (r = 37 ∧ q = 105) → F' r q = F r q
/-- the bytes of both sides -/
def BTx (A : Nat → Nat → Nat → Int32) (Fm : Nat → Int32) (Am : Nat → Nat → Int32) : Prop := ∀ i : Nat, (i : Int) < (Fm 4).toInt → A 1 1 i = Am 2 i ∧ -128 ≤ (Am 2 i).toInt ∧ (Am 2 i).toInt ≤ 127
/-- letters, on both sides -/
theorem p2_let {f : cR Unit → Option γ} {K7 : (Nat → Int32) → (Nat → Nat → Int32) → (Nat → Nat → Int64) → Int32 → Option (mR Unit)} (sz : F0 1 1 = Fm 4) (s1 : (Fm 4).toInt ≤ 2000) (bt : BTx A Fm Am) (hx : x1.toInt = p) (p0 : 0 ≤ p)
    (ks : ∀ (n' m' : Nat) (F' : Nat → Nat → Int32) (x3' x4' : Int64) (nn' : Int32), F105 F0 F' → 0 ≤ nn'.toInt → (F' 37 105).toInt = p + nn'.toInt → p + nn'.toInt ≤ (Fm 4).toInt → (p + nn'.toInt = (Fm 4).toInt ∨ ¬ (97 ≤ (Am 2 (p + nn'.toInt).toNat).toInt ∧ (Am 2 (p + nn'.toInt).toNat).toInt ≤ 122)) → (nn'.toInt ≤ 8 → TNl nn'.toInt.toNat x3'.toInt x4'.toInt) → P2 ((e_Scanner_scanLetters_57 n' P F' A J xk x3').bind f) (cond (g_cnd .le nn' 8) (d_cut_135 K7 m' Fm Am Jm x1 nn' x4' 1) (d_cut_135 K7 m' Fm Am Jm x1 nn' x4' 3)) Q) :
    ∀ {n m : Nat} {F : Nat → Nat → Int32} {x3 x4 : Int64} {nn : Int32}, F105 F0 F → 0 ≤ nn.toInt → (F 37 105).toInt = p + nn.toInt → p + nn.toInt ≤ (Fm 4).toInt → (nn.toInt ≤ 8 → TNl nn.toInt.toNat x3.toInt x4.toInt) → P2 ((e_Scanner_scanLetters_2 n P F A J xk x3).bind f) (d_cut_85 K7 m Fm Am Jm x1 nn x4) Q := by
  have l1 := i_1
  have l8 : (8 : Int32).toInt = 8 := by decide
  intro n
  induction n with
  | zero => intro m F x3 x4 nn _ _ _ _ _ a b ha _; cases ha
  | succ n ih =>
    intro m F x3 x4 nn fr n0 hp hs tn
    cases m with
    | zero => intro a b _ hb; cases hb
    | succ m =>
      have e11 : F 1 1 = Fm 4 := (fr 1 1 (by decide)).trans sz
      have ei := i_add (x := x1) (y := nn) (by omega) (by omega)
      unfold e_Scanner_scanLetters_2 d_cut_85
      by_cases c : p + nn.toInt < (Fm 4).toInt
      · have ib : (F 37 105).toInt.toNat = (x1 + nn).toInt.toNat := by omega
        have ip : (x1 + nn).toInt.toNat = (p + nn.toInt).toNat := by omega
        obtain ⟨b1, b2, b3⟩ := bt (p + nn.toInt).toNat (by omega)
        have bb := b255 b2 b3
        rw [i_nge.mpr (by rw [e11]; omega), cond_false, m_ld_in (by omega) (by omega), Option.bind_some, byte_in (by omega) (by omega) s1, Option.bind_some, ib, ip, b1]
        by_cases lt : 97 ≤ (Am 2 (p + nn.toInt).toNat).toInt ∧ (Am 2 (p + nn.toInt).toNat).toInt ≤ 122
        · rw [cl_l1 lt, Option.bind_some, cz_10, cond_false, Option.bind_some, dl_l1 (by omega), Option.bind_some, cz_10, cond_false, Option.bind_assoc]
          refine p2_bl (fun F6 e6 => ?_)
          have U6 := gg_cpf e6
          have fr6 : F105 F0 F6 := fun r q h => (U6.2 r q h).trans (fr r q h)
          have h6 : (F6 37 105).toInt = p + nn.toInt + 1 := by rw [U6.1, i_add (by omega) (by omega), i_1, hp]
          have e1 := i_add (x := nn) (y := 1) (by omega) (by omega)
          unfold d_cut_118
          refine p2_cr (fun c8 => ?_) (fun c8 => ?_)
          · rw [i_ge, l8] at c8
            exact ih fr6 (by omega) (by omega) (by omega) (fun h => by omega)
          · rw [i_nge, l8] at c8
            have t := tn (by omega)
            have tp := t.1.pos
            have pw := p256 (show nn.toInt.toNat ≤ 7 by omega)
            have pw27 := p27 (show nn.toInt.toNat ≤ 7 by omega)
            have k7 : (256 : Int) ^ 7 = 72057594037927936 := by decide
            have k27 : (27 : Int) ^ 7 = 10460353203 := by decide
            obtain ⟨z, ez, hz⟩ := ap27 (y := x4) (v := Am 2 (p + nn.toInt).toNat &&& 255) tp.2 (by have := t.2.2.1; omega) (by omega) (by omega)
            rw [Option.bind_some, ez, Option.bind_some]
            have hx3 := sh8 (y := x3) (v := Am 2 (p + nn.toInt).toNat) tp.1 (by have := t.2.1; omega) (by omega) (by omega)
            refine ih fr6 (by omega) (by omega) (by omega) (fun h => ?_)
            have en : (nn + 1).toInt.toNat = nn.toInt.toNat + 1 := by omega
            rw [en, hx3, hz]
            have ev : (Am 2 (p + nn.toInt).toNat &&& 255).toInt = (Am 2 (p + nn.toInt).toNat).toInt := by omega
            rw [ev]
            exact t.snoc lt.1 lt.2
        · rw [cl_l0 lt, Option.bind_some, cz_00, cond_true, Option.bind_some, dl_l0 (by omega), Option.bind_some, cz_00, cond_true]
          exact ks n m F x3 x4 nn fr n0 hp hs (.inr lt) tn
      · rw [i_ge.mpr (by rw [e11]; omega), cond_true, byte_out (by omega), Option.bind_some, dl_l0 (by decide), Option.bind_some, cz_00, cond_true]
        exact ks n m F x3 x4 nn fr n0 hp hs (.inl (by omega)) tn
/-- digits, on both sides -/
theorem p2_dig {f : cR Unit → Option γ} {K7 : (Nat → Int32) → (Nat → Nat → Int32) → (Nat → Nat → Int64) → Int32 → Option (mR Unit)} (sz : F0 1 1 = Fm 4) (s1 : (Fm 4).toInt ≤ 2000) (bt : BTx A Fm Am) (hx : x1.toInt = p) (p0 : 0 ≤ p)
    (ks : ∀ (n' m' : Nat) (F' : Nat → Nat → Int32) (x3' x4' : Int32) (nn' : Int32), F105 F0 F' → 0 ≤ nn'.toInt → (F' 37 105).toInt = p + nn'.toInt → p + nn'.toInt ≤ (Fm 4).toInt → (p + nn'.toInt = (Fm 4).toInt ∨ ¬ (48 ≤ (Am 2 (p + nn'.toInt).toNat).toInt ∧ (Am 2 (p + nn'.toInt).toNat).toInt ≤ 57)) → (nn'.toInt ≤ 4 → x3' = x4') → P2 ((e_Scanner_scanDigits_59 n' P F' A J xk x3').bind f) (cond (g_cnd .le nn' 4) (d_cut_261 K7 m' Fm Am Jm x1 nn' x4' 2) (d_cut_261 K7 m' Fm Am Jm x1 nn' x4' 3)) Q) :
    ∀ {n m : Nat} {F : Nat → Nat → Int32} {x3 x4 : Int32} {nn : Int32}, F105 F0 F → 0 ≤ nn.toInt → (F 37 105).toInt = p + nn.toInt → p + nn.toInt ≤ (Fm 4).toInt → (nn.toInt ≤ 4 → x3 = x4) → P2 ((e_Scanner_scanDigits_2 n P F A J xk x3).bind f) (d_cut_208 K7 m Fm Am Jm x1 nn x4) Q := by
  have l1 := i_1
  have l4 : (4 : Int32).toInt = 4 := by decide
  intro n
  induction n with
  | zero => intro m F x3 x4 nn _ _ _ _ _ a b ha _; cases ha
  | succ n ih =>
    intro m F x3 x4 nn fr n0 hp hs tn
    cases m with
    | zero => intro a b _ hb; cases hb
    | succ m =>
      have e11 : F 1 1 = Fm 4 := (fr 1 1 (by decide)).trans sz
      have ei := i_add (x := x1) (y := nn) (by omega) (by omega)
      unfold e_Scanner_scanDigits_2 d_cut_208
      by_cases c : p + nn.toInt < (Fm 4).toInt
      · have ib : (F 37 105).toInt.toNat = (x1 + nn).toInt.toNat := by omega
        have ip : (x1 + nn).toInt.toNat = (p + nn.toInt).toNat := by omega
        obtain ⟨b1, b2, b3⟩ := bt (p + nn.toInt).toNat (by omega)
        have bb := b255 b2 b3
        rw [i_nge.mpr (by rw [e11]; omega), cond_false, m_ld_in (by omega) (by omega), Option.bind_some, byte_in (by omega) (by omega) s1, Option.bind_some, ib, ip, b1]
        by_cases lt : 48 ≤ (Am 2 (p + nn.toInt).toNat).toInt ∧ (Am 2 (p + nn.toInt).toNat).toInt ≤ 57
        · rw [cl_d1 lt, Option.bind_some, cz_10, cond_false, Option.bind_some, dl_d1 (by omega), Option.bind_some, cz_10, cond_false, Option.bind_assoc]
          refine p2_bl (fun F6 e6 => ?_)
          have U6 := gg_cpf e6
          have fr6 : F105 F0 F6 := fun r q h => (U6.2 r q h).trans (fr r q h)
          have h6 : (F6 37 105).toInt = p + nn.toInt + 1 := by rw [U6.1, i_add (by omega) (by omega), i_1, hp]
          have e1 := i_add (x := nn) (y := 1) (by omega) (by omega)
          unfold d_cut_244
          refine p2_cr (fun c8 => ?_) (fun c8 => ?_)
          · rw [i_ge, l4] at c8
            exact ih fr6 (by omega) (by omega) (by omega) (fun h => by omega)
          · rw [i_nge, l4] at c8
            have t := tn (by omega)
            have ev : (Am 2 (p + nn.toInt).toNat &&& 255) = Am 2 (p + nn.toInt).toNat := i_ext (by omega)
            rw [Option.bind_some, ev]
            exact ih fr6 (by omega) (by omega) (by omega) (fun _ => by rw [t, Int32.mul_comm])
        · rw [cl_d0 lt, Option.bind_some, cz_00, cond_true, Option.bind_some, dl_d0 (by omega), Option.bind_some, cz_00, cond_true]
          exact ks n m F x3 x4 nn fr n0 hp hs (.inr lt) tn
      · rw [i_ge.mpr (by rw [e11]; omega), cond_true, byte_out (by omega), Option.bind_some, dl_d0 (by decide), Option.bind_some, cz_00, cond_true]
        exact ks n m F x3 x4 nn fr n0 hp hs (.inl (by omega)) tn
/-- a token has been put down on both sides -/
def AT (JW JK : Nat → Int64) (k : Nat) (p : Int) (F : Nat → Nat → Int32) (A : Nat → Nat → Nat → Int32) (J : Nat → Nat → Nat → Int64) (Fm : Nat → Int32) (Am : Nat → Nat → Int32) (Jm : Nat → Nat → Int64) : Prop := (F 1 1 = Fm 4) ∧ (0 ≤ (Fm 4).toInt) ∧ ((Fm 4).toInt ≤ 2000) ∧ (BTx A Fm Am) ∧ ((F 37 105).toInt = p) ∧ (0 ≤ p) ∧ (p ≤ (Fm 4).toInt) ∧ ((Fm 10).toInt = k + 1) ∧ (J 37 6 = JW) ∧ (Jm 7 = JK) ∧ (∀ j, j < k → TR j A J Am Jm ∧ LVm Am j) ∧ (TR k A J Am Jm) ∧ (∀ j, j < k → (Am 4 j).toInt < (Am 4 (j + 1)).toInt) ∧ ((Am 4 k).toInt < p ∨ (Am 3 k).toInt = 0)
theorem AT.sz {JW JK : Nat → Int64} {k : Nat} {p : Int} {F : Nat → Nat → Int32} {A : Nat → Nat → Nat → Int32} {J : Nat → Nat → Nat → Int64} {Fm : Nat → Int32} {Am : Nat → Nat → Int32} {Jm : Nat → Nat → Int64} (h_ : AT JW JK k p F A J Fm Am Jm) : F 1 1 = Fm 4 := h_.1
theorem AT.s0 {JW JK : Nat → Int64} {k : Nat} {p : Int} {F : Nat → Nat → Int32} {A : Nat → Nat → Nat → Int32} {J : Nat → Nat → Nat → Int64} {Fm : Nat → Int32} {Am : Nat → Nat → Int32} {Jm : Nat → Nat → Int64} (h_ : AT JW JK k p F A J Fm Am Jm) : 0 ≤ (Fm 4).toInt := h_.2.1
theorem AT.s1 {JW JK : Nat → Int64} {k : Nat} {p : Int} {F : Nat → Nat → Int32} {A : Nat → Nat → Nat → Int32} {J : Nat → Nat → Nat → Int64} {Fm : Nat → Int32} {Am : Nat → Nat → Int32} {Jm : Nat → Nat → Int64} (h_ : AT JW JK k p F A J Fm Am Jm) : (Fm 4).toInt ≤ 2000 := h_.2.2.1
theorem AT.bt {JW JK : Nat → Int64} {k : Nat} {p : Int} {F : Nat → Nat → Int32} {A : Nat → Nat → Nat → Int32} {J : Nat → Nat → Nat → Int64} {Fm : Nat → Int32} {Am : Nat → Nat → Int32} {Jm : Nat → Nat → Int64} (h_ : AT JW JK k p F A J Fm Am Jm) : BTx A Fm Am := h_.2.2.2.1
theorem AT.ps {JW JK : Nat → Int64} {k : Nat} {p : Int} {F : Nat → Nat → Int32} {A : Nat → Nat → Nat → Int32} {J : Nat → Nat → Nat → Int64} {Fm : Nat → Int32} {Am : Nat → Nat → Int32} {Jm : Nat → Nat → Int64} (h_ : AT JW JK k p F A J Fm Am Jm) : (F 37 105).toInt = p := h_.2.2.2.2.1
theorem AT.p0 {JW JK : Nat → Int64} {k : Nat} {p : Int} {F : Nat → Nat → Int32} {A : Nat → Nat → Nat → Int32} {J : Nat → Nat → Nat → Int64} {Fm : Nat → Int32} {Am : Nat → Nat → Int32} {Jm : Nat → Nat → Int64} (h_ : AT JW JK k p F A J Fm Am Jm) : 0 ≤ p := h_.2.2.2.2.2.1
theorem AT.p1 {JW JK : Nat → Int64} {k : Nat} {p : Int} {F : Nat → Nat → Int32} {A : Nat → Nat → Nat → Int32} {J : Nat → Nat → Nat → Int64} {Fm : Nat → Int32} {Am : Nat → Nat → Int32} {Jm : Nat → Nat → Int64} (h_ : AT JW JK k p F A J Fm Am Jm) : p ≤ (Fm 4).toInt := h_.2.2.2.2.2.2.1
theorem AT.fk {JW JK : Nat → Int64} {k : Nat} {p : Int} {F : Nat → Nat → Int32} {A : Nat → Nat → Nat → Int32} {J : Nat → Nat → Nat → Int64} {Fm : Nat → Int32} {Am : Nat → Nat → Int32} {Jm : Nat → Nat → Int64} (h_ : AT JW JK k p F A J Fm Am Jm) : (Fm 10).toInt = k + 1 := h_.2.2.2.2.2.2.2.1
theorem AT.jw {JW JK : Nat → Int64} {k : Nat} {p : Int} {F : Nat → Nat → Int32} {A : Nat → Nat → Nat → Int32} {J : Nat → Nat → Nat → Int64} {Fm : Nat → Int32} {Am : Nat → Nat → Int32} {Jm : Nat → Nat → Int64} (h_ : AT JW JK k p F A J Fm Am Jm) : J 37 6 = JW := h_.2.2.2.2.2.2.2.2.1
theorem AT.jk {JW JK : Nat → Int64} {k : Nat} {p : Int} {F : Nat → Nat → Int32} {A : Nat → Nat → Nat → Int32} {J : Nat → Nat → Nat → Int64} {Fm : Nat → Int32} {Am : Nat → Nat → Int32} {Jm : Nat → Nat → Int64} (h_ : AT JW JK k p F A J Fm Am Jm) : Jm 7 = JK := h_.2.2.2.2.2.2.2.2.2.1
theorem AT.tr {JW JK : Nat → Int64} {k : Nat} {p : Int} {F : Nat → Nat → Int32} {A : Nat → Nat → Nat → Int32} {J : Nat → Nat → Nat → Int64} {Fm : Nat → Int32} {Am : Nat → Nat → Int32} {Jm : Nat → Nat → Int64} (h_ : AT JW JK k p F A J Fm Am Jm) : ∀ j, j < k → TR j A J Am Jm ∧ LVm Am j := h_.2.2.2.2.2.2.2.2.2.2.1
theorem AT.tk {JW JK : Nat → Int64} {k : Nat} {p : Int} {F : Nat → Nat → Int32} {A : Nat → Nat → Nat → Int32} {J : Nat → Nat → Nat → Int64} {Fm : Nat → Int32} {Am : Nat → Nat → Int32} {Jm : Nat → Nat → Int64} (h_ : AT JW JK k p F A J Fm Am Jm) : TR k A J Am Jm := h_.2.2.2.2.2.2.2.2.2.2.2.1
theorem AT.up {JW JK : Nat → Int64} {k : Nat} {p : Int} {F : Nat → Nat → Int32} {A : Nat → Nat → Nat → Int32} {J : Nat → Nat → Nat → Int64} {Fm : Nat → Int32} {Am : Nat → Nat → Int32} {Jm : Nat → Nat → Int64} (h_ : AT JW JK k p F A J Fm Am Jm) : ∀ j, j < k → (Am 4 j).toInt < (Am 4 (j + 1)).toInt := h_.2.2.2.2.2.2.2.2.2.2.2.2.1
theorem AT.lp {JW JK : Nat → Int64} {k : Nat} {p : Int} {F : Nat → Nat → Int32} {A : Nat → Nat → Nat → Int32} {J : Nat → Nat → Nat → Int64} {Fm : Nat → Int32} {Am : Nat → Nat → Int32} {Jm : Nat → Nat → Int64} (h_ : AT JW JK k p F A J Fm Am Jm) : (Am 4 k).toInt < p ∨ (Am 3 k).toInt = 0 := h_.2.2.2.2.2.2.2.2.2.2.2.2.2
theorem AT.sc (a : AT JW JK k p F A J Fm Am Jm) (h : LVm Am k) : SC JW JK (k + 1) p F A J Fm Am Jm := by
  refine ⟨a.sz, a.s0, a.s1, a.bt, a.ps, a.p0, a.p1, by rw [a.fk]; omega, a.jw, a.jk, fun j hj => ?_, fun j hj => a.up j (by omega), fun j hj => ?_⟩
  · by_cases e : j < k
    · exact a.tr j e
    · have : j = k := by omega
      rw [this]; exact ⟨a.tk, h⟩
  · have : j = k := by omega
    rw [this]
    exact a.lp.resolve_right h.1
/-- class rows: a token more -/
def CTx (k : Nat) (A A' : Nat → Nat → Nat → Int32) : Prop := (∀ r o, ¬ (r = 37 ∧ (o = 2 ∨ o = 3 ∨ o = 4)) → A' r o = A r o) ∧ (∀ o j, j ≠ k → A' 37 o j = A 37 o j)
theorem CTx.of {o : Nat} {v : Int} (U : CUm A A' 37 o k v) (ho : o = 2 ∨ o = 3 ∨ o = 4) : CTx k A A' := by
  refine ⟨fun r q h => U.2.2 r q (fun e => h ⟨e.1, by rw [e.2]; exact ho⟩), fun q j hj => ?_⟩
  by_cases e : q = o
  · rw [e]
    exact i_ext (U.2.1 (j : Int) (by omega) (by omega))
  · rw [U.2.2 37 q (fun h => e h.2)]
theorem CTx.tr {A1 : Nat → Nat → Nat → Int32} (a : CTx k A A1) (b : CTx k A1 A') : CTx k A A' := ⟨fun r o h => (b.1 r o h).trans (a.1 r o h), fun o j h => (b.2 o j h).trans (a.2 o j h)⟩
theorem SC.at_ {p' q : Int} {kd pl vl : Int32} {nm : Int64} {r : mR Unit} (S : SC JW JK k p F A J Fm Am Jm) (hF : F105 F F') (hp : (F' 37 105).toInt = p') (hq0 : p ≤ q) (hpl : pl.toInt = q) (hq : q < p' ∨ kd.toInt = 0) (hp0 : q ≤ p') (hp1 : p' ≤ (Fm 4).toInt) (hA : CTx k A A') (hJ : (∀ r o, ¬ (r = 37 ∧ o = 5) → J' r o = J r o) ∧ (∀ j, j ≠ k → J' 37 5 j = J 37 5 j)) (t1 : KR (A' 37 2 k).toInt kd.toInt) (t2 : kd.toInt = 2 → A' 37 4 k = vl) (t3 : kd.toInt = 1 → TNi (J' 37 5 k).toInt nm.toInt) (hr : d_token Fm Am Jm kd pl vl nm = some r) : ∃ Fm' Am' Jm', r = ((), Fm', Am', Jm') ∧ Am' 3 k = kd ∧ AT JW JK k p' F' A' J' Fm' Am' Jm' := by
  obtain ⟨Fm', Am', Jm', rfl, z0, z1, h10, mF, mA, mJ, m3, m4, m5, m6, old⟩ := g_token hr
  have fk := S.fk
  have ek : (Fm 10).toInt.toNat = k := by omega
  rw [ek] at m3 m4 m5 m6
  have e4 : Fm' 4 = Fm 4 := mF 4 (by decide)
  have e2 : Am' 2 = Am 2 := mA 2 (by decide) (by decide) (by decide)
  have oj : ∀ j, j < k → TR j A' J' Am' Jm' ∧ LVm Am' j := by
    intro j hj
    obtain ⟨a, b⟩ := S.tr j hj
    obtain ⟨o3, o4, o5, o6⟩ := old j (by omega)
    unfold TR LVm
    rw [hA.2 2 j (by omega), hA.2 4 j (by omega), hJ.2 j (by omega), o3, o5, o6]
    exact ⟨a, b⟩
  refine ⟨Fm', Am', Jm', rfl, m3, ⟨?_, ?_, ?_, ?_, hp, ?_, ?_, ?_, ?_, ?_, oj, ?_, ?_, ?_⟩⟩
  · rw [hF 1 1 (by decide), e4]; exact S.sz
  · rw [e4]; exact S.s0
  · rw [e4]; exact S.s1
  · intro i hi
    rw [e4] at hi
    rw [hA.1 1 1 (by decide), e2]
    exact S.bt i hi
  · have := S.p0; omega
  · rw [e4]; exact hp1
  · rw [h10, fk]
  · rw [hJ.1 37 6 (by decide)]; exact S.jw
  · rw [mJ 7 (by decide)]; exact S.jk
  · refine ⟨by rw [m3]; exact t1, fun h => ?_, fun h => ?_⟩
    · rw [m3] at h; rw [m5]; exact t2 h
    · rw [m3] at h; rw [m6]; exact t3 h
  · intro j hj
    by_cases e : j + 1 < k
    · rw [(old j (by omega)).2.1, (old (j + 1) (by omega)).2.1]
      exact S.up j e
    · have e' : j + 1 = k := by omega
      rw [(old j (by omega)).2.1, e', m4, hpl]
      have := S.lp j e'
      omega
  · rw [m4, m3, hpl]
    exact hq
end C3
end Qz119
section Qz120
section C4
variable {JW JK : Nat → Int64} {k : Nat} {p : Int} {P : Nat → Nat → Nat} {F F' F0 : Nat → Nat → Int32} {A A' : Nat → Nat → Nat → Int32} {J J' : Nat → Nat → Nat → Int64} {Fm Fm' : Nat → Int32} {Am Am' : Nat → Nat → Int32} {Jm Jm' : Nat → Nat → Int64} {xk x1 : Int32} {γ : Type} {Q : γ → mR Unit → Prop}
/-! signs -/
def sgl : List (Int × Int) := [(59, 4), (61, 5), (43, 8), (45, 9), (42, 10), (47, 15), (60, 13), (40, 6), (41, 7)]
theorem ne_dec (x y : Int32) : g_cnd .ne x y = decide (x.toInt ≠ y.toInt) := by
  by_cases h : x.toInt = y.toInt
  · rw [i_nne.mpr h, decide_eq_false (fun e => e h)]
  · rw [i_ne.mpr h, decide_eq_true h]
theorem tx1 : ∀ j : Fin 9, ((c_tx 1 j.val).toInt, (sgl.getD j.val (0, 0)).2) = sgl.getD j.val (0, 0) := by decide
theorem idx7 {c : Int32} : ∀ {n : Nat} {x5 : Int32}, 0 ≤ x5.toInt → (∀ j : Nat, (j : Int) < x5.toInt → c_tx 1 j ≠ c) → po (e_StringLatin1_indexOfChar_7 n P F A J 9 c x5) (fun v => (0 ≤ v.toInt ∧ ∃ j : Nat, j < 9 ∧ c_tx 1 j = c) ∨ (v.toInt < 0 ∧ ∀ j : Nat, j < 9 → c_tx 1 j ≠ c)) := by
  have l9 : (9 : Int32).toInt = 9 := by decide
  have l1 := i_1
  intro n
  induction n with
  | zero => intro x5 _ _ r hr; cases hr
  | succ n ih =>
    intro x5 h0 hb
    unfold e_StringLatin1_indexOfChar_7
    refine po_cond (fun h => ?_) (fun h => ?_)
    · rw [i_ge, l9] at h
      exact po_some (.inr ⟨by decide, fun j hj => hb j (by omega)⟩)
    · rw [i_nge, l9] at h
      rw [m_ld_in h0 (by omega), Option.bind_some]
      have e1 := i_add (x := x5) (y := 1) (by omega) (by omega)
      refine po_cond (fun h2 => ?_) (fun h2 => ?_)
      · rw [i_ne] at h2
        exact ih (by omega) (fun j hj => by
          by_cases hlt : (j : Int) < x5.toInt
          · exact hb j hlt
          · have : j = x5.toInt.toNat := by omega
            rw [this]; exact fun e => h2 (by rw [e]))
      · rw [i_nne] at h2
        exact po_some (.inl ⟨h0, x5.toInt.toNat, by omega, i_ext h2⟩)
theorem b_chr {b : Int32} (h0 : 0 < b.toInt) (h1 : b.toInt ≤ 127) : (b.toUInt32 % 65536).toInt32 = b ∧ b.toInt8.toInt32 = b := by
  have z : ∀ k : Fin 128, ((Int32.ofInt (k.val : Int)).toUInt32 % 65536).toInt32 = Int32.ofInt (k.val : Int) ∧ (Int32.ofInt (k.val : Int)).toInt8.toInt32 = Int32.ofInt (k.val : Int) := by decide +kernel
  have e : b = Int32.ofInt ((b.toInt.toNat : Nat) : Int) := by
    have : ((b.toInt.toNat : Nat) : Int) = b.toInt := by omega
    rw [this, Int32.ofInt_toInt]
  have := z ⟨b.toInt.toNat, by omega⟩
  rw [← e] at this
  exact this
/-- what the signs' text says of a byte -/
theorem idx_s {n : Nat} {b : Int32} (h0 : 0 < b.toInt) (h1 : b.toInt ≤ 127) : po (e_String_indexOf n P F A J ((b.toUInt32 % 65536).toInt32)) (fun v => (0 ≤ v.toInt ∧ ∃ q, (b.toInt, q) ∈ sgl) ∨ (v.toInt < 0 ∧ ∀ q, (b.toInt, q) ∉ sgl)) := by
  obtain ⟨e1, e2⟩ := b_chr h0 h1
  rw [e1]
  have yes : ∀ j : Nat, j < 9 → c_tx 1 j = b → ∃ q, (b.toInt, q) ∈ sgl := by
    intro j hj e
    have t := tx1 ⟨j, hj⟩
    refine ⟨(sgl.getD j (0, 0)).2, ?_⟩
    rw [← e, t]
    exact (by decide : ∀ j : Fin 9, sgl.getD j.val (0, 0) ∈ sgl) ⟨j, hj⟩
  have no : (∀ j : Nat, j < 9 → c_tx 1 j ≠ b) → ∀ q, (b.toInt, q) ∉ sgl := by
    intro h q hq
    have z : ∀ x ∈ sgl, ∃ j : Fin 9, (c_tx 1 j.val).toInt = x.1 := by decide
    obtain ⟨j, hj⟩ := z _ hq
    exact h j.val j.isLt (i_ext hj)
  unfold e_String_indexOf e_String_indexOf_v1 e_String_length e_StringLatin1_indexOf e_StringLatin1_canEncode e_StringLatin1_indexOfChar
  have l0 := i_0
  have l255 : (255 : Int32).toInt = 255 := by decide
  rw [Option.bind_some, i_nlt.mpr (by omega), cond_false, i_ngt.mpr (by omega), cond_false, Option.bind_some, i_ne.mpr (by decide), cond_true, e2]
  have t1 : (if (0 : Int32) < 0 then (0 : Int32) else 0) = 0 := by decide
  have t2 : (if (9 : Int32) < (9 : Int32) >>> ((0 : Int32) &&& 31) then (9 : Int32) else (9 : Int32) >>> ((0 : Int32) &&& 31)) = 9 := by decide
  rw [t1, t2, i_lt.mpr (by decide), cond_true]
  refine po_call (R := fun v => (0 ≤ v.toInt ∧ ∃ q, (b.toInt, q) ∈ sgl) ∨ (v.toInt < 0 ∧ ∀ q, (b.toInt, q) ∉ sgl)) ?_ (fun v hv => po_some hv)
  refine po_call (R := fun v => (0 ≤ v.toInt ∧ ∃ q, (b.toInt, q) ∈ sgl) ∨ (v.toInt < 0 ∧ ∀ q, (b.toInt, q) ∉ sgl)) ?_ (fun v hv => po_some hv)
  refine po_call (R := fun v => (0 ≤ v.toInt ∧ ∃ q, (b.toInt, q) ∈ sgl) ∨ (v.toInt < 0 ∧ ∀ q, (b.toInt, q) ∉ sgl)) ?_ (fun v hv => po_some hv)
  refine po_mono (idx7 (by decide) (fun j hj => by rw [i_0] at hj; omega)) (fun v hv => ?_)
  rcases hv with ⟨v0, j, hj, e⟩ | ⟨v0, h⟩
  · exact .inl ⟨v0, yes j hj e⟩
  · exact .inr ⟨v0, no h⟩
theorem sign_1 {v w : Int32} {q : Int} (h : (v.toInt, q) ∈ sgl) : ∃ kd : Int32, kd.toInt = q ∧ d_sign Fm Am Jm x1 v w = d_sign_95 Fm Am Jm x1 kd := by
  have e59 : (59 : Int32).toInt = 59 := by decide
  have e61 : (61 : Int32).toInt = 61 := by decide
  have e43 : (43 : Int32).toInt = 43 := by decide
  have e45 : (45 : Int32).toInt = 45 := by decide
  have e42 : (42 : Int32).toInt = 42 := by decide
  have e47 : (47 : Int32).toInt = 47 := by decide
  have e60 : (60 : Int32).toInt = 60 := by decide
  have e40 : (40 : Int32).toInt = 40 := by decide
  have e41 : (41 : Int32).toInt = 41 := by decide
  unfold d_sign d_sign_43 d_sign_55 d_sign_65 d_sign_75 d_sign_85
  simp only [ne_dec, e59, e61, e43, e45, e42, e47, e60, e40, e41]
  generalize v.toInt = b at h
  simp only [sgl, List.mem_cons, List.not_mem_nil, or_false, Prod.mk.injEq] at h
  rcases h with h | h | h | h | h | h | h | h | h <;> obtain ⟨rfl, rfl⟩ := h <;> exact ⟨_, by decide, rfl⟩
theorem sign_0 {v w : Int32} (h : ∀ q, (v.toInt, q) ∉ sgl) : d_sign Fm Am Jm x1 v w = d_sign_95 Fm Am Jm x1 3 := by
  have e59 : (59 : Int32).toInt = 59 := by decide
  have e61 : (61 : Int32).toInt = 61 := by decide
  have e43 : (43 : Int32).toInt = 43 := by decide
  have e45 : (45 : Int32).toInt = 45 := by decide
  have e42 : (42 : Int32).toInt = 42 := by decide
  have e47 : (47 : Int32).toInt = 47 := by decide
  have e60 : (60 : Int32).toInt = 60 := by decide
  have e40 : (40 : Int32).toInt = 40 := by decide
  have e41 : (41 : Int32).toInt = 41 := by decide
  have n1 : v.toInt ≠ 59 := fun e => h 4 (by rw [e]; decide)
  have n2 : v.toInt ≠ 61 := fun e => h 5 (by rw [e]; decide)
  have n3 : v.toInt ≠ 43 := fun e => h 8 (by rw [e]; decide)
  have n4 : v.toInt ≠ 45 := fun e => h 9 (by rw [e]; decide)
  have n5 : v.toInt ≠ 42 := fun e => h 10 (by rw [e]; decide)
  have n6 : v.toInt ≠ 47 := fun e => h 15 (by rw [e]; decide)
  have n7 : v.toInt ≠ 60 := fun e => h 13 (by rw [e]; decide)
  have n8 : v.toInt ≠ 40 := fun e => h 6 (by rw [e]; decide)
  have n9 : v.toInt ≠ 41 := fun e => h 7 (by rw [e]; decide)
  unfold d_sign d_sign_43 d_sign_55 d_sign_65 d_sign_75 d_sign_85
  simp only [ne_dec, e59, e61, e43, e45, e42, e47, e60, e40, e41, decide_eq_true n1, decide_eq_true n2, decide_eq_true n3, decide_eq_true n4, decide_eq_true n5, decide_eq_true n6, decide_eq_true n7, decide_eq_true n8, decide_eq_true n9, cond_true]
theorem SC.mv {p' : Int} (S : SC JW JK k p F A J Fm Am Jm) (hF : F105 F F') (hp : (F' 37 105).toInt = p') (h : p ≤ p') (h1 : p' ≤ (Fm 4).toInt) : SC JW JK k p' F' A J Fm Am Jm :=
  ⟨(hF 1 1 (by decide)).trans S.sz, S.s0, S.s1, S.bt, hp, by have := S.p0; omega, h1, S.fk, S.jw, S.jk, S.tr, S.up, fun j hj => by have := S.lp j hj; omega⟩
def blk (b : Int) : Prop := b = 9 ∨ b = 10 ∨ b = 13 ∨ b = 32
/-- blanks, on both sides -/
theorem p2_blank {f : cR Unit → Option γ} (hk : k ≤ 400)
    (kend : ∀ (n' m' : Nat) (F' : Nat → Nat → Int32) (p' : Int) (x1' : Int32), SC JW JK k p' F' A J Fm Am Jm → x1'.toInt = p' → (p' = (Fm 4).toInt ∨ ¬ blk (Am 2 p'.toNat).toInt) → P2 ((e_Scanner_scanNext_39 n' P F' A J xk).bind f) (d_cut_7 (m' + 1) Fm Am Jm x1') Q) :
    ∀ {n m : Nat} {F : Nat → Nat → Int32} {p : Int} {x1 : Int32}, SC JW JK k p F A J Fm Am Jm → x1.toInt = p → P2 ((e_Scanner_scanNext_0 n P F A J xk).bind f) (d_cut_7 m Fm Am Jm x1) Q := by
  have l1 := i_1
  have l400 := i_400
  obtain ⟨-, -, -, -, e9, e10, e13, e32⟩ := i_48
  intro n
  induction n with
  | zero => intro m F p x1 _ _ a b ha _; cases ha
  | succ n ih =>
    intro m F p x1 S hx
    cases m with
    | zero => intro a b _ hb; cases hb
    | succ m =>
      have p0 := S.p0
      have p1 := S.p1
      have s1 := S.s1
      have ps := S.ps
      have fk := S.fk
      unfold e_Scanner_scanNext_0
      by_cases c : p < (Fm 4).toInt
      · obtain ⟨b1, b2, b3⟩ := S.bt p.toNat (by omega)
        have bb := b255 b2 b3
        have ib : (F 37 105).toInt.toNat = p.toNat := by omega
        have ip : x1.toInt.toNat = p.toNat := by omega
        rw [i_nge.mpr (by rw [S.sz]; omega), cond_false, m_ld_in (by omega) (by omega), Option.bind_some, ib, b1]
        by_cases bl : blk (Am 2 p.toNat).toInt
        · rw [cl_b1 bl, Option.bind_some, cz_10, cond_false, Option.bind_assoc]
          refine p2_bl (fun F5 e5 => ?_)
          have U5 := gg_cpf e5
          have h5 : (F5 37 105).toInt = p + 1 := by rw [U5.1, i_add (by omega) (by omega), i_1, ps]
          have S5 := S.mv (F' := F5) (p' := p + 1) (fun r q h => U5.2 r q h) h5 (by omega) (by omega)
          have ex := i_add (x := x1) (y := 1) (by omega) (by omega)
          have go : P2 ((e_Scanner_scanNext_0 n P F5 A J xk).bind f) (d_cut_67 (d_cut_7 m) m Fm Am Jm x1) Q := by
            unfold d_cut_67 d_cut_291
            exact ih S5 (by omega)
          unfold d_cut_7
          rw [i_ngt.mpr (by rw [l400]; omega), cond_false, byte_in (by omega) (by omega) s1, Option.bind_some, i_lt.mpr (by omega), cond_true, ip]
          unfold blk at bl
          refine p2_cr (fun _ => go) (fun c9 => p2_cr (fun _ => go) (fun c10 => p2_cr (fun _ => go) (fun c13 => p2_cr (fun c32 => ?_) (fun _ => go))))
          rw [i_neq, e9] at c9
          rw [i_neq, e10] at c10
          rw [i_neq, e13] at c13
          rw [i_ne, e32] at c32
          omega
        · rw [cl_b0 bl, Option.bind_some, cz_00, cond_true]
          exact kend n m F p x1 S hx (.inr bl)
      · rw [i_ge.mpr (by rw [S.sz]; omega), cond_true]
        exact kend n m F p x1 S hx (.inl (by omega))
theorem kr_sgl : ∀ x ∈ sgl, KR x.1 x.2 := by decide
/-- one token, on both sides -/
theorem p2_tok {f : cR Unit → Option γ} {n m : Nat} (hW : WKx JW JK) (hk : k ≤ 400) (hxk : xk.toInt = k) (S : SC JW JK k p F A J Fm Am Jm) (hx : x1.toInt = p) (hb : p = (Fm 4).toInt ∨ ¬ blk (Am 2 p.toNat).toInt)
    (ka : ∀ F' A' J' Fm' Am' Jm' (p' : Int) (x1' : Int32) (m' : Nat), AT JW JK k p' F' A' J' Fm' Am' Jm' → x1'.toInt = p' → P2 (f ((), P, F', A', J')) (d_cut_7 m' Fm' Am' Jm' x1') Q)
    (ke : ∀ F' A' J' Fm' Am' Jm' (p' : Int), AT JW JK k p' F' A' J' Fm' Am' Jm' → (Am' 3 k).toInt = 0 → P2 (f ((), P, F', A', J')) (some ((), Fm', Am', Jm')) Q) : P2 ((e_Scanner_scanNext_39 n P F A J xk).bind f) (d_cut_7 (m + 1) Fm Am Jm x1) Q := by
  have l1 := i_1
  have l0 := i_0
  have l400 := i_400
  have l7 : (7 : Int32).toInt = 7 := by decide
  have l8 : (8 : Int32).toInt = 8 := by decide
  have l4 : (4 : Int32).toInt = 4 := by decide
  have l3 : (3 : Int32).toInt = 3 := by decide
  have l2 : (2 : Int32).toInt = 2 := by decide
  have l100 : (100 : Int32).toInt = 100 := by decide
  have l101 : (101 : Int32).toInt = 101 := by decide
  have l102 : (102 : Int32).toInt = 102 := by decide
  have l103 : (103 : Int32).toInt = 103 := by decide
  obtain ⟨-, -, -, -, e9, e10, e13, e32⟩ := i_48
  have p0 := S.p0
  have p1 := S.p1
  have s1 := S.s1
  have ps := S.ps
  have fk := S.fk
  have ip : x1.toInt.toNat = p.toNat := by omega
  have ik : xk.toInt.toNat = k := by omega
  have keepJ : (∀ r o, ¬ (r = 37 ∧ o = 5) → J r o = J r o) ∧ (∀ j, j ≠ k → J 37 5 j = J 37 5 j) := ⟨fun _ _ _ => rfl, fun _ _ => rfl⟩
  unfold e_Scanner_scanNext_39
  rw [Option.bind_assoc]
  refine p2_bl (fun A6 e6 => ?_)
  have U6 := (gg_cst e6).2.2
  rw [hxk, ps] at U6
  have C6 : CTx k A A6 := CTx.of U6 (.inr (.inl rfl))
  have bt6 : A6 1 1 = A 1 1 := C6.1 1 1 (by decide)
  have pl6 : (A6 37 3 k).toInt = p := U6.1
  unfold d_cut_7
  rw [i_ngt.mpr (by rw [l400]; omega), cond_false]
  by_cases c : p < (Fm 4).toInt
  · have hb := hb.resolve_left (by omega)
    unfold blk at hb
    obtain ⟨b1, b2, b3⟩ := S.bt p.toNat (by omega)
    have bb := b255 b2 b3
    have ib : (F 37 105).toInt.toNat = p.toNat := by omega
    rw [i_lt.mpr (by rw [S.sz]; omega), cond_true, bt6, m_ld_in (by omega) (by omega), Option.bind_some, ib, b1, byte_in (by omega) (by omega) s1, Option.bind_some, i_lt.mpr (by omega), cond_true, ip, i_neq.mpr (by omega), cond_false, i_neq.mpr (by omega), cond_false, i_neq.mpr (by omega), cond_false, i_ne.mpr (by omega), cond_true]
    by_cases hl : 97 ≤ (Am 2 p.toNat).toInt ∧ (Am 2 p.toNat).toInt ≤ 122
    · rw [cl_l1 hl, Option.bind_some, cz_10, cond_false, dl_l1 (by omega), Option.bind_some, cz_10, cond_false, Option.bind_assoc]
      unfold e_Scanner_scanLetters
      refine p2_let (p := p) (F0 := F) S.sz s1 (fun i hi => by rw [bt6]; exact S.bt i hi) hx p0 (fun n' m' F' x3 x4 nn fr n0 hp hs hend tn => ?_) (fun _ _ _ => rfl) (by decide) (by rw [ps, i_0]; omega) (by rw [i_0]; omega) (fun _ => by rw [i_0]; exact TNl.nil)
      have n1 : 1 ≤ nn.toInt := by
        rcases hend with h | h
        · omega
        · by_cases z : nn.toInt = 0
          · rw [z] at h
            exact absurd (by simpa using hl) h
          · omega
      unfold e_Scanner_scanLetters_57
      rw [Option.bind_assoc, m_ld_in (by omega) (by omega), Option.bind_some, ik]
      have dd : ((F' 37 105) - A6 37 3 k).toInt = nn.toInt := by rw [i_sub (by omega) (by omega)]; omega
      have xn := i_add (x := x1) (y := nn) (by omega) (by omega)
      -- both have put it down
      have fin : ∀ {r : cR Unit} {n'' m'' : Nat} {fd kd : Int32}, e_Scanner_scanLetters_121 n'' P F' A6 J xk x3 fd = some r → KR fd.toInt kd.toInt → kd.toInt ≠ 2 → kd.toInt ≠ 0 → (kd.toInt = 1 → TNi x3.toInt x4.toInt) → P2 ((some r).bind fun (_, P22, F23, A24, J25) => (some ((), P22, F23, A24, J25)).bind f) (d_cut_179 (d_cut_7 m) m'' Fm Am Jm x1 nn x4 kd) Q := by
        intro r n'' m'' fd kd hr kr k2 k0 k1
        obtain ⟨A7, J7, rfl, V7, j1, j2, j3⟩ := c121 hr
        rw [hxk] at V7 j2
        rw [ik] at j1
        unfold d_cut_179 d_cut_291
        refine p2_br (fun t ht => ?_)
        have C7 : CTx k A A7 := C6.tr (CTx.of V7 (.inl rfl))
        obtain ⟨Fm8, Am8, Jm8, rfl, -, a⟩ := S.at_ (F' := F') (p' := p + nn.toInt) (q := p) (A' := A7) (J' := J7) fr hp (Int.le_refl _) hx (.inl (by omega)) (by omega) hs C7 ⟨j3, fun j hj => j2 j (by omega) (by omega)⟩ (by rw [show (A7 37 2 k).toInt = fd.toInt from V7.1]; exact kr) (fun h => absurd h k2) (fun h => by rw [j1]; exact k1 h) ht
        exact ka F' A7 J7 Fm8 Am8 Jm8 (p + nn.toInt) (x1 + nn) m a (by omega)
      unfold d_cut_135 e_Scanner_scanLetters_80
      by_cases h8 : nn.toInt ≤ 8
      · have t := tn h8
        rw [i_le.mpr (by rw [dd, l8]; exact h8), cond_true, i_le.mpr (by rw [l8]; exact h8), cond_true]
        refine p2_l (c85 (by decide) (fun i hi => by rw [i_0] at hi; omega)) ?_
        rintro r ⟨n'', fd, hfd, hr⟩
        rw [S.jw] at hfd
        by_cases h7 : nn.toInt ≤ 7
        · rw [i_ngt.mpr (by rw [l7]; exact h7), cond_false]
          refine r146 (fun m'' kd hkd => ?_) (by decide) (.inl ⟨by decide, fun i hi => by rw [i_0] at hi; omega⟩)
          rw [S.jk] at hkd
          rcases hfd with ⟨rfl, nof⟩ | ⟨i, i1, i2, i3⟩
          · have kd1 : kd.toInt = 1 := by
              rcases hkd with ⟨h, -⟩ | ⟨j, j1, j2, -⟩
              · exact h
              · obtain ⟨i, i1, -, t2⟩ := hW.k j j1
                have := (t2.iff t.1).mpr (by rw [j2])
                exact absurd (Int64.toInt_inj.mp this) (nof i i1)
            exact fin hr (by rw [kd1, l100]; decide) (by omega) (by omega) (fun _ => t.1)
          · obtain ⟨j0, a1, a2, a3⟩ := hW.w i i1
            have y0 : JK j0 = x4 := Int64.toInt_inj.mp ((a3.iff t.1).mp (by rw [i3]))
            rcases hkd with ⟨-, h⟩ | ⟨j, j1, j2, j3⟩
            · exact absurd y0 (h j0 a1)
            · have : j0 = j := hW.u j0 j a1 j1 (by rw [y0, j2])
              subst this
              exact fin hr (by rw [i2, j3]; exact a2) (by omega) (by omega) (fun h => by omega)
        · rw [i_gt.mpr (by rw [l7]; omega), cond_true]
          rcases hfd with ⟨rfl, nof⟩ | ⟨i, i1, i2, i3⟩
          · exact fin hr (by decide) (by decide) (by decide) (fun _ => t.1)
          · have lo := t.2.2.2
            have e8 : nn.toInt.toNat = 8 := by omega
            rw [e8] at lo
            have lo := lo.resolve_left (by decide)
            have b7 : (256 : Int) ^ (8 - 1) = 72057594037927936 := by decide
            rw [b7] at lo
            have := hW.s i i1
            rw [i3] at this
            omega
      · rw [i_nle.mpr (by rw [dd, l8]; omega), cond_false, i_nle.mpr (by rw [l8]; omega), cond_false]
        refine p2_l (c85_ne (by decide)) ?_
        rintro r ⟨n'', hr⟩
        rw [i_gt.mpr (by rw [l7]; omega), cond_true]
        exact fin hr (by decide) (by decide) (by decide) (fun h => absurd h (by decide))
    · rw [cl_l0 hl, Option.bind_some, cz_00, cond_true, dl_l0 (by omega), Option.bind_some, cz_00, cond_true]
      by_cases hd : 48 ≤ (Am 2 p.toNat).toInt ∧ (Am 2 p.toNat).toInt ≤ 57
      · rw [cl_d1 hd, Option.bind_some, cz_10, cond_false, dl_d1 (by omega), Option.bind_some, cz_10, cond_false, Option.bind_assoc]
        unfold e_Scanner_scanDigits
        refine p2_dig (p := p) (F0 := F) S.sz s1 (fun i hi => by rw [bt6]; exact S.bt i hi) hx p0 (fun n' m' F' x3 x4 nn fr n0 hp hs hend tn => ?_) (fun _ _ _ => rfl) (by decide) (by rw [ps, i_0]; omega) (by rw [i_0]; omega) (fun _ => rfl)
        have n1 : 1 ≤ nn.toInt := by
          rcases hend with h | h
          · omega
          · by_cases z : nn.toInt = 0
            · rw [z] at h
              exact absurd (by simpa using hd) h
            · omega
        unfold e_Scanner_scanDigits_59
        rw [Option.bind_assoc]
        refine p2_bl (fun A7 e7 => ?_)
        have U7 := (gg_cst e7).2.2
        have v7 : A7 37 4 k = x3 := by
          have := U7.1
          rw [hxk] at this
          exact i_ext this
        rw [hxk] at U7
        have C7 : CTx k A A7 := C6.tr (CTx.of U7 (.inr (.inr rfl)))
        have pl7 : A7 37 3 = A6 37 3 := U7.2.2 37 3 (by decide)
        rw [Option.bind_assoc, m_ld_in (by omega) (by omega), Option.bind_some, ik, pl7]
        have dd : ((F' 37 105) - A6 37 3 k).toInt = nn.toInt := by rw [i_sub (by omega) (by omega)]; omega
        have xn := i_add (x := x1) (y := nn) (by omega) (by omega)
        have fin : ∀ {n'' m'' : Nat} {fd kd : Int32}, KR fd.toInt kd.toInt → kd.toInt ≠ 1 → kd.toInt ≠ 0 → (kd.toInt = 2 → x3 = x4) → P2 ((e_Scanner_scanDigits_93 n'' P F' A7 J xk fd).bind fun (_, P22, F23, A24, J25) => (some ((), P22, F23, A24, J25)).bind f) (d_cut_261 (d_cut_7 m) m'' Fm Am Jm x1 nn x4 kd) Q := by
          intro n'' m'' fd kd kr k1 k0 k2
          unfold e_Scanner_scanDigits_93 d_cut_261 d_cut_291
          rw [Option.bind_assoc]
          refine p2_bl (fun A8 e8 => ?_)
          have U8 := (gg_cst e8).2.2
          rw [hxk] at U8
          have C8 : CTx k A A8 := C7.tr (CTx.of U8 (.inl rfl))
          refine p2_br (fun t ht => ?_)
          obtain ⟨Fm8, Am8, Jm8, rfl, -, a⟩ := S.at_ (F' := F') (p' := p + nn.toInt) (q := p) (A' := A8) (J' := J) fr hp (Int.le_refl _) hx (.inl (by omega)) (by omega) hs C8 keepJ (by rw [show (A8 37 2 k).toInt = fd.toInt from U8.1]; exact kr) (fun h => by rw [U8.2.2 37 4 (by decide), v7]; exact k2 h) (fun h => absurd h k1) ht
          exact ka F' A8 J Fm8 Am8 Jm8 (p + nn.toInt) (x1 + nn) m a (by omega)
        by_cases h4 : nn.toInt ≤ 4
        · rw [i_le.mpr (by rw [dd, l4]; exact h4), cond_true, i_le.mpr (by rw [l4]; exact h4), cond_true]
          exact fin (by decide) (by decide) (by decide) (fun _ => tn h4)
        · rw [i_nle.mpr (by rw [dd, l4]; omega), cond_false, i_nle.mpr (by rw [l4]; omega), cond_false]
          exact fin (by decide) (by decide) (by decide) (fun h => absurd h (by decide))
      · rw [cl_d0 hd, Option.bind_some, cz_00, cond_true, dl_d0 (by omega), Option.bind_some, cz_00, cond_true]
        refine p2_br (fun w _ => ?_)
        have xn := i_add (x := x1) (y := 1) (by omega) (by omega)
        have fin : ∀ {n'' : Nat} {fd kd : Int32}, KR fd.toInt kd.toInt → kd.toInt ≠ 1 → kd.toInt ≠ 2 → kd.toInt ≠ 0 → P2 ((e_Scanner_scanNext_136 n'' P F A6 J xk fd).bind f) ((d_sign_95 Fm Am Jm x1 kd).bind fun (v14, F15, A16, J17) => d_cut_291 (d_cut_7 m) m F15 A16 J17 (x1 + v14)) Q := by
          intro n'' fd kd kr k1 k2 k0
          unfold e_Scanner_scanNext_136 d_sign_95 d_cut_291
          rw [Option.bind_assoc, Option.bind_assoc]
          refine p2_bl (fun A8 e8 => ?_)
          have U8 := (gg_cst e8).2.2
          rw [hxk] at U8
          have C8 : CTx k A A8 := C6.tr (CTx.of U8 (.inl rfl))
          rw [Option.bind_assoc]
          refine p2_bl (fun F9 e9 => ?_)
          have U9 := gg_cpf e9
          have h9 : (F9 37 105).toInt = p + 1 := by rw [U9.1, i_add (by omega) (by omega), i_1, ps]
          refine p2_br (fun t ht => ?_)
          obtain ⟨Fm8, Am8, Jm8, rfl, -, a⟩ := S.at_ (F' := F9) (p' := p + 1) (q := p) (A' := A8) (J' := J) (fun r q h => U9.2 r q h) h9 (Int.le_refl _) hx (.inl (by omega)) (by omega) (by omega) C8 keepJ (by rw [show (A8 37 2 k).toInt = fd.toInt from U8.1]; exact kr) (fun h => absurd h k2) (fun h => absurd h k1) ht
          rw [Option.bind_some, Option.bind_some]
          exact ka F9 A8 J Fm8 Am8 Jm8 (p + 1) (x1 + 1) m a (by omega)
        by_cases hz : (Am 2 p.toNat).toInt ≤ 0
        · rw [i_le.mpr (by rw [l0]; exact hz), cond_true]
          unfold e_Scanner_scanNext_134
          rw [sign_0 (fun q hq => by
            have z : ∀ x ∈ sgl, 0 < x.1 ∧ x.1 < 128 := by decide
            have := z _ hq
            simp only at this
            omega)]
          exact fin (by decide) (by decide) (by decide) (by decide)
        · rw [i_nle.mpr (by rw [l0]; omega), cond_false, Option.bind_assoc]
          have ev : (Am 2 p.toNat &&& 255) = Am 2 p.toNat := i_ext (by omega)
          rw [ev]
          refine p2_l (idx_s (by omega) b3) (fun v hv => ?_)
          rcases hv with ⟨v0, q, hq⟩ | ⟨v0, hq⟩
          · rw [i_nlt.mpr (by rw [l0]; exact v0), cond_false]
            obtain ⟨kd, kq, ek⟩ := sign_1 (Fm := Fm) (Am := Am) (Jm := Jm) (x1 := x1) (w := w) hq
            rw [ek]
            have kk : ∀ x ∈ sgl, x.2 ≠ 1 ∧ x.2 ≠ 2 ∧ x.2 ≠ 0 := by decide
            have kk := kk _ hq
            simp only at kk
            exact fin (by rw [kq]; exact kr_sgl _ hq) (by rw [kq]; exact kk.1) (by rw [kq]; exact kk.2.1) (by rw [kq]; exact kk.2.2)
          · rw [i_lt.mpr (by rw [l0]; exact v0), cond_true]
            unfold e_Scanner_scanNext_134
            rw [sign_0 hq]
            exact fin (by decide) (by decide) (by decide) (by decide)
  · rw [i_nlt.mpr (by rw [S.sz]; omega), cond_false, byte_out (by omega), Option.bind_some, i_nlt.mpr (by omega), cond_false, Option.bind_assoc]
    refine p2_bl (fun A8 e8 => ?_)
    have U8 := (gg_cst e8).2.2
    rw [hxk] at U8
    have C8 : CTx k A A8 := C6.tr (CTx.of U8 (.inl rfl))
    refine p2_br (fun t ht => ?_)
    obtain ⟨Fm8, Am8, Jm8, rfl, k3, a⟩ := S.at_ (F' := F) (p' := p) (q := p) (A' := A8) (J' := J) (fun _ _ _ => rfl) ps (Int.le_refl _) (by omega) (.inr (by decide)) (by omega) p1 C8 keepJ (by rw [show (A8 37 2 k).toInt = (102 : Int32).toInt from U8.1]; decide) (fun h => absurd h (by decide)) (fun h => absurd h (by decide)) ht
    rw [Option.bind_some]
    exact ke F A8 J Fm8 Am8 Jm8 p a (by rw [k3]; decide)
end C4
end Qz120
section Qz121
/-! rows of words stay as they are -/
section C5c
variable {n m q d : Nat} {w : Nat → Int64} {P : Nat → Nat → Nat} {F : Nat → Nat → Int32} {A : Nat → Nat → Nat → Int32} {J : Nat → Nat → Nat → Int64} {x1 x2 x3 x4 x5 x6 x7 x8 : Int32}
def JP (w : Nat → Int64) {α : Type} (r : cR α) : Prop := r.2.2.2.2 37 6 = w
theorem jc_fail (h : J 37 6 = w) : po (e_Reader_fail P F A J x1 x2) (JP w) := by
  unfold e_Reader_fail e_Reader_fail_15
  ((try dsimp only); repeat' (first | exact po_some (by assumption) | refine po_cond (fun _ => ?_) (fun _ => ?_) | refine po_bl (fun _ _ => ?_)))
theorem jc_take (h : J 37 6 = w) : po (e_Reader_take P F A J x1) (JP w) := by
  unfold e_Reader_take
  ((try dsimp only); repeat' (first | exact po_some (by assumption) | (refine po_call (jc_fail (by assumption)) ?_; rintro ⟨_, _, _, _, _⟩ _; dsimp only) | exact jc_fail (by assumption) | refine po_cond (fun _ => ?_) (fun _ => ?_) | refine po_bl (fun _ _ => ?_)))
theorem jc_first (h : J 37 6 = w) : po (e_Reader_takeFirst P F A J x1 x2 x3) (JP w) := by
  unfold e_Reader_takeFirst e_Reader_takeFirst_22
  ((try dsimp only); repeat' (first | exact po_some (by assumption) | (refine po_call (jc_take (by assumption)) ?_; rintro ⟨_, _, _, _, _⟩ _; dsimp only) | exact jc_take (by assumption) | (refine po_call (jc_fail (by assumption)) ?_; rintro ⟨_, _, _, _, _⟩ _; dsimp only) | exact jc_fail (by assumption) | refine po_cond (fun _ => ?_) (fun _ => ?_) | refine po_bl (fun _ _ => ?_)))
theorem jc_late (h : J 37 6 = w) : po (e_Reader_failLate P F A J x1) (JP w) := by
  unfold e_Reader_failLate
  ((try dsimp only); repeat' (first | exact po_some (by assumption) | refine po_cond (fun _ => ?_) (fun _ => ?_) | refine po_bl (fun _ _ => ?_)))
theorem jc_gnew (h : J 37 6 = w) : po (gnew q n P F A J x2) (JP w) := by
  unfold gnew
  refine po_call (jc_take h) ?_
  rintro ⟨v1, P2, F3, A4, J5⟩ h1
  dsimp only
  have h1 : J5 37 6 = w := h1
  have z0 : ∀ {P1 F1 A1 J1 y1 y2}, J1 37 6 = w → po (gnew0 q P1 F1 A1 J1 y1 y2) (JP w) := by
    intro P1 F1 A1 J1 y1 y2 hJ r hr
    obtain ⟨J', rfl, ju⟩ := g_new0 hr
    show J' 37 6 = w
    rw [ju.2.2 37 6 (by omega)]
    exact hJ
  have z1 : ∀ {y1 y2}, po (gnew1 q P2 F3 A4 J5 y1 y2) (JP w) := by
    intro y1 y2
    unfold gnew1
    refine po_call (jc_late h1) ?_
    rintro ⟨u, P3, F4, A5, J6⟩ h2
    exact z0 h2
  refine po_cond (fun _ => po_some h1) (fun _ => po_cond (fun _ => ?_) (fun _ => po_some h1))
  refine po_bl (fun _ _ => po_bl (fun _ _ => po_bl (fun _ _ => po_cond (fun _ => z1) (fun _ => ?_))))
  refine po_bl (fun _ _ => po_bl (fun _ _ => po_cond (fun _ => z1) (fun _ => ?_)))
  refine po_bl (fun _ _ => po_bl (fun _ _ => po_cond (fun _ => z1) (fun _ => ?_)))
  exact po_bl (fun _ _ => po_bl (fun _ _ => po_cond (fun _ => z0 h1) (fun _ => z1)))
theorem jc_gknown (h : J 37 6 = w) : po (gknown q n P F A J x2) (JP w) := by
  unfold gknown
  ((try dsimp only); repeat' (first | exact po_some (by assumption) | (refine po_call (jc_take (by assumption)) ?_; rintro ⟨_, _, _, _, _⟩ _; dsimp only) | exact jc_take (by assumption) | (refine po_call (jc_late (by assumption)) ?_; rintro ⟨_, _, _, _, _⟩ _; dsimp only) | exact jc_late (by assumption) | refine po_cond (fun _ => ?_) (fun _ => ?_) | refine po_bl (fun _ _ => ?_)))
theorem jc_num (h : J 37 6 = w) : po (e_Reader_takeNumber P F A J x1 x2) (JP w) := by
  unfold e_Reader_takeNumber e_Reader_takeNumber_34
  ((try dsimp only); repeat' (first | exact po_some (by assumption) | (refine po_call (jc_take (by assumption)) ?_; rintro ⟨_, _, _, _, _⟩ _; dsimp only) | exact jc_take (by assumption) | (refine po_call (jc_late (by assumption)) ?_; rintro ⟨_, _, _, _, _⟩ _; dsimp only) | exact jc_late (by assumption) | refine po_cond (fun _ => ?_) (fun _ => ?_) | refine po_bl (fun _ _ => ?_)))
theorem jc_sn (h : J 37 6 = w) : po (e_Reader_takeStepNumber P F A J x1) (JP w) := by
  unfold e_Reader_takeStepNumber e_Reader_takeStepNumber_23
  ((try dsimp only); repeat' (first | exact po_some (by assumption) | (refine po_call (jc_num (by assumption)) ?_; rintro ⟨_, _, _, _, _⟩ _; dsimp only) | exact jc_num (by assumption) | refine po_cond (fun _ => ?_) (fun _ => ?_) | refine po_bl (fun _ _ => ?_)))
theorem jc_add (h : J 37 6 = w) : po (e_Laws_add P F A J d x1 x2) (JP w) := by
  unfold e_Laws_add
  ((try dsimp only); repeat' (first | exact po_some (by assumption) | refine po_cond (fun _ => ?_) (fun _ => ?_) | refine po_bl (fun _ _ => ?_)))
theorem jc_aim (h : J 37 6 = w) : po (e_Laws_aimHere P F A J d x1) (JP w) := by
  unfold e_Laws_aimHere
  ((try dsimp only); repeat' (first | exact po_some (by assumption) | refine po_cond (fun _ => ?_) (fun _ => ?_) | refine po_bl (fun _ _ => ?_)))
theorem jc_sign (h : J 37 6 = w) : po (e_Reader_addSign P F A J x1) (JP w) := by
  unfold e_Reader_addSign
  ((try dsimp only); repeat' (first | exact po_some (by assumption) | (refine po_call (jc_add (by assumption)) ?_; rintro ⟨_, _, _, _, _⟩ _; dsimp only) | exact jc_add (by assumption) | refine po_cond (fun _ => ?_) (fun _ => ?_) | refine po_bl (fun _ _ => ?_)))
theorem jc_either18 (h : J 37 6 = w) : po (e_Reader_takeEither_18 P F A J x2) (JP w) := by
  unfold e_Reader_takeEither_18
  ((try dsimp only); repeat' (first | exact po_some (by assumption) | (refine po_call (jc_take (by assumption)) ?_; rintro ⟨_, _, _, _, _⟩ _; dsimp only) | exact jc_take (by assumption) | refine po_cond (fun _ => ?_) (fun _ => ?_) | refine po_bl (fun _ _ => ?_)))
theorem jc_either (h : J 37 6 = w) : po (e_Reader_takeEither P F A J x1 x2) (JP w) := by
  unfold e_Reader_takeEither
  ((try dsimp only); repeat' (first | exact po_some (by assumption) | (refine po_call (jc_take (by assumption)) ?_; rintro ⟨_, _, _, _, _⟩ _; dsimp only) | exact jc_take (by assumption) | (refine po_call (jc_either18 (by assumption)) ?_; rintro ⟨_, _, _, _, _⟩ _; dsimp only) | exact jc_either18 (by assumption) | refine po_cond (fun _ => ?_) (fun _ => ?_) | refine po_bl (fun _ _ => ?_)))
theorem jc_58 {KS : cKS} : ∀ {n : Nat} {P : Nat → Nat → Nat} {F : Nat → Nat → Int32} {A : Nat → Nat → Nat → Int32} {J : Nat → Nat → Nat → Int64} {x2 : Int32}, J 37 6 = w → po (e_Reader_readUnit_58 KS n P F A J x2) (JP w) := by
  intro n
  induction n with
  | zero => intro P F A J x2 _ r hr; cases hr
  | succ n ih =>
    intro P F A J x2 h
    unfold e_Reader_readUnit_58 e_Reader_readUnit_97
    refine po_cond (fun _ => ?_) (fun _ => po_bl (fun _ _ => po_cond (fun _ => ih h) (fun _ => ?_)))
    · ((try dsimp only); repeat' (first | exact po_some (by assumption) | (refine po_call (jc_take (by assumption)) ?_; rintro ⟨_, _, _, _, _⟩ _; dsimp only) | exact jc_take (by assumption) | (refine po_call (jc_add (by assumption)) ?_; rintro ⟨_, _, _, _, _⟩ _; dsimp only) | exact jc_add (by assumption) | refine po_cond (fun _ => ?_) (fun _ => ?_) | refine po_bl (fun _ _ => ?_)))
    · refine po_call (jc_take h) ?_
      rintro ⟨v, P1, F1, A1, J1⟩ h1
      refine po_cond (fun _ => ih h1) (fun _ => ?_)
      have h1 : J1 37 6 = w := h1
      ((try dsimp only); repeat' (first | exact po_some (by assumption) | (refine po_call (jc_take (by assumption)) ?_; rintro ⟨_, _, _, _, _⟩ _; dsimp only) | exact jc_take (by assumption) | (refine po_call (jc_add (by assumption)) ?_; rintro ⟨_, _, _, _, _⟩ _; dsimp only) | exact jc_add (by assumption) | refine po_cond (fun _ => ?_) (fun _ => ?_) | refine po_bl (fun _ _ => ?_)))
theorem jc_sumP {KS : cKS} (hS : ∀ P F A J x, J 37 6 = w → po (KS P F A J x) (JP w)) (h : J 37 6 = w) : po (e_Reader_readUnit KS n P F A J x1) (JP w) := by
  unfold e_Reader_readUnit
  refine po_bl (fun _ _ => po_cond (fun _ => jc_58 h) (fun _ => po_cond (fun _ => ?_) (fun _ => ?_)))
  · refine po_call (jc_take h) ?_
    rintro ⟨v, P1, F1, A1, J1⟩ h1
    refine po_call (hS P1 F1 A1 J1 _ h1) ?_
    rintro ⟨v2, P2, F2, A2, J2⟩ h2
    have h2 : J2 37 6 = w := h2
    ((try dsimp only); repeat' (first | exact po_some (by assumption) | (refine po_call (jc_take (by assumption)) ?_; rintro ⟨_, _, _, _, _⟩ _; dsimp only) | exact jc_take (by assumption) | (refine po_call (jc_fail (by assumption)) ?_; rintro ⟨_, _, _, _, _⟩ _; dsimp only) | exact jc_fail (by assumption) | refine po_cond (fun _ => ?_) (fun _ => ?_) | refine po_bl (fun _ _ => ?_)))
  · ((try dsimp only); repeat' (first | exact po_some (by assumption) | (refine po_call (jc_take (by assumption)) ?_; rintro ⟨_, _, _, _, _⟩ _; dsimp only) | exact jc_take (by assumption) | (refine po_call (jc_fail (by assumption)) ?_; rintro ⟨_, _, _, _, _⟩ _; dsimp only) | exact jc_fail (by assumption) | refine po_cond (fun _ => ?_) (fun _ => ?_) | refine po_bl (fun _ _ => ?_)))
theorem jc_sum10 {KS : cKS} (hS : ∀ P F A J x, J 37 6 = w → po (KS P F A J x) (JP w)) : ∀ {n : Nat} {P : Nat → Nat → Nat} {F : Nat → Nat → Int32} {A : Nat → Nat → Nat → Int32} {J : Nat → Nat → Nat → Int64} {x1 x2 x3 x4 x5 : Int32}, J 37 6 = w → po (e_Reader_readSum_10 KS n P F A J x1 x2 x3 x4 x5) (JP w) := by
  intro n
  induction n with
  | zero => intro P F A J x1 x2 x3 x4 x5 _ r hr; cases hr
  | succ n ih =>
    intro P F A J x1 x2 x3 x4 x5 h
    unfold e_Reader_readSum_10 e_Reader_readSum_69 e_Reader_readSum_71
    refine po_cond (fun _ => po_some h) (fun _ => po_cond (fun _ => po_some h) (fun _ => ?_))
    refine po_call (jc_sumP hS h) ?_
    rintro ⟨v, P1, F1, A1, J1⟩ h1
    refine po_call (jc_sign h1) ?_
    rintro ⟨v, P2, F2, A2, J2⟩ h2
    refine po_call (jc_either h2) ?_
    rintro ⟨v, P3, F3, A3, J3⟩ h3
    refine po_cond (fun _ => ih h3) (fun _ => ?_)
    refine po_call (jc_sign h3) ?_
    rintro ⟨v, P4, F4, A4, J4⟩ h4
    refine po_call (jc_either h4) ?_
    rintro ⟨v, P5, F5, A5, J5⟩ h5
    exact po_cond (fun _ => ih h5) (fun _ => ih h5)
theorem jc_sum (h : J 37 6 = w) : po (e_Reader_readSum m n P F A J x1) (JP w) := by
  have z : ∀ m, ∀ P F A J x, J 37 6 = w → po (e_Reader_readSum m n P F A J x) (JP w) := by
    intro m
    induction m with
    | zero => intro P F A J x _ r hr; cases hr
    | succ m ih =>
      intro P F A J x h
      exact jc_sum10 ih h
  exact z m P F A J x1 h
theorem jc_if (h : J 37 6 = w) : po (e_Reader_readIf n P F A J) (JP w) := by
  unfold e_Reader_readIf
  ((try dsimp only); repeat' (first | exact po_some (by assumption) | (refine po_call (jc_take (by assumption)) ?_; rintro ⟨_, _, _, _, _⟩ _; dsimp only) | exact jc_take (by assumption) | (refine po_call (jc_sum (by assumption)) ?_; rintro ⟨_, _, _, _, _⟩ _; dsimp only) | exact jc_sum (by assumption) | (refine po_call (jc_add (by assumption)) ?_; rintro ⟨_, _, _, _, _⟩ _; dsimp only) | exact jc_add (by assumption) | (refine po_call (jc_aim (by assumption)) ?_; rintro ⟨_, _, _, _, _⟩ _; dsimp only) | exact jc_aim (by assumption) | refine po_cond (fun _ => ?_) (fun _ => ?_) | refine po_bl (fun _ _ => ?_)))
theorem jc_94 (h : J 37 6 = w) : po (e_Reader_readLaw_94 n P F A J x1 x2) (JP w) := by
  unfold e_Reader_readLaw_94
  ((try dsimp only); repeat' (first | exact po_some (by assumption) | (refine po_call (jc_sum (by assumption)) ?_; rintro ⟨_, _, _, _, _⟩ _; dsimp only) | exact jc_sum (by assumption) | (refine po_call (jc_add (by assumption)) ?_; rintro ⟨_, _, _, _, _⟩ _; dsimp only) | exact jc_add (by assumption) | (refine po_call (jc_take (by assumption)) ?_; rintro ⟨_, _, _, _, _⟩ _; dsimp only) | exact jc_take (by assumption) | refine po_cond (fun _ => ?_) (fun _ => ?_) | refine po_bl (fun _ _ => ?_)))
theorem jc_48 : ∀ {n : Nat} {P : Nat → Nat → Nat} {F : Nat → Nat → Int32} {A : Nat → Nat → Nat → Int32} {J : Nat → Nat → Nat → Int64} {x1 x2 x3 : Int32}, J 37 6 = w → po (e_Reader_readLaw_48 n P F A J x1 x2 x3) (JP w) := by
  intro n
  induction n with
  | zero => intro P F A J x1 x2 x3 _ r hr; cases hr
  | succ n ih =>
    intro P F A J x1 x2 x3 h
    unfold e_Reader_readLaw_48 e_Reader_readLaw_84
    refine po_cond (fun _ => jc_94 h) (fun _ => po_bl (fun _ _ => po_cond (fun _ => jc_94 h) (fun _ => po_cond (fun _ => ?_) (fun _ => ?_))))
    · refine po_call (jc_if h) ?_
      rintro ⟨v, P1, F1, A1, J1⟩ h1
      exact ih h1
    · refine po_bl (fun _ _ => ?_)
      refine po_call (jc_fail h) ?_
      rintro ⟨v, P1, F1, A1, J1⟩ h1
      refine po_call (jc_if h1) ?_
      rintro ⟨v, P2, F2, A2, J2⟩ h2
      exact ih h2
theorem jc_law (h : J 37 6 = w) : po (e_Reader_readLaw n P F A J) (JP w) := by
  unfold e_Reader_readLaw
  simp only [known_3]
  ((try dsimp only); repeat' (first | exact po_some (by assumption) | (refine po_call (jc_first (by assumption)) ?_; rintro ⟨_, _, _, _, _⟩ _; dsimp only) | exact jc_first (by assumption) | (refine po_call (jc_gknown (by assumption)) ?_; rintro ⟨_, _, _, _, _⟩ _; dsimp only) | exact jc_gknown (by assumption) | (refine po_call (jc_take (by assumption)) ?_; rintro ⟨_, _, _, _, _⟩ _; dsimp only) | exact jc_take (by assumption) | (refine po_call (jc_48 (by assumption)) ?_; rintro ⟨_, _, _, _, _⟩ _; dsimp only) | exact jc_48 (by assumption) | refine po_cond (fun _ => ?_) (fun _ => ?_) | refine po_bl (fun _ _ => ?_)))
theorem jc_room (h : J 37 6 = w) : po (e_Reader_readRoom n P F A J) (JP w) := by
  unfold e_Reader_readRoom
  simp only [new_0]
  ((try dsimp only); repeat' (first | exact po_some (by assumption) | (refine po_call (jc_first (by assumption)) ?_; rintro ⟨_, _, _, _, _⟩ _; dsimp only) | exact jc_first (by assumption) | (refine po_call (jc_gnew (by assumption)) ?_; rintro ⟨_, _, _, _, _⟩ _; dsimp only) | exact jc_gnew (by assumption) | (refine po_call (jc_take (by assumption)) ?_; rintro ⟨_, _, _, _, _⟩ _; dsimp only) | exact jc_take (by assumption) | refine po_cond (fun _ => ?_) (fun _ => ?_) | refine po_bl (fun _ _ => ?_)))
theorem jc_165 (h : J 37 6 = w) : po (e_Reader_readDoor_165 n P F A J d x1 x2) (JP w) := by
  unfold e_Reader_readDoor_165
  ((try dsimp only); repeat' (first | exact po_some (by assumption) | refine po_cond (fun _ => ?_) (fun _ => ?_) | refine po_bl (fun _ _ => ?_)))
theorem jc_91 (h : J 37 6 = w) : po (e_Reader_readDoor_91 n P F A J x1 x2 x3 x4) (JP w) := by
  unfold e_Reader_readDoor_91
  ((try dsimp only); repeat' (first | exact po_some (by assumption) | (refine po_call (jc_take (by assumption)) ?_; rintro ⟨_, _, _, _, _⟩ _; dsimp only) | exact jc_take (by assumption) | (refine po_call (jc_165 (by assumption)) ?_; rintro ⟨_, _, _, _, _⟩ _; dsimp only) | exact jc_165 (by assumption) | refine po_cond (fun _ => ?_) (fun _ => ?_) | refine po_bl (fun _ _ => ?_)))
theorem jc_90 (h : J 37 6 = w) : po (e_Reader_readDoor_90 n P F A J x1 x2 x3) (JP w) := jc_91 h
theorem jc_60 (h : J 37 6 = w) : po (e_Reader_readDoor_60 n P F A J x1 x2) (JP w) := by
  unfold e_Reader_readDoor_60
  ((try dsimp only); repeat' (first | exact po_some (by assumption) | (refine po_call (jc_num (by assumption)) ?_; rintro ⟨_, _, _, _, _⟩ _; dsimp only) | exact jc_num (by assumption) | (refine po_call (jc_take (by assumption)) ?_; rintro ⟨_, _, _, _, _⟩ _; dsimp only) | exact jc_take (by assumption) | (refine po_call (jc_90 (by assumption)) ?_; rintro ⟨_, _, _, _, _⟩ _; dsimp only) | exact jc_90 (by assumption) | (refine po_call (jc_91 (by assumption)) ?_; rintro ⟨_, _, _, _, _⟩ _; dsimp only) | exact jc_91 (by assumption) | refine po_cond (fun _ => ?_) (fun _ => ?_) | refine po_bl (fun _ _ => ?_)))
theorem jc_door (h : J 37 6 = w) : po (e_Reader_readDoor n P F A J) (JP w) := by
  unfold e_Reader_readDoor
  simp only [known_0]
  ((try dsimp only); repeat' (first | exact po_some (by assumption) | (refine po_call (jc_first (by assumption)) ?_; rintro ⟨_, _, _, _, _⟩ _; dsimp only) | exact jc_first (by assumption) | (refine po_call (jc_gknown (by assumption)) ?_; rintro ⟨_, _, _, _, _⟩ _; dsimp only) | exact jc_gknown (by assumption) | (refine po_call (jc_60 (by assumption)) ?_; rintro ⟨_, _, _, _, _⟩ _; dsimp only) | exact jc_60 (by assumption) | (refine po_call (jc_late (by assumption)) ?_; rintro ⟨_, _, _, _, _⟩ _; dsimp only) | exact jc_late (by assumption) | (refine po_call (jc_num (by assumption)) ?_; rintro ⟨_, _, _, _, _⟩ _; dsimp only) | exact jc_num (by assumption) | (refine po_call (jc_take (by assumption)) ?_; rintro ⟨_, _, _, _, _⟩ _; dsimp only) | exact jc_take (by assumption) | (refine po_call (jc_90 (by assumption)) ?_; rintro ⟨_, _, _, _, _⟩ _; dsimp only) | exact jc_90 (by assumption) | (refine po_call (jc_91 (by assumption)) ?_; rintro ⟨_, _, _, _, _⟩ _; dsimp only) | exact jc_91 (by assumption) | refine po_cond (fun _ => ?_) (fun _ => ?_) | refine po_bl (fun _ _ => ?_)))
theorem jc_tool (h : J 37 6 = w) : po (e_Reader_readTool n P F A J) (JP w) := by
  unfold e_Reader_readTool
  simp only [new_1, known_0]
  ((try dsimp only); repeat' (first | exact po_some (by assumption) | (refine po_call (jc_first (by assumption)) ?_; rintro ⟨_, _, _, _, _⟩ _; dsimp only) | exact jc_first (by assumption) | (refine po_call (jc_gnew (by assumption)) ?_; rintro ⟨_, _, _, _, _⟩ _; dsimp only) | exact jc_gnew (by assumption) | (refine po_call (jc_gknown (by assumption)) ?_; rintro ⟨_, _, _, _, _⟩ _; dsimp only) | exact jc_gknown (by assumption) | (refine po_call (jc_take (by assumption)) ?_; rintro ⟨_, _, _, _, _⟩ _; dsimp only) | exact jc_take (by assumption) | refine po_cond (fun _ => ?_) (fun _ => ?_) | refine po_bl (fun _ _ => ?_)))
theorem jc_tsk (h : J 37 6 = w) : po (e_Reader_readTask n P F A J) (JP w) := by
  unfold e_Reader_readTask
  simp only [new_2, known_0]
  ((try dsimp only); repeat' (first | exact po_some (by assumption) | (refine po_call (jc_first (by assumption)) ?_; rintro ⟨_, _, _, _, _⟩ _; dsimp only) | exact jc_first (by assumption) | (refine po_call (jc_gnew (by assumption)) ?_; rintro ⟨_, _, _, _, _⟩ _; dsimp only) | exact jc_gnew (by assumption) | (refine po_call (jc_gknown (by assumption)) ?_; rintro ⟨_, _, _, _, _⟩ _; dsimp only) | exact jc_gknown (by assumption) | (refine po_call (jc_num (by assumption)) ?_; rintro ⟨_, _, _, _, _⟩ _; dsimp only) | exact jc_num (by assumption) | (refine po_call (jc_take (by assumption)) ?_; rintro ⟨_, _, _, _, _⟩ _; dsimp only) | exact jc_take (by assumption) | refine po_cond (fun _ => ?_) (fun _ => ?_) | refine po_bl (fun _ _ => ?_)))
theorem jc_57 (h : J 37 6 = w) : po (e_Reader_takeTaskOfStep_57 n P F A J x1 x2) (JP w) := by
  unfold e_Reader_takeTaskOfStep_57
  simp only [known_2]
  ((try dsimp only); repeat' (first | exact po_some (by assumption) | (refine po_call (jc_gknown (by assumption)) ?_; rintro ⟨_, _, _, _, _⟩ _; dsimp only) | exact jc_gknown (by assumption) | (refine po_call (jc_fail (by assumption)) ?_; rintro ⟨_, _, _, _, _⟩ _; dsimp only) | exact jc_fail (by assumption) | refine po_cond (fun _ => ?_) (fun _ => ?_) | refine po_bl (fun _ _ => ?_)))
theorem jc_task (h : J 37 6 = w) : po (e_Reader_takeTaskOfStep n P F A J) (JP w) := by
  unfold e_Reader_takeTaskOfStep
  ((try dsimp only); repeat' (first | exact po_some (by assumption) | (refine po_call (jc_take (by assumption)) ?_; rintro ⟨_, _, _, _, _⟩ _; dsimp only) | exact jc_take (by assumption) | (refine po_call (jc_57 (by assumption)) ?_; rintro ⟨_, _, _, _, _⟩ _; dsimp only) | exact jc_57 (by assumption) | refine po_cond (fun _ => ?_) (fun _ => ?_) | refine po_bl (fun _ _ => ?_)))
theorem jc_107 (h : J 37 6 = w) : po (e_Reader_readStep_107 n P F A J x1 x2 x3 x4 x5 x6 x7) (JP w) := by
  unfold e_Reader_readStep_107
  ((try dsimp only); repeat' (first | exact po_some (by assumption) | (refine po_call (jc_take (by assumption)) ?_; rintro ⟨_, _, _, _, _⟩ _; dsimp only) | exact jc_take (by assumption) | refine po_cond (fun _ => ?_) (fun _ => ?_) | refine po_bl (fun _ _ => ?_)))
theorem jc_78 (h : J 37 6 = w) : po (e_Reader_readStep_78 n P F A J x1 x2 x3 x4 x5 x6) (JP w) := by
  unfold e_Reader_readStep_78
  ((try dsimp only); repeat' (first | exact po_some (by assumption) | (refine po_call (jc_take (by assumption)) ?_; rintro ⟨_, _, _, _, _⟩ _; dsimp only) | exact jc_take (by assumption) | (refine po_call (jc_sn (by assumption)) ?_; rintro ⟨_, _, _, _, _⟩ _; dsimp only) | exact jc_sn (by assumption) | (refine po_call (jc_107 (by assumption)) ?_; rintro ⟨_, _, _, _, _⟩ _; dsimp only) | exact jc_107 (by assumption) | refine po_cond (fun _ => ?_) (fun _ => ?_) | refine po_bl (fun _ _ => ?_)))
theorem jc_step (h : J 37 6 = w) : po (e_Reader_readStep n P F A J) (JP w) := by
  unfold e_Reader_readStep
  simp only [known_1]
  ((try dsimp only); repeat' (first | exact po_some (by assumption) | (refine po_call (jc_task (by assumption)) ?_; rintro ⟨_, _, _, _, _⟩ _; dsimp only) | exact jc_task (by assumption) | (refine po_call (jc_num (by assumption)) ?_; rintro ⟨_, _, _, _, _⟩ _; dsimp only) | exact jc_num (by assumption) | (refine po_call (jc_take (by assumption)) ?_; rintro ⟨_, _, _, _, _⟩ _; dsimp only) | exact jc_take (by assumption) | (refine po_call (jc_gknown (by assumption)) ?_; rintro ⟨_, _, _, _, _⟩ _; dsimp only) | exact jc_gknown (by assumption) | (refine po_call (jc_78 (by assumption)) ?_; rintro ⟨_, _, _, _, _⟩ _; dsimp only) | exact jc_78 (by assumption) | refine po_cond (fun _ => ?_) (fun _ => ?_) | refine po_bl (fun _ _ => ?_)))
theorem jc_92 (h : J 37 6 = w) : po (e_Reader_readMan_92 n P F A J x1 x2) (JP w) := by
  unfold e_Reader_readMan_92
  ((try dsimp only); repeat' (first | exact po_some (by assumption) | (refine po_call (jc_take (by assumption)) ?_; rintro ⟨_, _, _, _, _⟩ _; dsimp only) | exact jc_take (by assumption) | refine po_cond (fun _ => ?_) (fun _ => ?_) | refine po_bl (fun _ _ => ?_)))
theorem jc_man (h : J 37 6 = w) : po (e_Reader_readMan n P F A J) (JP w) := by
  unfold e_Reader_readMan
  simp only [new_3, known_0, known_2]
  ((try dsimp only); repeat' (first | exact po_some (by assumption) | (refine po_call (jc_first (by assumption)) ?_; rintro ⟨_, _, _, _, _⟩ _; dsimp only) | exact jc_first (by assumption) | (refine po_call (jc_gnew (by assumption)) ?_; rintro ⟨_, _, _, _, _⟩ _; dsimp only) | exact jc_gnew (by assumption) | (refine po_call (jc_gknown (by assumption)) ?_; rintro ⟨_, _, _, _, _⟩ _; dsimp only) | exact jc_gknown (by assumption) | (refine po_call (jc_take (by assumption)) ?_; rintro ⟨_, _, _, _, _⟩ _; dsimp only) | exact jc_take (by assumption) | (refine po_call (jc_sn (by assumption)) ?_; rintro ⟨_, _, _, _, _⟩ _; dsimp only) | exact jc_sn (by assumption) | (refine po_call (jc_92 (by assumption)) ?_; rintro ⟨_, _, _, _, _⟩ _; dsimp only) | exact jc_92 (by assumption) | refine po_cond (fun _ => ?_) (fun _ => ?_) | refine po_bl (fun _ _ => ?_)))
theorem jc_night (h : J 37 6 = w) : po (e_Reader_readNight P F A J) (JP w) := by
  unfold e_Reader_readNight
  ((try dsimp only); repeat' (first | exact po_some (by assumption) | (refine po_call (jc_take (by assumption)) ?_; rintro ⟨_, _, _, _, _⟩ _; dsimp only) | exact jc_take (by assumption) | (refine po_call (jc_num (by assumption)) ?_; rintro ⟨_, _, _, _, _⟩ _; dsimp only) | exact jc_num (by assumption) | refine po_cond (fun _ => ?_) (fun _ => ?_) | refine po_bl (fun _ _ => ?_)))
theorem jc_sent (h : J 37 6 = w) : po (gsent n P F A J) (JP w) := by
  unfold gsent
  exact po_bl (fun _ _ => po_cond (fun _ => jc_room h) (fun _ => po_cond (fun _ => jc_door h) (fun _ => po_cond (fun _ => jc_tool h) (fun _ => po_cond (fun _ => jc_tsk h) (fun _ => po_cond (fun _ => jc_step h) (fun _ => po_cond (fun _ => jc_man h) (fun _ => po_cond (fun _ => jc_law h) (fun _ => po_cond (fun _ => jc_night h) (fun _ => po_bl (fun _ _ => jc_fail h)))))))))) 
theorem jc_171 (h : J 37 6 = w) : po (e_Reader_readText_171 n P F A J) (JP w) := by
  unfold e_Reader_readText_171
  ((try dsimp only); repeat' (first | exact po_some (by assumption) | refine po_cond (fun _ => ?_) (fun _ => ?_) | refine po_bl (fun _ _ => ?_)))
theorem jc_10 : ∀ {n : Nat} {P : Nat → Nat → Nat} {F : Nat → Nat → Int32} {A : Nat → Nat → Nat → Int32} {J : Nat → Nat → Nat → Int64} {x4 : Int32}, J 37 6 = w → po (e_Reader_readText_10 n P F A J x4) (JP w) := by
  intro n
  induction n with
  | zero => intro P F A J x4 _ r hr; cases hr
  | succ n ih =>
    intro P F A J x4 h
    rw [text_g]
    refine po_cond (fun _ => jc_171 h) (fun _ => po_cond (fun _ => jc_171 h) (fun _ => po_bl (fun _ _ => po_cond (fun _ => jc_171 h) (fun _ => ?_))))
    refine po_call (jc_sent h) ?_
    rintro ⟨v, P1, F1, A1, J1⟩ h1
    exact ih h1
end C5c
end Qz121
section Qz122
section C5m
variable {n m N : Nat} {w : Nat → Int64} {F : Nat → Int32} {A : Nat → Nat → Int32} {J : Nat → Nat → Int64} {x1 x2 x3 x4 x5 x6 x7 x8 x9 x10 s0 s1 s2 s3 s4 : Int32}
def JQ (w : Nat → Int64) {α : Type} (r : mR α) : Prop := r.2.2.2 7 = w
theorem jm_fail (h : J 7 = w) : po (d_fail F A J x1) (JQ w) := by
  unfold d_fail
  ((try dsimp only); repeat' (first | exact po_some (by assumption) | refine po_cond (fun _ => ?_) (fun _ => ?_) | refine po_bl (fun _ _ => ?_)))
theorem jm_failAt (h : J 7 = w) : po (d_failAt F A J x1 x2) (JQ w) := by
  unfold d_failAt
  ((try dsimp only); repeat' (first | exact po_some (by assumption) | refine po_cond (fun _ => ?_) (fun _ => ?_) | refine po_bl (fun _ _ => ?_)))
theorem jm_wrong (h : J 7 = w) : po (d_wrong F A J x1 x2) (JQ w) := by
  unfold d_wrong d_wrong_46
  ((try dsimp only); repeat' (first | exact po_some (by assumption) | refine po_cond (fun _ => ?_) (fun _ => ?_) | refine po_bl (fun _ _ => ?_)))
theorem jm_goes (h : J 7 = w) : po (d_goesOn F A J) (JQ w) := by
  unfold d_goesOn
  ((try dsimp only); repeat' (first | exact po_some (by assumption) | (refine po_call (jm_fail (by assumption)) ?_; rintro ⟨_, _, _, _⟩ _; dsimp only) | exact jm_fail (by assumption) | refine po_cond (fun _ => ?_) (fun _ => ?_) | refine po_bl (fun _ _ => ?_)))
theorem jm_must (h : J 7 = w) : po (d_must F A J x1) (JQ w) := by
  unfold d_must
  ((try dsimp only); repeat' (first | exact po_some (by assumption) | (refine po_call (jm_fail (by assumption)) ?_; rintro ⟨_, _, _, _⟩ _; dsimp only) | exact jm_fail (by assumption) | (refine po_call (jm_goes (by assumption)) ?_; rintro ⟨_, _, _, _⟩ _; dsimp only) | exact jm_goes (by assumption) | refine po_cond (fun _ => ?_) (fun _ => ?_) | refine po_bl (fun _ _ => ?_)))
theorem jm_named12 : ∀ {n : Nat} {F : Nat → Int32} {A : Nat → Nat → Int32} {J : Nat → Nat → Int64} {x1 x2 : Int32}, J 7 = w → po (d_named_12 n F A J x1 x2) (JQ w) := by
  intro n
  induction n with
  | zero => intro F A J x1 x2 _ r hr; cases hr
  | succ n ih =>
    intro F A J x1 x2 h
    unfold d_named_12 d_named_49
    refine po_cond (fun _ => po_some h) (fun _ => po_cond (fun _ => po_some h) (fun _ => po_bl (fun _ _ => po_bl (fun _ _ => po_cond (fun _ => ih h) (fun _ => ?_)))))
    refine po_call (jm_wrong h) ?_
    rintro ⟨_, _, _, _⟩ h1
    exact ih h1
theorem jm_named (h : J 7 = w) : po (d_named n F A J) (JQ w) := by
  unfold d_named
  refine po_call (jm_must h) ?_
  rintro ⟨_, _, _, _⟩ h1
  exact jm_named12 h1
theorem jm_notes (h : J 7 = w) : po (d_notes F A J x1 x2 x3) (JQ w) := by
  intro r hr
  obtain ⟨F', A', J', rfl, -, -, -, -, -, -, -, -, -, -, -, -, hJ⟩ := g_notes hr
  show J' 7 = w
  rw [hJ 7 (by decide)]
  exact h
theorem jm_known21 : ∀ {n : Nat} {F : Nat → Int32} {A : Nat → Nat → Int32} {J : Nat → Nat → Int64} {x1 x2 x3 : Int32}, J 7 = w → po (d_known_21 n F A J x1 x2 x3) (JQ w) := by
  intro n
  induction n with
  | zero => intro F A J x1 x2 x3 _ r hr; cases hr
  | succ n ih =>
    intro F A J x1 x2 x3 h
    unfold d_known_21 d_known_62
    refine po_cond (fun _ => ?_) (fun _ => po_bl (fun _ _ => po_bl (fun _ _ => po_cond (fun _ => ih h) (fun _ => po_bl (fun _ _ => po_cond (fun _ => ih h) (fun _ => po_bl (fun _ _ => po_some h)))))))
    ((try dsimp only); repeat' (first | exact po_some (by assumption) | (refine po_call (jm_wrong (by assumption)) ?_; rintro ⟨_, _, _, _⟩ _; dsimp only) | exact jm_wrong (by assumption) | refine po_cond (fun _ => ?_) (fun _ => ?_) | refine po_bl (fun _ _ => ?_)))
theorem jm_known (h : J 7 = w) : po (d_known n F A J x1) (JQ w) := by
  unfold d_known
  refine po_call (jm_must h) ?_
  rintro ⟨_, _, _, _⟩ h1
  exact po_cond (fun _ => jm_known21 h1) (fun _ => po_some h1)
theorem jm_num (h : J 7 = w) : po (d_bounded F A J x1 x2) (JQ w) := by
  unfold d_bounded d_bounded_15 d_bounded_42 d_bounded_51
  ((try dsimp only); repeat' (first | exact po_some (by assumption) | (refine po_call (jm_fail (by assumption)) ?_; rintro ⟨_, _, _, _⟩ _; dsimp only) | exact jm_fail (by assumption) | (refine po_call (jm_wrong (by assumption)) ?_; rintro ⟨_, _, _, _⟩ _; dsimp only) | exact jm_wrong (by assumption) | (refine po_call (jm_goes (by assumption)) ?_; rintro ⟨_, _, _, _⟩ _; dsimp only) | exact jm_goes (by assumption) | refine po_cond (fun _ => ?_) (fun _ => ?_) | refine po_bl (fun _ _ => ?_)))
theorem jm_first (h : J 7 = w) : po (d_roomFor F A J x1 x2) (JQ w) := by
  unfold d_roomFor d_roomFor_10
  ((try dsimp only); repeat' (first | exact po_some (by assumption) | (refine po_call (jm_fail (by assumption)) ?_; rintro ⟨_, _, _, _⟩ _; dsimp only) | exact jm_fail (by assumption) | (refine po_call (jm_goes (by assumption)) ?_; rintro ⟨_, _, _, _⟩ _; dsimp only) | exact jm_goes (by assumption) | refine po_cond (fun _ => ?_) (fun _ => ?_) | refine po_bl (fun _ _ => ?_)))
theorem jm_emit (h : J 7 = w) : po (d_emit F A J x1 x2) (JQ w) := by
  unfold d_emit
  ((try dsimp only); repeat' (first | exact po_some (by assumption) | refine po_cond (fun _ => ?_) (fun _ => ?_) | refine po_bl (fun _ _ => ?_)))
theorem jm_out (h : J 7 = w) : po (d_comesOut n F A J x1) (JQ w) := by
  refine po_mono out_po ?_
  rintro _ ⟨F', A', rfl, -⟩
  exact h
theorem jm_unit (h : J 7 = w) : po (d_unit F A J) (JQ w) := by
  have z88 : po (d_unit_88 F A J) (JQ w) := by
    unfold d_unit_88
    refine po_call (jm_fail h) ?_
    rintro ⟨_, F1, A1, J1⟩ h1
    exact po_some h1
  have ze : ∀ {y1 y2 : Int32}, po ((d_emit F A J y1 y2).bind fun (_, F10, A11, J12) => (d_goesOn F10 A11 J12).bind fun (_, F14, A15, J16) => some ((), F14, A15, J16)) (JQ w) := by
    intro y1 y2
    refine po_call (jm_emit h) ?_
    rintro ⟨_, F1, A1, J1⟩ h1
    refine po_call (jm_goes h1) ?_
    rintro ⟨_, F2, A2, J2⟩ h2
    exact po_some h2
  unfold d_unit
  exact po_bl (fun _ _ => po_cond (fun _ => po_cond (fun _ => z88) (fun _ => po_bl (fun _ _ => po_cond (fun _ => z88) (fun _ => po_bl (fun _ _ => po_cond (fun _ => z88) (fun _ => po_bl (fun _ _ => ze))))))) (fun _ => po_bl (fun _ _ => ze)))
theorem jm_y {K12 : (Nat → Int32) → (Nat → Nat → Int32) → (Nat → Nat → Int64) → Int32 → Int32 → Option (mR Unit)} (hK : ∀ F A J y z, J 7 = w → po (K12 F A J y z) (JQ w)) : ∀ {n : Nat} {F : Nat → Int32} {A : Nat → Nat → Int32} {J : Nat → Nat → Int64} {x1 : Int32}, J 7 = w → po (d_expression_96 K12 n F A J x1) (JQ w) := by
  have z234 : ∀ {n : Nat} {F A J} {x1 x2 s : Int32}, J 7 = w → po (d_expression_234 K12 n F A J x1 x2 s) (JQ w) := by
    intro n F A J x1 x2 s h
    unfold d_expression_234
    refine po_call (jm_out h) ?_
    rintro ⟨_, F1, A1, J1⟩ h1
    refine po_bl (fun _ _ => po_bl (fun _ _ => po_bl (fun _ _ => ?_)))
    refine po_call (jm_goes h1) ?_
    rintro ⟨_, F2, A2, J2⟩ h2
    exact hK _ _ _ _ _ h2
  have z186 : ∀ {n : Nat} {F A J} {x1 s : Int32}, J 7 = w → po (d_expression_186 K12 n F A J x1 s) (JQ w) := by
    intro n F A J x1 s h
    unfold d_expression_186 d_expression_229 d_expression_204
    refine po_cond (fun _ => po_bl (fun _ _ => po_cond (fun _ => z234 h) (fun _ => po_bl (fun _ _ => po_cond (fun _ => z234 h) (fun _ => z234 h))))) (fun _ => po_cond (fun _ => ?_) (fun _ => ?_))
    · ((try dsimp only); repeat' (first | exact po_some (by assumption) | (refine po_call (jm_out (by assumption)) ?_; rintro ⟨_, _, _, _⟩ _; dsimp only) | exact jm_out (by assumption) | refine po_cond (fun _ => ?_) (fun _ => ?_) | refine po_bl (fun _ _ => ?_)))
    · ((try dsimp only); repeat' (first | exact po_some (by assumption) | (refine po_call (jm_fail (by assumption)) ?_; rintro ⟨_, _, _, _⟩ _; dsimp only) | exact jm_fail (by assumption) | (refine po_call (jm_out (by assumption)) ?_; rintro ⟨_, _, _, _⟩ _; dsimp only) | exact jm_out (by assumption) | refine po_cond (fun _ => ?_) (fun _ => ?_) | refine po_bl (fun _ _ => ?_)))
  have z145 : ∀ {n : Nat} {F A J} {x1 : Int32}, J 7 = w → po (d_expression_145 K12 n F A J x1) (JQ w) := by
    intro n F A J x1 h
    unfold d_expression_145 d_expression_181
    exact po_bl (fun _ _ => po_cond (fun _ => z186 h) (fun _ => po_bl (fun _ _ => po_cond (fun _ => z186 h) (fun _ => po_bl (fun _ _ => po_cond (fun _ => z186 h) (fun _ => po_bl (fun _ _ => po_cond (fun _ => z186 h) (fun _ => z186 h))))))))
  intro n
  induction n with
  | zero => intro F A J x1 _ r hr; cases hr
  | succ n ih =>
    intro F A J x1 h
    unfold d_expression_96
    refine po_bl (fun _ _ => po_cond (fun _ => z145 h) (fun _ => po_cond (fun _ => z145 h) (fun _ => ?_)))
    refine po_call (jm_out h) ?_
    rintro ⟨_, F1, A1, J1⟩ h1
    refine po_bl (fun _ _ => po_bl (fun _ _ => ?_))
    refine po_call (jm_goes h1) ?_
    rintro ⟨_, F2, A2, J2⟩ h2
    exact ih h2
theorem jm_x {K12 : (Nat → Int32) → (Nat → Nat → Int32) → (Nat → Nat → Int64) → Int32 → Int32 → Option (mR Unit)} (hK : ∀ F A J y z, J 7 = w → po (K12 F A J y z) (JQ w)) : ∀ {n : Nat} {F : Nat → Int32} {A : Nat → Nat → Int32} {J : Nat → Nat → Int64} {x1 : Int32}, J 7 = w → po (d_expression_23 K12 n F A J x1) (JQ w) := by
  intro n
  induction n with
  | zero => intro F A J x1 _ r hr; cases hr
  | succ n ih =>
    intro F A J x1 h
    unfold d_expression_23 d_expression_46
    refine po_bl (fun _ _ => po_cond (fun _ => ?_) (fun _ => po_cond (fun _ => ?_) (fun _ => ?_)))
    · refine po_call (jm_unit h) ?_
      rintro ⟨_, F1, A1, J1⟩ h1
      exact po_cond (fun _ => jm_y hK h1) (fun _ => po_some h1)
    · refine po_bl (fun _ _ => ?_)
      refine po_call (jm_goes h) ?_
      rintro ⟨_, F1, A1, J1⟩ h1
      exact po_bl (fun _ _ => po_bl (fun _ _ => ih h1))
    · refine po_call (jm_fail h) ?_
      rintro ⟨_, F1, A1, J1⟩ h1
      refine po_bl (fun _ _ => ?_)
      refine po_call (jm_goes h1) ?_
      rintro ⟨_, F2, A2, J2⟩ h2
      exact po_bl (fun _ _ => po_bl (fun _ _ => ih h2))
theorem jm_12 : ∀ {N : Nat} {F : Nat → Int32} {A : Nat → Nat → Int32} {J : Nat → Nat → Int64} {x1 x2 : Int32}, J 7 = w → po (d_expression_12 N F A J x1 x2) (JQ w) := by
  intro N
  induction N with
  | zero => intro F A J x1 x2 _ r hr; cases hr
  | succ N ih =>
    intro F A J x1 x2 h
    unfold d_expression_12
    exact po_cond (fun _ => po_some h) (fun _ => po_cond (fun _ => po_some h) (fun _ => jm_x (fun _ _ _ _ _ hh => ih hh) h))
theorem jm_expr (h : J 7 = w) : po (d_expression n F A J) (JQ w) := by
  unfold d_expression
  exact po_bl (fun _ _ => jm_12 h)
theorem jm_term (h : J 7 = w) : po (d_term n F A J) (JQ w) := by
  unfold d_term d_term_24
  ((try dsimp only); repeat' (first | exact po_some (by assumption) | (refine po_call (jm_expr (by assumption)) ?_; rintro ⟨_, _, _, _⟩ _; dsimp only) | exact jm_expr (by assumption) | refine po_cond (fun _ => ?_) (fun _ => ?_) | refine po_bl (fun _ _ => ?_)))
theorem jm_135 (h : J 7 = w) : po (d_tellLaw_135 n F A J x1 x2) (JQ w) := by
  unfold d_tellLaw_135
  refine po_bl (fun _ _ => ?_)
  refine po_call (jm_term h) ?_
  rintro ⟨_, F1, A1, J1⟩ h1
  refine po_call (jm_must h1) ?_
  rintro ⟨_, F2, A2, J2⟩ h2
  exact po_cond (fun _ => po_bl (fun _ _ => po_bl (fun _ _ => po_cond (fun _ => po_bl (fun _ _ => po_bl (fun _ _ => po_some h2))) (fun _ => po_some h2)))) (fun _ => po_some h2)
theorem jm_18 : ∀ {n : Nat} {F : Nat → Int32} {A : Nat → Nat → Int32} {J : Nat → Nat → Int64} {x1 x2 x3 : Int32}, J 7 = w → po (d_tellLaw_18 n F A J x1 x2 x3) (JQ w) := by
  intro n
  induction n with
  | zero => intro F A J x1 x2 x3 _ r hr; cases hr
  | succ n ih =>
    intro F A J x1 x2 x3 h
    have z116 : ∀ {n' : Nat} {F A J} {y : Int32}, J 7 = w → po (d_tellLaw_116 (d_tellLaw_18 n) n' F A J x1 x2 y) (JQ w) := by
      intro n' F A J y h
      unfold d_tellLaw_116
      refine po_call (jm_must h) ?_
      rintro ⟨_, F1, A1, J1⟩ h1
      refine po_call (jm_term h1) ?_
      rintro ⟨_, F2, A2, J2⟩ h2
      refine po_call (jm_must h2) ?_
      rintro ⟨_, F3, A3, J3⟩ h3
      exact ih h3
    have z44 : ∀ {F A J} {y : Int32}, J 7 = w → po (d_tellLaw_44 (d_tellLaw_18 n) n F A J x1 x2 y) (JQ w) := by
      intro F A J y h
      unfold d_tellLaw_44
      refine po_cond (fun _ => ?_) (fun _ => po_some h)
      refine po_call (jm_goes h) ?_
      rintro ⟨_, F1, A1, J1⟩ h1
      refine po_bl (fun _ _ => po_bl (fun _ _ => ?_))
      refine po_call (jm_expr h1) ?_
      rintro ⟨_, F2, A2, J2⟩ h2
      refine po_call (jm_must h2) ?_
      rintro ⟨_, F3, A3, J3⟩ h3
      refine po_bl (fun _ _ => po_cond (fun _ => z116 h3) (fun _ => ?_))
      refine po_call (jm_expr h3) ?_
      rintro ⟨_, F4, A4, J4⟩ h4
      exact z116 h4
    unfold d_tellLaw_18
    refine po_cond (fun _ => jm_135 h) (fun _ => po_bl (fun _ _ => po_cond (fun _ => jm_135 h) (fun _ => po_cond (fun _ => z44 h) (fun _ => ?_))))
    refine po_call (jm_fail h) ?_
    rintro ⟨_, F1, A1, J1⟩ h1
    exact z44 h1
theorem jm_tLaw (h : J 7 = w) : po (d_tellLaw n F A J) (JQ w) := by
  unfold d_tellLaw
  ((try dsimp only); repeat' (first | exact po_some (by assumption) | (refine po_call (jm_known (by assumption)) ?_; rintro ⟨_, _, _, _⟩ _; dsimp only) | exact jm_known (by assumption) | (refine po_call (jm_must (by assumption)) ?_; rintro ⟨_, _, _, _⟩ _; dsimp only) | exact jm_must (by assumption) | (refine po_call (jm_18 (by assumption)) ?_; rintro ⟨_, _, _, _⟩ _; dsimp only) | exact jm_18 (by assumption) | refine po_cond (fun _ => ?_) (fun _ => ?_) | refine po_bl (fun _ _ => ?_)))
theorem jm_tRoom (h : J 7 = w) : po (d_tellRoom n F A J) (JQ w) := by
  unfold d_tellRoom
  ((try dsimp only); repeat' (first | exact po_some (by assumption) | (refine po_call (jm_named (by assumption)) ?_; rintro ⟨_, _, _, _⟩ _; dsimp only) | exact jm_named (by assumption) | (refine po_call (jm_must (by assumption)) ?_; rintro ⟨_, _, _, _⟩ _; dsimp only) | exact jm_must (by assumption) | (refine po_call (jm_notes (by assumption)) ?_; rintro ⟨_, _, _, _⟩ _; dsimp only) | exact jm_notes (by assumption) | refine po_cond (fun _ => ?_) (fun _ => ?_) | refine po_bl (fun _ _ => ?_)))
theorem jm_d135 (h : J 7 = w) : po (d_tellDoor_135 n F A J) (JQ w) := by
  unfold d_tellDoor_135
  ((try dsimp only); repeat' (first | exact po_some (by assumption) | (refine po_call (jm_must (by assumption)) ?_; rintro ⟨_, _, _, _⟩ _; dsimp only) | exact jm_must (by assumption) | refine po_cond (fun _ => ?_) (fun _ => ?_) | refine po_bl (fun _ _ => ?_)))
theorem jm_d121 (h : J 7 = w) : po (d_tellDoor_121 n F A J x1 s1 s2) (JQ w) := by
  unfold d_tellDoor_121
  ((try dsimp only); repeat' (first | exact po_some (by assumption) | (refine po_call (jm_d135 (by assumption)) ?_; rintro ⟨_, _, _, _⟩ _; dsimp only) | exact jm_d135 (by assumption) | (refine po_call (jm_goes (by assumption)) ?_; rintro ⟨_, _, _, _⟩ _; dsimp only) | exact jm_goes (by assumption) | (refine po_call (jm_must (by assumption)) ?_; rintro ⟨_, _, _, _⟩ _; dsimp only) | exact jm_must (by assumption) | refine po_cond (fun _ => ?_) (fun _ => ?_) | refine po_bl (fun _ _ => ?_)))
theorem jm_d120 (h : J 7 = w) : po (d_tellDoor_120 n F A J x1 s1) (JQ w) := jm_d121 h
theorem jm_d82 (h : J 7 = w) : po (d_tellDoor_82 n F A J x1) (JQ w) := by
  unfold d_tellDoor_82
  ((try dsimp only); repeat' (first | exact po_some (by assumption) | (refine po_call (jm_num (by assumption)) ?_; rintro ⟨_, _, _, _⟩ _; dsimp only) | exact jm_num (by assumption) | (refine po_call (jm_d120 (by assumption)) ?_; rintro ⟨_, _, _, _⟩ _; dsimp only) | exact jm_d120 (by assumption) | (refine po_call (jm_d121 (by assumption)) ?_; rintro ⟨_, _, _, _⟩ _; dsimp only) | exact jm_d121 (by assumption) | refine po_cond (fun _ => ?_) (fun _ => ?_) | refine po_bl (fun _ _ => ?_)))
theorem jm_tDoor (h : J 7 = w) : po (d_tellDoor n F A J) (JQ w) := by
  unfold d_tellDoor
  ((try dsimp only); repeat' (first | exact po_some (by assumption) | (refine po_call (jm_known (by assumption)) ?_; rintro ⟨_, _, _, _⟩ _; dsimp only) | exact jm_known (by assumption) | (refine po_call (jm_d82 (by assumption)) ?_; rintro ⟨_, _, _, _⟩ _; dsimp only) | exact jm_d82 (by assumption) | (refine po_call (jm_wrong (by assumption)) ?_; rintro ⟨_, _, _, _⟩ _; dsimp only) | exact jm_wrong (by assumption) | (refine po_call (jm_num (by assumption)) ?_; rintro ⟨_, _, _, _⟩ _; dsimp only) | exact jm_num (by assumption) | (refine po_call (jm_d120 (by assumption)) ?_; rintro ⟨_, _, _, _⟩ _; dsimp only) | exact jm_d120 (by assumption) | (refine po_call (jm_d121 (by assumption)) ?_; rintro ⟨_, _, _, _⟩ _; dsimp only) | exact jm_d121 (by assumption) | refine po_cond (fun _ => ?_) (fun _ => ?_) | refine po_bl (fun _ _ => ?_)))
theorem jm_tTool (h : J 7 = w) : po (d_tellTool n F A J) (JQ w) := by
  unfold d_tellTool
  ((try dsimp only); repeat' (first | exact po_some (by assumption) | (refine po_call (jm_named (by assumption)) ?_; rintro ⟨_, _, _, _⟩ _; dsimp only) | exact jm_named (by assumption) | (refine po_call (jm_known (by assumption)) ?_; rintro ⟨_, _, _, _⟩ _; dsimp only) | exact jm_known (by assumption) | (refine po_call (jm_must (by assumption)) ?_; rintro ⟨_, _, _, _⟩ _; dsimp only) | exact jm_must (by assumption) | (refine po_call (jm_notes (by assumption)) ?_; rintro ⟨_, _, _, _⟩ _; dsimp only) | exact jm_notes (by assumption) | refine po_cond (fun _ => ?_) (fun _ => ?_) | refine po_bl (fun _ _ => ?_)))
theorem jm_tTask (h : J 7 = w) : po (d_tellTask n F A J) (JQ w) := by
  unfold d_tellTask
  ((try dsimp only); repeat' (first | exact po_some (by assumption) | (refine po_call (jm_named (by assumption)) ?_; rintro ⟨_, _, _, _⟩ _; dsimp only) | exact jm_named (by assumption) | (refine po_call (jm_known (by assumption)) ?_; rintro ⟨_, _, _, _⟩ _; dsimp only) | exact jm_known (by assumption) | (refine po_call (jm_num (by assumption)) ?_; rintro ⟨_, _, _, _⟩ _; dsimp only) | exact jm_num (by assumption) | (refine po_call (jm_must (by assumption)) ?_; rintro ⟨_, _, _, _⟩ _; dsimp only) | exact jm_must (by assumption) | (refine po_call (jm_notes (by assumption)) ?_; rintro ⟨_, _, _, _⟩ _; dsimp only) | exact jm_notes (by assumption) | refine po_cond (fun _ => ?_) (fun _ => ?_) | refine po_bl (fun _ _ => ?_)))
theorem jm_174 (h : J 7 = w) : po (d_tellStep_174 n F A J x2 x4 x5 x6 x7 x8 x9 x10) (JQ w) := by
  unfold d_tellStep_174
  ((try dsimp only); repeat' (first | exact po_some (by assumption) | (refine po_call (jm_must (by assumption)) ?_; rintro ⟨_, _, _, _⟩ _; dsimp only) | exact jm_must (by assumption) | refine po_cond (fun _ => ?_) (fun _ => ?_) | refine po_bl (fun _ _ => ?_)))
theorem jm_169 (h : J 7 = w) : po (d_tellStep_169 n F A J x2 x4 x5 x6 x7 x8 x9 s1 s2) (JQ w) := by
  unfold d_tellStep_169
  ((try dsimp only); repeat' (first | exact po_some (by assumption) | (refine po_call (jm_num (by assumption)) ?_; rintro ⟨_, _, _, _⟩ _; dsimp only) | exact jm_num (by assumption) | (refine po_call (jm_174 (by assumption)) ?_; rintro ⟨_, _, _, _⟩ _; dsimp only) | exact jm_174 (by assumption) | refine po_cond (fun _ => ?_) (fun _ => ?_) | refine po_bl (fun _ _ => ?_)))
theorem jm_134 (h : J 7 = w) : po (d_tellStep_134 n F A J x2 x3 x4 x5 x6 x7 x8 x9 x10) (JQ w) := by
  unfold d_tellStep_134
  ((try dsimp only); repeat' (first | exact po_some (by assumption) | (refine po_call (jm_174 (by assumption)) ?_; rintro ⟨_, _, _, _⟩ _; dsimp only) | exact jm_174 (by assumption) | (refine po_call (jm_goes (by assumption)) ?_; rintro ⟨_, _, _, _⟩ _; dsimp only) | exact jm_goes (by assumption) | (refine po_call (jm_169 (by assumption)) ?_; rintro ⟨_, _, _, _⟩ _; dsimp only) | exact jm_169 (by assumption) | refine po_cond (fun _ => ?_) (fun _ => ?_) | refine po_bl (fun _ _ => ?_)))
theorem jm_59 (h : J 7 = w) : po (d_tellStep_59 n F A J x2 x3 s0 s1 s2) (JQ w) := by
  unfold d_tellStep_59
  ((try dsimp only); repeat' (first | exact po_some (by assumption) | (refine po_call (jm_num (by assumption)) ?_; rintro ⟨_, _, _, _⟩ _; dsimp only) | exact jm_num (by assumption) | (refine po_call (jm_134 (by assumption)) ?_; rintro ⟨_, _, _, _⟩ _; dsimp only) | exact jm_134 (by assumption) | (refine po_call (jm_goes (by assumption)) ?_; rintro ⟨_, _, _, _⟩ _; dsimp only) | exact jm_goes (by assumption) | (refine po_call (jm_known (by assumption)) ?_; rintro ⟨_, _, _, _⟩ _; dsimp only) | exact jm_known (by assumption) | refine po_cond (fun _ => ?_) (fun _ => ?_) | refine po_bl (fun _ _ => ?_)))
theorem jm_41 (h : J 7 = w) : po (d_tellStep_41 n F A J x2 x3) (JQ w) := by
  unfold d_tellStep_41
  ((try dsimp only); repeat' (first | exact po_some (by assumption) | (refine po_call (jm_59 (by assumption)) ?_; rintro ⟨_, _, _, _⟩ _; dsimp only) | exact jm_59 (by assumption) | refine po_cond (fun _ => ?_) (fun _ => ?_) | refine po_bl (fun _ _ => ?_)))
theorem jm_28 (h : J 7 = w) : po (d_tellStep_28 n F A J x1 x2 s0) (JQ w) := by
  unfold d_tellStep_28
  ((try dsimp only); repeat' (first | exact po_some (by assumption) | (refine po_call (jm_41 (by assumption)) ?_; rintro ⟨_, _, _, _⟩ _; dsimp only) | exact jm_41 (by assumption) | (refine po_call (jm_failAt (by assumption)) ?_; rintro ⟨_, _, _, _⟩ _; dsimp only) | exact jm_failAt (by assumption) | (refine po_call (jm_59 (by assumption)) ?_; rintro ⟨_, _, _, _⟩ _; dsimp only) | exact jm_59 (by assumption) | refine po_cond (fun _ => ?_) (fun _ => ?_) | refine po_bl (fun _ _ => ?_)))
theorem jm_tStep (h : J 7 = w) : po (d_tellStep n F A J x1) (JQ w) := by
  unfold d_tellStep
  ((try dsimp only); repeat' (first | exact po_some (by assumption) | (refine po_call (jm_known (by assumption)) ?_; rintro ⟨_, _, _, _⟩ _; dsimp only) | exact jm_known (by assumption) | (refine po_call (jm_41 (by assumption)) ?_; rintro ⟨_, _, _, _⟩ _; dsimp only) | exact jm_41 (by assumption) | (refine po_call (jm_failAt (by assumption)) ?_; rintro ⟨_, _, _, _⟩ _; dsimp only) | exact jm_failAt (by assumption) | (refine po_call (jm_59 (by assumption)) ?_; rintro ⟨_, _, _, _⟩ _; dsimp only) | exact jm_59 (by assumption) | (refine po_call (jm_28 (by assumption)) ?_; rintro ⟨_, _, _, _⟩ _; dsimp only) | exact jm_28 (by assumption) | refine po_cond (fun _ => ?_) (fun _ => ?_) | refine po_bl (fun _ _ => ?_)))
theorem jm_118 (h : J 7 = w) : po (d_tellMan_118 n F A J x2) (JQ w) := by
  unfold d_tellMan_118
  ((try dsimp only); repeat' (first | exact po_some (by assumption) | (refine po_call (jm_must (by assumption)) ?_; rintro ⟨_, _, _, _⟩ _; dsimp only) | exact jm_must (by assumption) | (refine po_call (jm_notes (by assumption)) ?_; rintro ⟨_, _, _, _⟩ _; dsimp only) | exact jm_notes (by assumption) | refine po_cond (fun _ => ?_) (fun _ => ?_) | refine po_bl (fun _ _ => ?_)))
theorem jm_114 (h : J 7 = w) : po (d_tellMan_114 n F A J x2 s1 s3 s4) (JQ w) := by
  unfold d_tellMan_114
  ((try dsimp only); repeat' (first | exact po_some (by assumption) | (refine po_call (jm_num (by assumption)) ?_; rintro ⟨_, _, _, _⟩ _; dsimp only) | exact jm_num (by assumption) | (refine po_call (jm_must (by assumption)) ?_; rintro ⟨_, _, _, _⟩ _; dsimp only) | exact jm_must (by assumption) | (refine po_call (jm_notes (by assumption)) ?_; rintro ⟨_, _, _, _⟩ _; dsimp only) | exact jm_notes (by assumption) | refine po_cond (fun _ => ?_) (fun _ => ?_) | refine po_bl (fun _ _ => ?_)))
theorem jm_tMan (h : J 7 = w) : po (d_tellMan n F A J) (JQ w) := by
  unfold d_tellMan
  ((try dsimp only); repeat' (first | exact po_some (by assumption) | (refine po_call (jm_named (by assumption)) ?_; rintro ⟨_, _, _, _⟩ _; dsimp only) | exact jm_named (by assumption) | (refine po_call (jm_known (by assumption)) ?_; rintro ⟨_, _, _, _⟩ _; dsimp only) | exact jm_known (by assumption) | (refine po_call (jm_118 (by assumption)) ?_; rintro ⟨_, _, _, _⟩ _; dsimp only) | exact jm_118 (by assumption) | (refine po_call (jm_goes (by assumption)) ?_; rintro ⟨_, _, _, _⟩ _; dsimp only) | exact jm_goes (by assumption) | (refine po_call (jm_114 (by assumption)) ?_; rintro ⟨_, _, _, _⟩ _; dsimp only) | exact jm_114 (by assumption) | refine po_cond (fun _ => ?_) (fun _ => ?_) | refine po_bl (fun _ _ => ?_)))
theorem jm_tell0 (h : J 7 = w) : po (d_tell0 n F A J) (JQ w) := by
  have zr : ∀ {D : (Nat → Int32) → (Nat → Nat → Int32) → (Nat → Nat → Int64) → Option (mR Unit)} {y1 y2 : Int32}, (∀ F A J, J 7 = w → po (D F A J) (JQ w)) → po ((d_roomFor F A J y1 y2).bind fun (_, F5, A6, J7) => cond (g_cnd .ne (F5 13) 0) (some ((), F5, A6, J7)) ((D F5 A6 J7).bind fun (_, F10, A11, J12) => some ((), F10, A11, J12))) (JQ w) := by
    intro D y1 y2 hD
    refine po_call (jm_first h) ?_
    rintro ⟨_, F1, A1, J1⟩ h1
    refine po_cond (fun _ => po_some h1) (fun _ => ?_)
    refine po_call (hD F1 A1 J1 h1) ?_
    rintro ⟨_, F2, A2, J2⟩ h2
    exact po_some h2
  have zf : po ((d_fail F A J 1).bind fun (_, F24, A25, J26) => some ((), F24, A25, J26)) (JQ w) := by
    refine po_call (jm_fail h) ?_
    rintro ⟨_, F1, A1, J1⟩ h1
    exact po_some h1
  unfold d_tell0
  refine po_bl (fun _ _ => ?_)
  refine po_cond (fun _ => po_bl (fun _ _ => zr (fun _ _ _ hh => jm_tRoom hh))) (fun _ => ?_)
  refine po_cond (fun _ => po_bl (fun _ _ => zr (fun _ _ _ hh => jm_tDoor hh))) (fun _ => ?_)
  refine po_cond (fun _ => zf) (fun _ => ?_)
  refine po_cond (fun _ => po_bl (fun _ _ => zr (fun _ _ _ hh => jm_tTool hh))) (fun _ => ?_)
  refine po_cond (fun _ => po_bl (fun _ _ => zr (fun _ _ _ hh => jm_tTask hh))) (fun _ => ?_)
  refine po_cond (fun _ => ?_) (fun _ => ?_)
  · ((try dsimp only); repeat' (first | exact po_some (by assumption) | (refine po_call (jm_goes (by assumption)) ?_; rintro ⟨_, _, _, _⟩ _; dsimp only) | exact jm_goes (by assumption) | (refine po_call (jm_tStep (by assumption)) ?_; rintro ⟨_, _, _, _⟩ _; dsimp only) | exact jm_tStep (by assumption) | refine po_cond (fun _ => ?_) (fun _ => ?_) | refine po_bl (fun _ _ => ?_)))
  refine po_cond (fun _ => zf) (fun _ => ?_)
  refine po_cond (fun _ => zf) (fun _ => ?_)
  refine po_cond (fun _ => po_bl (fun _ _ => zr (fun _ _ _ hh => jm_tMan hh))) (fun _ => ?_)
  refine po_cond (fun _ => zf) (fun _ => ?_)
  refine po_cond (fun _ => po_bl (fun _ _ => zr (fun _ _ _ hh => jm_tLaw hh))) (fun _ => ?_)
  refine po_cond (fun _ => zf) (fun _ => ?_)
  refine po_cond (fun _ => zf) (fun _ => ?_)
  refine po_cond (fun _ => zf) (fun _ => ?_)
  refine po_cond (fun _ => ?_) (fun _ => zf)
  ((try dsimp only); repeat' (first | exact po_some (by assumption) | (refine po_call (jm_goes (by assumption)) ?_; rintro ⟨_, _, _, _⟩ _; dsimp only) | exact jm_goes (by assumption) | (refine po_call (jm_num (by assumption)) ?_; rintro ⟨_, _, _, _⟩ _; dsimp only) | exact jm_num (by assumption) | (refine po_call (jm_must (by assumption)) ?_; rintro ⟨_, _, _, _⟩ _; dsimp only) | exact jm_must (by assumption) | refine po_cond (fun _ => ?_) (fun _ => ?_) | refine po_bl (fun _ _ => ?_)))
theorem jm_176 : ∀ {n : Nat} {A : Nat → Nat → Int32} {x1 : Int32}, J 7 = w → po (d_begins_176 n F A J x1) (JQ w) := by
  intro n
  induction n with
  | zero => intro A x1 _ r hr; cases hr
  | succ n ih =>
    intro A x1 h
    unfold d_begins_176 d_begins_219
    exact po_bl (fun _ _ => po_cond (fun _ => po_some h) (fun _ => po_bl (fun _ _ => po_cond (fun _ => ih h) (fun _ => po_bl (fun _ _ => po_bl (fun _ _ => ih h))))))
theorem jm_132 : ∀ {n : Nat} {A : Nat → Nat → Int32} {x1 : Int32}, J 7 = w → po (d_begins_132 n F A J x1) (JQ w) := by
  intro n
  induction n with
  | zero => intro A x1 _ r hr; cases hr
  | succ n ih =>
    intro A x1 h
    unfold d_begins_132
    exact po_bl (fun _ _ => po_cond (fun _ => jm_176 h) (fun _ => po_bl (fun _ _ => po_bl (fun _ _ => ih h))))
theorem jm_59b : ∀ {n : Nat} {A : Nat → Nat → Int32} {x1 : Int32}, J 7 = w → po (d_begins_59 n F A J x1) (JQ w) := by
  intro n
  induction n with
  | zero => intro A x1 _ r hr; cases hr
  | succ n ih =>
    intro A x1 h
    unfold d_begins_59
    exact po_bl (fun _ _ => po_cond (fun _ => jm_132 h) (fun _ => po_bl (fun _ _ => po_bl (fun _ _ => po_bl (fun _ _ => po_bl (fun _ _ => po_bl (fun _ _ => ih h)))))))
theorem jm_23 : ∀ {n : Nat} {A : Nat → Nat → Int32} {x1 : Int32}, J 7 = w → po (d_begins_23 n F A J x1) (JQ w) := by
  intro n
  induction n with
  | zero => intro A x1 _ r hr; cases hr
  | succ n ih =>
    intro A x1 h
    unfold d_begins_23
    exact po_bl (fun _ _ => po_cond (fun _ => jm_59b h) (fun _ => po_bl (fun _ _ => po_bl (fun _ _ => ih h))))
theorem jm_begins2 : ∀ {n : Nat} {A : Nat → Nat → Int32} {x1 : Int32}, J 7 = w → po (d_begins_2 n F A J x1) (JQ w) := by
  intro n
  induction n with
  | zero => intro A x1 _ r hr; cases hr
  | succ n ih =>
    intro A x1 h
    unfold d_begins_2
    exact po_cond (fun _ => jm_23 h) (fun _ => po_bl (fun _ _ => ih h))
theorem jm_begins (h : J 7 = w) : po (d_begins n F A J) (JQ w) := jm_begins2 h
theorem jm_322 : ∀ {n : Nat} {A : Nat → Nat → Int32} {x1 : Int32}, J 7 = w → po (d_read_322 n F A J x1) (JQ w) := by
  intro n
  induction n with
  | zero => intro A x1 _ r hr; cases hr
  | succ n ih =>
    intro A x1 h
    unfold d_read_322
    exact po_cond (fun _ => po_some h) (fun _ => po_bl (fun _ _ => ih h))
theorem jm_271 (h : J 7 = w) : po (d_read_271 n F A J s1) (JQ w) := by
  unfold d_read_271
  ((try dsimp only); repeat' (first | exact po_some (by assumption) | (refine po_call (jm_begins (by assumption)) ?_; rintro ⟨_, _, _, _⟩ _; dsimp only) | exact jm_begins (by assumption) | (refine po_call (jm_322 (by assumption)) ?_; rintro ⟨_, _, _, _⟩ _; dsimp only) | exact jm_322 (by assumption) | refine po_cond (fun _ => ?_) (fun _ => ?_) | refine po_bl (fun _ _ => ?_)))
theorem jm_241 (h : J 7 = w) : po (d_read_241 n F A J) (JQ w) := by
  unfold d_read_241
  exact po_cond (fun _ => po_cond (fun _ => jm_271 h) (fun _ => jm_271 h)) (fun _ => jm_271 h)
theorem jm_219 : ∀ {n : Nat} {F : Nat → Int32} {A : Nat → Nat → Int32} {J : Nat → Nat → Int64}, J 7 = w → po (d_read_219 n F A J) (JQ w) := by
  intro n
  induction n with
  | zero => intro F A J _ r hr; cases hr
  | succ n ih =>
    intro F A J h
    unfold d_read_219
    refine po_cond (fun _ => jm_241 h) (fun _ => po_bl (fun _ _ => po_cond (fun _ => jm_241 h) (fun _ => ?_)))
    refine po_call (jm_tell0 h) ?_
    rintro ⟨_, F1, A1, J1⟩ h1
    exact ih h1
end C5m
end Qz122
section Qz123
section C7
variable {JW JK : Nat → Int64} {d n m : Nat} {P : Nat → Nat → Nat} {F F' F0 : Nat → Nat → Int32} {A A' : Nat → Nat → Nat → Int32} {J J' : Nat → Nat → Nat → Int64} {Fm Fm' : Nat → Int32} {Am Am' : Nat → Nat → Int32} {Jm Jm' : Nat → Nat → Int64}
theorem AT.sq {k : Nat} {p : Int} (a : AT JW JK k p F A J Fm Am Jm) (hk : k ≤ 400) (h : ¬ LVm Am k) {b : mR Unit} (g : GF (k + 1) Am Jm b.2.1 b.2.2.1 b.2.2.2) {F1 : Nat → Nat → Int32} : SQ JW JK ((), P, F1, A, J) b := by
  have o := g.2.1
  have o3 : ∀ j, j ≤ k → b.2.2.1 3 j = Am 3 j := fun j hj => (o j (by omega)).1
  have o4 : ∀ j, j ≤ k → b.2.2.1 4 j = Am 4 j := fun j hj => (o j (by omega)).2.1
  refine ⟨k, hk, fun j hj => ?_, fun j hj => ?_, fun j hj => ?_, .inr ?_, a.jw, ?_⟩
  · have t : TR j A J Am Jm := by
      by_cases e : j < k
      · exact (a.tr j e).1
      · have : j = k := by omega
        rw [this]; exact a.tk
    unfold TR at t ⊢
    obtain ⟨q3, q4, q5, q6⟩ := o j (by omega)
    rw [q3, q5, q6]
    exact t
  · unfold LVm
    rw [o3 j (by omega)]
    exact (a.tr j hj).2
  · rw [o4 j (by omega), o4 (j + 1) (by omega)]
    exact a.up j hj
  · unfold LVm
    rw [o3 k (by omega)]
    exact h
  · rw [g.2.2]; exact a.jk
/-- all tokens of a text, on both sides -/
theorem p2_scan (hW : WKx JW JK) : ∀ {n m k : Nat} {p : Int} {F : Nat → Nat → Int32} {A : Nat → Nat → Nat → Int32} {J : Nat → Nat → Nat → Int64} {Fm : Nat → Int32} {Am : Nat → Nat → Int32} {Jm : Nat → Nat → Int64} {x3 x1 : Int32}, SC JW JK k p F A J Fm Am Jm → k ≤ 401 → x3.toInt = k → x1.toInt = p → P2 (e_Scanner_scanAll_9 n P F A J 1 x3) (d_cut_7 m Fm Am Jm x1) (SQ JW JK) := by
  have l400 := i_400
  have l1 := i_1
  have l102 : (102 : Int32).toInt = 102 := by decide
  have l103 : (103 : Int32).toInt = 103 := by decide
  intro n
  induction n with
  | zero => intro m k p F A J Fm Am Jm x3 x1 _ _ _ _ a b ha _; cases ha
  | succ n ih =>
    intro m k p F A J Fm Am Jm x3 x1 S hk h3 h1
    unfold e_Scanner_scanAll_9
    by_cases c : k = 401
    · rw [i_gt.mpr (by rw [l400]; omega), cond_true]
      cases m with
      | zero => intro a b _ hb; cases hb
      | succ m =>
        unfold d_cut_7
        rw [i_gt.mpr (by rw [l400, S.fk]; omega), cond_true]
        exact p2_some ⟨400, Nat.le_refl _, fun j hj => (S.tr j (by omega)).1, fun j hj => (S.tr j (by omega)).2, fun j hj => S.up j (by omega), .inl rfl, S.jw, S.jk⟩
    · have hk4 : k ≤ 400 := by omega
      rw [i_ngt.mpr (by rw [l400]; omega), cond_false, cz_10, cond_false]
      unfold e_Scanner_scanNext
      refine p2_blank hk4 (fun n' m' F' p' x1' S' hx' hb => p2_tok hW hk4 h3 S' hx' hb (fun F2 A2 J2 Fm2 Am2 Jm2 p2 x2 m2 a h2 => ?_) (fun F2 A2 J2 Fm2 Am2 Jm2 p2 a h0 => ?_)) S h1
      · have ik : x3.toInt.toNat = k := by omega
        have e31 := i_add (x := x3) (y := 1) (by omega) (by omega)
        dsimp only
        rw [m_ld_in (by omega) (by omega), Option.bind_some, ik]
        have i0 : (A2 37 2 k).toInt = (102 : Int32).toInt ↔ (Am2 3 k).toInt = 0 := a.tk.1.iff (by decide)
        have i3 : (A2 37 2 k).toInt = (103 : Int32).toInt ↔ (Am2 3 k).toInt = 3 := a.tk.1.iff (by decide)
        by_cases hl : LVm Am2 k
        · rw [i_neq.mpr (fun h => hl.1 (i0.mp h)), cond_false, Option.bind_some, i_neq.mpr (fun h => hl.2 (i3.mp h)), cond_false]
          unfold e_Scanner_scanAll_53
          exact ih (a.sc hl) (by omega) (by omega) h2
        · have stop : P2 (e_Scanner_scanAll_52 (e_Scanner_scanAll_9 n) n P F2 A2 J2 x3) (d_cut_7 m2 Fm2 Am2 Jm2 x2) (SQ JW JK) := by
            refine p2_of (R := fun r => r = ((), P, F2, A2, J2)) ?_ (gf_7 (k0 := k + 1) (A0 := Am2) (J0 := Jm2) ⟨by rw [a.fk]; omega, fun _ _ => ⟨rfl, rfl, rfl, rfl⟩, rfl⟩) ?_
            · unfold e_Scanner_scanAll_52 e_Scanner_scanAll_53
              cases n with
              | zero => intro r hr; cases hr
              | succ n =>
                unfold e_Scanner_scanAll_9
                rw [cz_00]
                refine po_cond (fun _ => po_some rfl) (fun _ => ?_)
                rw [cond_true]
                exact po_some rfl
            · rintro _ b rfl g
              exact a.sq hk4 hl g
          by_cases h0 : (Am2 3 k).toInt = 0
          · rw [i_eq.mpr (i0.mpr h0), cond_true]
            exact stop
          · have h3' : (Am2 3 k).toInt = 3 := Decidable.byContradiction fun h => hl ⟨h0, h⟩
            rw [i_neq.mpr (fun h => h0 (i0.mp h)), cond_false, Option.bind_some, i_eq.mpr (i3.mpr h3'), cond_true]
            exact stop
      · have ik : x3.toInt.toNat = k := by omega
        dsimp only
        rw [m_ld_in (by omega) (by omega), Option.bind_some, ik]
        have i0 : (A2 37 2 k).toInt = (102 : Int32).toInt ↔ (Am2 3 k).toInt = 0 := a.tk.1.iff (by decide)
        rw [i_eq.mpr (i0.mpr h0), cond_true]
        refine p2_of (R := fun r => r = ((), P, F2, A2, J2)) ?_ (S := fun b => b = ((), Fm2, Am2, Jm2)) (po_some rfl) ?_
        · unfold e_Scanner_scanAll_52 e_Scanner_scanAll_53
          cases n with
          | zero => intro r hr; cases hr
          | succ n =>
            unfold e_Scanner_scanAll_9
            rw [cz_00]
            refine po_cond (fun _ => po_some rfl) (fun _ => ?_)
            rw [cond_true]
            exact po_some rfl
        · rintro _ _ rfl rfl
          exact a.sq hk4 (fun h => h.1 h0) ⟨by show ((k + 1 : Nat) : Int) ≤ (Fm2 10).toInt; rw [a.fk]; omega, fun _ _ => ⟨rfl, rfl, rfl, rfl⟩, rfl⟩
def mkT (a : cR Unit) (b : mR Unit) : TS := ⟨a.2.2.2.1 37 2, a.2.2.2.1 37 3, a.2.2.2.1 37 4, a.2.2.2.2 37 5, b.2.2.1 3, b.2.2.1 4, b.2.2.1 5, b.2.2.2 6, a.2.2.2.2 37 6, b.2.2.2 7⟩
theorem SQ.tks {a : cR Unit} {b : mR Unit} (h : SQ JW JK a b) : TKs (mkT a b) := by
  obtain ⟨K0, h0, tr, lv, up, en, -, -⟩ := h
  have le : ∀ i : Nat, i ≤ 400 → (∀ j, j < i → (mkT a b).lv j) → i ≤ K0 := by
    intro i hi h
    refine Nat.le_of_not_lt fun hlt => ?_
    rcases en with e | e
    · omega
    · exact e (h K0 hlt)
  refine ⟨fun i hi h => (tr i (le i hi h)).1, fun i hi h e => (tr i (le i hi h)).2.1 e, fun i hi h e => (tr i (le i hi h)).2.2 e, fun i hi h => up i ?_⟩
  have := le (i + 1) (by omega) (fun j hj => h j (by omega))
  omega
theorem gg_cpp {r k q : Nat} {P' : Nat → Nat → Nat} (h : c_pp P r k q = some P') : P' r k = q ∧ (∀ r' k', ¬ (r' = r ∧ k' = k) → P' r' k' = P r' k') := by
  have z : ok ((c_pp P r k q).bind some) (fun P' => P' r k = q ∧ (∀ r' k', ¬ (r' = r ∧ k' = k) → P' r' k' = P r' k')) := ok_cpp (fun P' a b => ok_some ⟨a, b⟩)
  rw [h] at z
  obtain ⟨a, e, z⟩ := z
  cases e
  exact z
theorem gg_cfi {r o k : Nat} {x : Int32} (h : c_fi A r o k x = some A') : (∀ r' o', ¬ (r' = r ∧ o' = o) → A' r' o' = A r' o') := by
  have z : ok ((c_fi A r o k x).bind some) (fun A' => ∀ r' o', ¬ (r' = r ∧ o' = o) → A' r' o' = A r' o') := ok_cfi (fun A' _ _ c => ok_some c)
  rw [h] at z
  obtain ⟨a, e, z⟩ := z
  cases e
  exact z
theorem hcl_po : po (e_House_clear P F A J d) (fun r => ∃ F' A', r = ((), P, F', A', J) ∧ F' d 13 = 0 ∧ F' d 14 = 0 ∧ F' d 15 = 0 ∧ F' d 16 = 0 ∧ F' d 17 = 0 ∧ (∀ r k, r ≠ d → F' r k = F r k) ∧ (∀ r o, r ≠ d → A' r o = A r o)) := by
  unfold e_House_clear e_Laws_clear
  refine po_bl (fun F1 e1 => po_bl (fun F2 e2 => po_bl (fun F3 e3 => po_bl (fun F4 e4 => po_bl (fun F5 e5 => po_bl (fun F6 e6 => po_bl (fun A7 e7 => ?_)))))))
  have u1 := gg_cpf e1
  have u2 := gg_cpf e2
  have u3 := gg_cpf e3
  have u4 := gg_cpf e4
  have u5 := gg_cpf e5
  have u6 := gg_cpf e6
  have v7 := gg_cfi e7
  rw [Option.bind_assoc]
  refine po_bl (fun F8 e8 => ?_)
  have u8 := gg_cpf e8
  rw [Option.bind_assoc]
  refine po_bl (fun A9 e9 => ?_)
  have v9 := gg_cfi e9
  rw [Option.bind_some]
  refine po_some ⟨F8, A9, rfl, ?_, ?_, ?_, ?_, ?_, ?_, ?_⟩
  · rw [u8.2 d 13 (by simp), u6.2 d 13 (by simp), u5.2 d 13 (by simp), u4.2 d 13 (by simp), u3.2 d 13 (by simp), u2.2 d 13 (by simp), u1.1]
  · rw [u8.2 d 14 (by simp), u6.2 d 14 (by simp), u5.2 d 14 (by simp), u4.2 d 14 (by simp), u3.2 d 14 (by simp), u2.1]
  · rw [u8.2 d 15 (by simp), u6.2 d 15 (by simp), u5.2 d 15 (by simp), u4.2 d 15 (by simp), u3.1]
  · rw [u8.2 d 16 (by simp), u6.2 d 16 (by simp), u5.2 d 16 (by simp), u4.1]
  · rw [u8.2 d 17 (by simp), u6.2 d 17 (by simp), u5.1]
  · intro r k h
    rw [u8.2 r k (fun e => h e.1), u6.2 r k (fun e => h e.1), u5.2 r k (fun e => h e.1), u4.2 r k (fun e => h e.1), u3.2 r k (fun e => h e.1), u2.2 r k (fun e => h e.1), u1.2 r k (fun e => h e.1)]
  · intro r o h
    rw [v9 r o (fun e => h e.1), v7 r o (fun e => h e.1)]
theorem scl_po {q : Nat} : po (e_State_clear P F A J q) (fun r => ∃ F' A', r = ((), P, F', A', J) ∧ (∀ r k, r ≠ q → F' r k = F r k) ∧ (∀ r o, r ≠ q → A' r o = A r o)) := by
  unfold e_State_clear
  refine po_bl (fun A1 e1 => po_bl (fun A2 e2 => po_bl (fun A3 e3 => po_bl (fun A4 e4 => po_bl (fun A5 e5 => po_bl (fun A6 e6 => po_bl (fun A7 e7 => po_bl (fun F8 e8 => po_bl (fun F9 e9 => po_some ⟨F9, A7, rfl, fun r k h => ?_, fun r o h => ?_⟩)))))))))
  · rw [(gg_cpf e9).2 r k (fun e => h e.1), (gg_cpf e8).2 r k (fun e => h e.1)]
  · rw [gg_cfi e7 r o (fun e => h e.1), gg_cfi e6 r o (fun e => h e.1), gg_cfi e5 r o (fun e => h e.1), gg_cfi e4 r o (fun e => h e.1), gg_cfi e3 r o (fun e => h e.1), gg_cfi e2 r o (fun e => h e.1), gg_cfi e1 r o (fun e => h e.1)]
/-- what the class has before it reads sentences -/
def FOp (d : Nat) (a : cR Unit) : Prop := a.2.2.1 37 7 = 0 ∧ a.2.2.1 37 9 = 0 ∧ a.2.2.1 37 10 = 0 ∧ a.2.2.1 37 12 = 0 ∧ (∀ q, q < 4 → a.2.2.1 d (cq q) = 0) ∧ a.2.2.1 d 14 = 0
theorem p2_open (hW : WKx JW JK) (hk : c_kind d = 6) (R : Rc F A) (sz : F 1 1 = Fm 4) (s0 : 0 ≤ (Fm 4).toInt) (s1 : (Fm 4).toInt ≤ 2000) (bt : BTx A Fm Am) (jw : J 37 6 = JW) (jk : Jm 7 = JK) (hn : 5200 ≤ n) : P2 (e_Reader_open n P F A J d 3) (d_cut m Fm Am Jm) (fun a b => SQ JW JK a b ∧ FOp d a) := by
  have hd := kd37 hk
  have hd3 := kd3 hk
  have hd1 : d ≠ 1 := fun e => absurd hk (by rw [e]; decide)
  unfold e_Reader_open d_cut
  refine p2_bl (fun P1 p1 => p2_bl (fun P2 p2 => ?_))
  have q1 := gg_cpp p1
  have q2 := gg_cpp p2
  have x5 : P2 37 5 = d := (q2.2 37 5 (by simp)).trans q1.1
  have x6 : P2 37 6 = 3 := q2.1
  refine p2_bl (fun q3 h3 => ?_)
  have e3 : q3 = d := (gg_chk h3).2.trans x5
  subst e3
  refine p2_bl (fun r3 hr3 => ?_)
  have R3 := ((s_houseClear hk R).po r3 hr3).2.2.2.1
  obtain ⟨F3, A3, rfl, z13, z14, z15, z16, z17, f3, a3⟩ := hcl_po r3 hr3
  dsimp only at R3 ⊢
  refine p2_bl (fun q9 h9 => ?_)
  have e9 : q9 = 3 := (gg_chk h9).2.trans x6
  subst e9
  refine p2_bl (fun r4 hr4 => ?_)
  have R4 := ((s_clear (r0 := 3) (by decide) R3).po r4 hr4).2.2.2.1
  obtain ⟨F4, A4, rfl, f4, a4⟩ := scl_po r4 hr4
  dsimp only at R4 ⊢
  refine p2_bl (fun F5 e5 => p2_bl (fun F6 e6 => p2_bl (fun F7 e7 => p2_bl (fun F8 e8 => p2_bl (fun F9 e9 => ?_)))))
  have u5 := gg_cpf e5
  have u6 := gg_cpf e6
  have u7 := gg_cpf e7
  have u8 := gg_cpf e8
  have u9 := gg_cpf e9
  have f37 : ∀ r k, r ≠ 37 → F9 r k = F4 r k := fun r k h => by rw [u9.2 r k (fun e => h e.1), u8.2 r k (fun e => h e.1), u7.2 r k (fun e => h e.1), u6.2 r k (fun e => h e.1), u5.2 r k (fun e => h e.1)]
  have w7 : F9 37 7 = 0 := by rw [u9.2 37 7 (by decide), u8.2 37 7 (by decide), u7.2 37 7 (by decide), u6.2 37 7 (by decide), u5.1]
  have w9 : F9 37 9 = 0 := by rw [u9.2 37 9 (by decide), u8.2 37 9 (by decide), u7.1]
  have w10 : F9 37 10 = 0 := by rw [u9.2 37 10 (by decide), u8.1]
  have w12 : F9 37 12 = 0 := u9.1
  have wd : ∀ k, F9 q3 k = F3 q3 k := fun k => by rw [f37 q3 k hd, f4 q3 k hd3]
  have w11 : F9 1 1 = F 1 1 := by rw [f37 1 1 (by decide), f4 1 1 (by decide), f3 1 1 (Ne.symm hd1)]
  have b11 : A4 1 1 = A 1 1 := by rw [a4 1 1 (by decide), a3 1 1 (Ne.symm hd1)]
  have eta : ((e_Scanner_scanAll n P2 F9 A4 J).bind fun (x : cR Unit) => match x with | (_, P21, F22, A23, J24) => some ((), P21, F22, A23, J24)) = e_Scanner_scanAll n P2 F9 A4 J := by
    cases e_Scanner_scanAll n P2 F9 A4 J with
    | none => rfl
    | some r => rfl
  rw [eta]
  unfold e_Scanner_scanAll
  refine p2_bl (fun F10 e10 => ?_)
  have u10 := gg_cpf e10
  refine p2_br (fun Fm1 m1 => ?_)
  have v1 := gg_pf m1
  have e4 : Fm1 4 = Fm 4 := v1.2 4 (by decide)
  have S0 : SC JW JK 0 0 F10 A4 J Fm1 Am Jm := by
    refine ⟨by rw [u10.2 1 1 (by decide), w11, e4]; exact sz, by rw [e4]; exact s0, by rw [e4]; exact s1, fun i hi => ?_, by rw [u10.1]; decide, by decide, by rw [e4]; exact s0, by rw [v1.1]; decide, jw, jk, fun j hj => absurd hj (by omega), fun j hj => absurd hj (by omega), fun j hj => absurd hj (by omega)⟩
    rw [e4] at hi
    rw [b11]
    exact bt i hi
  have R9 : Rc F9 A4 := ((((R4.pf u5 (show 0 ≤ (0 : Int32).toInt ∧ (0 : Int32).toInt ≤ 400 by decide)).pf u6 (show 0 ≤ (0 : Int32).toInt ∧ (0 : Int32).toInt ≤ 400 by decide)).pf u7 (show 0 ≤ (0 : Int32).toInt ∧ (0 : Int32).toInt ≤ 8 by decide)).pf u8 trivial).pf u9 trivial
  have R10 : Rc F10 A4 := R9.pf u10 (show 0 ≤ (0 : Int32).toInt ∧ (0 : Int32).toInt ≤ 2000 by decide)
  refine p2_mono (p2_okl (s_scanAll_9 R10 (by decide) (by rw [i_0]; omega)) (p2_scan hW S0 (by omega) (by decide) (by decide))) (fun a b h => ⟨h.1, ?_⟩)
  obtain ⟨-, fr, -, -⟩ := h.2
  have g : ∀ r k, ¬ (r = 37 ∧ k = 105) → a.2.2.1 r k = F9 r k := fun r k hh => (fr r k hh).trans (u10.2 r k hh)
  refine ⟨by rw [g 37 7 (by decide), w7], by rw [g 37 9 (by decide), w9], by rw [g 37 10 (by decide), w10], by rw [g 37 12 (by decide), w12], fun q hq => ?_, by rw [g q3 14 (fun e => hd e.1), wd, z14]⟩
  rw [g q3 (cq q) (fun e => hd e.1), wd]
  rcases (by omega : q = 0 ∨ q = 1 ∨ q = 2 ∨ q = 3) with h | h | h | h <;> subst h
  · exact z13
  · exact z15
  · exact z16
  · exact z17
end C7
end Qz123
section Qz124
section C8
variable {γ : Type} {F F0 : Nat → Int32} {A A0 A1 : Nat → Nat → Int32} {J : Nat → Nat → Int64} {l s : Int}
theorem p2r_pf {x : Option γ} {Q : γ → mR Int32 → Prop} {k : Nat} {v : Int32} {g : (Nat → Int32) → Option (mR Int32)} (hF : IFm F) (hx : rF k v.toInt) (kk : ∀ F', IFm F' → F' k = v → (∀ q, q ≠ k → F' q = F q) → P2 x (g F') Q) : P2 x ((m_pf F k v).bind g) Q :=
  p2_br (fun F' e => kk F' (by cases e; exact hF.put hx) (gg_pf e).1 (gg_pf e).2)
theorem p2r_st {x : Option γ} {Q : γ → mR Int32 → Prop} {A : Nat → Nat → Int32} {j n : Nat} {i v : Int32} {g : (Nat → Nat → Int32) → Option (mR Int32)} (hA : IAm A) (h0 : 0 ≤ i.toInt) (h1 : i.toInt < (n : Int)) (hx : rA j i.toInt v.toInt) (k : ∀ A', IAm A' → (∀ q, q ≠ j → A' q = A q) → ai A' j i.toInt = v.toInt → (∀ q, 0 ≤ q → q ≠ i.toInt → ai A' j q = ai A j q) → P2 x (g A') Q) : P2 x ((m_st A j n i v).bind g) Q := by
  refine p2_br (fun A' e => ?_)
  have a := gg_st e
  refine k A' ?_ a.2.2.1 a.2.2.2.1 a.2.2.2.2
  unfold m_st at e
  rw [if_neg (i_in h0 h1)] at e
  cases e
  exact hA.put h0 hx
theorem w_177 {x : Option γ} {Q : γ → mR Int32 → Prop} (hs : 0 ≤ s ∧ s ≤ 1 ∧ s = 1 - l) (e0 : (F0 18).toInt = l) (hF : IFm F) (f18 : F 18 = F0 18) (e19 : (F 19).toInt = s) (z11 : (F 11).toInt = 0) (z12 : (F 12).toInt = 0) (z13 : (F 13).toInt = 0) (z15 : (F 15).toInt = 0) (z20 : (F 20).toInt = 0) (z49 : (F 49).toInt = 50 * s) (z56 : (F 56).toInt = 420 * s)
    (ks : ∀ (n' : Nat) (A' : Nat → Nat → Int32), IAm A' → (∀ q, q = 11 ∨ q = 12 ∨ q = 17 ∨ q = 19 ∨ q = 29 ∨ q = 33 → ai A' q s = 0) → (∀ q, q < 34 ∨ q = 41 → A' q = A1 q) → 1502 < (n' : Int) → (∀ k, 0 ≤ k → k < 6 → ai A' 34 (6 * s + k) = 0 ∧ ai A' 35 (6 * s + k) = 0) → RDm l s F F A0 A' → P2 x (d_read_219 n' F A' J) Q) : ∀ {n : Nat} {A : Nat → Nat → Int32} {x1 : Int32}, IAm A → (∀ q, q < 34 ∨ q = 41 → A q = A1 q) → LSm l A0 A → (∀ q, q = 11 ∨ q = 12 ∨ q = 17 ∨ q = 19 ∨ q = 29 ∨ q = 33 → ai A q s = 0) → (∀ q, 45 ≤ q → A q = A0 q) → (∀ k, 0 ≤ k → k < x1.toInt → ai A 34 (6 * s + k) = 0 ∧ ai A 35 (6 * s + k) = 0) → 0 ≤ x1.toInt ∧ x1.toInt ≤ 6 → 1510 - x1.toInt < (n : Int) → P2 x (d_read_177 n F A J x1) Q := by
  intro n
  induction n with
  | zero => intro A x1 hA kp L z o lw hx hn; exact absurd hn (by omega)
  | succ n ih =>
    intro A x1 hA kp L z o lw hx hn
    have l1 : (1 : Int32).toInt = 1 := by decide
    have l6 : (6 : Int32).toInt = 6 := by decide
    have l0 : (0 : Int32).toInt = 0 := by decide
    unfold d_read_177
    refine p2_cr (fun c => ?_) (fun c => ?_)
    · rw [i_ge] at c
      have zA := z 11 (by omega)
      have zB := z 12 (by omega)
      have zC := z 17 (by omega)
      have zD := z 19 (by omega)
      have zE := z 29 (by omega)
      have zG := z 33 (by omega)
      refine ks n A hA z (fun q hq => kp q hq) (by omega) (fun k k0 k1 => lw k k0 (by omega)) ⟨hF, hA, by rw [f18]; exact e0, e19, ⟨fun q h0 h1 => absurd h1 (by omega), ?_⟩, L, ⟨by omega, by omega, .inr ⟨z12, by omega⟩⟩, .inr (by omega), .inr ⟨by omega, fun b p q => absurd q (by omega), fun m m0 m1 b p q => ?_⟩, .inr (.inr ⟨fun d h0 h1 => absurd h1 (by omega), fun t h0 h1 => absurd h1 (by omega), fun t q h0 h1 => absurd h1 (by omega), fun m h0 h1 => absurd h1 (by omega)⟩), fun _ _ => rfl, o⟩
      · unfold CTm
        rw [e19]
        omega
      · have := lw m m0 (by omega)
        omega
    · rw [i_nge] at c
      have e1 := i_mulL (c := 6) (k := 6) (x := F 19) (by decide) (by omega) (by omega)
      have e2 := i_add (x := 6 * F 19) (y := x1) (by omega) (by omega)
      have e3 := i_add (x := x1) (y := 1) (by omega) (by omega)
      refine p2r_st (j := 34) hA (by omega) (by omega) (show 0 ≤ (0 : Int32).toInt ∧ (0 : Int32).toInt ≤ 100 by decide) ?_
      intro A2 a2 o2 s2 n2
      refine p2r_st (j := 35) a2 (by omega) (by omega) (show 0 ≤ (0 : Int32).toInt ∧ (0 : Int32).toInt ≤ 100 by decide) ?_
      intro A3 a3 o3 s3 n3
      have zz : (6 * F 19 + x1).toInt = 6 * s + x1.toInt := by omega
      rw [zz] at s2 n2 s3 n3
      have L2 : LSm l A0 A2 := L.st (by omega) 6 rfl o2 n2 ⟨by omega, by omega⟩ (by omega)
      have L3 : LSm l A0 A3 := L2.st (by omega) 6 rfl o3 n3 ⟨by omega, by omega⟩ (by omega)
      refine ih a3 (fun q hq => (o3 q (by omega)).trans ((o2 q (by omega)).trans (kp q hq))) L3 (fun q hq => by rw [ai_fr (o3 q (by omega)), ai_fr (o2 q (by omega))]; exact z q hq) (fun q hq => (o3 q (by omega)).trans ((o2 q (by omega)).trans (o q hq))) (fun k h0 h1 => ?_) (by omega) (by omega)
      rw [ai_fr (o3 34 (by decide))]
      by_cases e : k = x1.toInt
      · rw [e]
        exact ⟨s2.trans l0, s3.trans l0⟩
      · rw [n2 _ (by omega) (by omega), n3 _ (by omega) (by omega), ai_fr (o2 35 (by decide))]
        exact lw k h0 (by omega)
/-- the reference, behind its tokens -/
def rbody (n : Nat) (F5 : Nat → Int32) (A6 : Nat → Nat → Int32) (J7 : Nat → Nat → Int64) : Option (mR Int32) :=
    (m_pf F5 11 0).bind fun F8 =>
    (m_pf F8 12 0).bind fun F9 =>
    (m_pf F9 13 0).bind fun F10 =>
    (m_pf F10 15 0).bind fun F11 =>
    (m_pf F11 19 (1 - (F11 18))).bind fun F12 =>
    (m_pf F12 20 0).bind fun F13 =>
    (m_st A6 11 2 (F13 19) 0).bind fun A14 =>
    (m_st A14 12 2 (F13 19) 0).bind fun A15 =>
    (m_st A15 17 2 (F13 19) 0).bind fun A16 =>
    (m_st A16 19 2 (F13 19) 0).bind fun A17 =>
    (m_st A17 29 2 (F13 19) 0).bind fun A18 =>
    (m_st A18 33 2 (F13 19) 0).bind fun A19 =>
    (m_st A19 41 2 (F13 19) 480).bind fun A20 =>
    (m_pf F13 49 (50 * (F13 19))).bind fun F21 =>
    (m_pf F21 56 (420 * (F21 19))).bind fun F22 =>
    d_read_177 n F22 A20 J7 0
theorem w_body {x : Option γ} {Q : γ → mR Int32 → Prop} {n : Nat} {F5 : Nat → Int32} {A5 : Nat → Nat → Int32} (b5 : IFm F5) (a5 : IAm A5) (p5 : ∀ q, q ∉ ([10] : List Nat) → F5 q = F q) (o5 : ∀ q, q ∉ ([3, 4, 5] : List Nat) → A5 q = A q) (o : ∀ q, q ≠ 2 → A q = A0 q) (r18 : 0 ≤ (F 18).toInt ∧ (F 18).toInt ≤ 1) (hn : 1600 ≤ n)
    (ks : ∀ (n' : Nat) (F' : Nat → Int32) (A' : Nat → Nat → Int32), RDm (F 18).toInt (1 - (F 18).toInt) F' F' A0 A' → 1502 < (n' : Int) → (F' 11).toInt = 0 → (F' 13).toInt = 0 → (F' 15).toInt = 0 → (F' 12).toInt = 0 → (F' 20).toInt = 0 → (F' 19).toInt = 1 - (F 18).toInt → (∀ q, q ∉ ([10, 11, 12, 13, 15, 19, 20, 49, 56] : List Nat) → F' q = F q) → (∀ q, q = 11 ∨ q = 12 ∨ q = 17 ∨ q = 19 ∨ q = 29 ∨ q = 33 → ai A' q (1 - (F 18).toInt) = 0) → (∀ q, q < 34 → q ∉ ([11, 12, 17, 19, 29, 33, 41] : List Nat) → A' q = A5 q) → ai A' 41 (1 - (F 18).toInt) = 480 → (∀ k, 0 ≤ k → k < 6 → ai A' 34 (6 * (1 - (F 18).toInt) + k) = 0 ∧ ai A' 35 (6 * (1 - (F 18).toInt) + k) = 0) → P2 x (d_read_219 n' F' A' J) Q) : P2 x (rbody n F5 A5 J) Q := by
  have l1 : (1 : Int32).toInt = 1 := by decide
  have l0 : (0 : Int32).toInt = 0 := by decide
  unfold rbody
  refine p2r_pf b5 (show 0 ≤ (0 : Int32).toInt ∧ (0 : Int32).toInt ≤ 400 by decide) ?_
  intro F6 b6 k6 p6
  refine p2r_pf b6 (show 0 ≤ (0 : Int32).toInt ∧ (0 : Int32).toInt ≤ 7 by decide) ?_
  intro F7 b7 k7 p7
  refine p2r_pf b7 (show 0 ≤ (0 : Int32).toInt ∧ (0 : Int32).toInt ≤ 5 by decide) ?_
  intro F8 b8 k8 p8
  refine p2r_pf b8 (show 0 ≤ (0 : Int32).toInt ∧ (0 : Int32).toInt ≤ 5 by decide) ?_
  intro F9 b9 k9 p9
  have g18 : F9 18 = F 18 := (p9 18 (by decide)).trans ((p8 18 (by decide)).trans ((p7 18 (by decide)).trans ((p6 18 (by decide)).trans ((p5 18 (by decide)).trans rfl))))
  have e1 := i_sub (x := 1) (y := F9 18) (by rw [g18]; omega) (by rw [g18]; omega)
  rw [g18] at e1
  refine p2r_pf b9 (show 0 ≤ (1 - F9 18).toInt ∧ (1 - F9 18).toInt ≤ 1 by rw [g18]; omega) ?_
  intro F10 b10 k10 p10
  refine p2r_pf b10 (show 0 ≤ (0 : Int32).toInt ∧ (0 : Int32).toInt ≤ 32 by decide) ?_
  intro F11 b11 k11 p11
  have x19 : (F11 19).toInt = 1 - (F 18).toInt := by rw [p11 19 (by decide), k10, g18]; omega
  refine p2r_st (j := 11) a5 (by omega) (by omega) (show 0 ≤ (0 : Int32).toInt ∧ (0 : Int32).toInt ≤ 8 by decide) ?_
  intro A6 a6 o6 s6 n6
  refine p2r_st (j := 12) a6 (by omega) (by omega) (show 0 ≤ (0 : Int32).toInt ∧ (0 : Int32).toInt ≤ 12 by decide) ?_
  intro A7 a7 o7 s7 n7
  refine p2r_st (j := 17) a7 (by omega) (by omega) (show 0 ≤ (0 : Int32).toInt ∧ (0 : Int32).toInt ≤ 6 by decide) ?_
  intro A8 a8 o8 s8 n8
  refine p2r_st (j := 19) a8 (by omega) (by omega) (show 0 ≤ (0 : Int32).toInt ∧ (0 : Int32).toInt ≤ 6 by decide) ?_
  intro A9 a9 o9 s9 n9
  refine p2r_st (j := 29) a9 (by omega) (by omega) (show 0 ≤ (0 : Int32).toInt ∧ (0 : Int32).toInt ≤ 6 by decide) ?_
  intro A10 a10 o10 s10 n10
  refine p2r_st (j := 33) a10 (by omega) (by omega) (show 0 ≤ (0 : Int32).toInt ∧ (0 : Int32).toInt ≤ 8 by decide) ?_
  intro A11 a11 o11 s11 n11
  refine p2r_st (j := 41) a11 (by omega) (by omega) (show 0 ≤ (480 : Int32).toInt ∧ (480 : Int32).toInt ≤ 9999 by decide) ?_
  intro A12 a12 o12 s12 n12
  have e2 := i_mulL (c := 50) (k := 50) (x := F11 19) (by decide) (by omega) (by omega)
  refine p2r_pf b11 (show 0 ≤ (50 * F11 19).toInt ∧ (50 * F11 19).toInt ≤ 100 by omega) ?_
  intro F12 b12 k12 p12
  have y19 : (F12 19).toInt = 1 - (F 18).toInt := by rw [p12 19 (by decide)]; exact x19
  have e3 := i_mulL (c := 420) (k := 420) (x := F12 19) (by decide) (by omega) (by omega)
  refine p2r_pf b12 (show 0 ≤ (420 * F12 19).toInt ∧ (420 * F12 19).toInt ≤ 840 by omega) ?_
  intro F13 b13 k13 p13
  have L5 : LSm (F 18).toInt A0 A5 := ((LSm.rfl' (F 18).toInt A0).fr [2] (fun q hq => o q (fun e => hq (by rw [e]; decide))) (by decide)).fr [3, 4, 5] o5 (by decide)
  have L6 := L5.st r18.1 1 rfl o6 n6 ⟨by omega, by omega⟩ (by omega)
  have L7 := L6.st r18.1 1 rfl o7 n7 ⟨by omega, by omega⟩ (by omega)
  have L8 := L7.st r18.1 1 rfl o8 n8 ⟨by omega, by omega⟩ (by omega)
  have L9 := L8.st r18.1 1 rfl o9 n9 ⟨by omega, by omega⟩ (by omega)
  have L10 := L9.st r18.1 1 rfl o10 n10 ⟨by omega, by omega⟩ (by omega)
  have L11 := L10.st r18.1 1 rfl o11 n11 ⟨by omega, by omega⟩ (by omega)
  have L12 := L11.st r18.1 1 rfl o12 n12 ⟨by omega, by omega⟩ (by omega)
  have fr : ∀ q, q ∉ ([11, 12, 13, 15, 19, 20, 49, 56] : List Nat) → F13 q = F5 q := fun q hq => (p13 q (fun e => hq (by rw [e]; decide))).trans ((p12 q (fun e => hq (by rw [e]; decide))).trans ((p11 q (fun e => hq (by rw [e]; decide))).trans ((p10 q (fun e => hq (by rw [e]; decide))).trans ((p9 q (fun e => hq (by rw [e]; decide))).trans ((p8 q (fun e => hq (by rw [e]; decide))).trans ((p7 q (fun e => hq (by rw [e]; decide))).trans (p6 q (fun e => hq (by rw [e]; decide)))))))))
  have oA : ∀ q, q ∉ ([11, 12, 17, 19, 29, 33, 41] : List Nat) → A12 q = A5 q := fun q hq => (o12 q (fun e => hq (by rw [e]; decide))).trans ((o11 q (fun e => hq (by rw [e]; decide))).trans ((o10 q (fun e => hq (by rw [e]; decide))).trans ((o9 q (fun e => hq (by rw [e]; decide))).trans ((o8 q (fun e => hq (by rw [e]; decide))).trans ((o7 q (fun e => hq (by rw [e]; decide))).trans (o6 q (fun e => hq (by rw [e]; decide))))))))
  rw [x19, l0] at s6 s7 s8 s9 s10 s11
  have v11 : ai A12 11 (1 - (F 18).toInt) = 0 := by rw [ai_fr (o12 11 (by decide)), ai_fr (o11 11 (by decide)), ai_fr (o10 11 (by decide)), ai_fr (o9 11 (by decide)), ai_fr (o8 11 (by decide)), ai_fr (o7 11 (by decide))]; exact s6
  have v12 : ai A12 12 (1 - (F 18).toInt) = 0 := by rw [ai_fr (o12 12 (by decide)), ai_fr (o11 12 (by decide)), ai_fr (o10 12 (by decide)), ai_fr (o9 12 (by decide)), ai_fr (o8 12 (by decide))]; exact s7
  have v17 : ai A12 17 (1 - (F 18).toInt) = 0 := by rw [ai_fr (o12 17 (by decide)), ai_fr (o11 17 (by decide)), ai_fr (o10 17 (by decide)), ai_fr (o9 17 (by decide))]; exact s8
  have v19 : ai A12 19 (1 - (F 18).toInt) = 0 := by rw [ai_fr (o12 19 (by decide)), ai_fr (o11 19 (by decide)), ai_fr (o10 19 (by decide))]; exact s9
  have v29 : ai A12 29 (1 - (F 18).toInt) = 0 := by rw [ai_fr (o12 29 (by decide)), ai_fr (o11 29 (by decide))]; exact s10
  have v33 : ai A12 33 (1 - (F 18).toInt) = 0 := by rw [ai_fr (o12 33 (by decide))]; exact s11
  refine w_177 (F0 := F) (A1 := A12) (l := (F 18).toInt) (s := 1 - (F 18).toInt) ⟨by omega, by omega, rfl⟩ rfl b13 ?_ ?_ ?_ ?_ ?_ ?_ ?_ ?_ ?_ (fun n' A' hA' hz hq hn' lw D => ks n' F13 A' D hn' ?_ ?_ ?_ ?_ ?_ ?_ ?_ hz (fun q h1 h2 => ?_) ?_ lw) a12 (fun _ _ => rfl) L12 ?_ ?_ (fun k h0 h1 => absurd h1 (by omega)) (by decide) (by omega)
  · exact (fr 18 (by decide)).trans ((p5 18 (by decide)).trans rfl)
  · rw [p13 19 (by decide)]; exact y19
  · rw [p13 11 (by decide), p12 11 (by decide), p11 11 (by decide), p10 11 (by decide), p9 11 (by decide), p8 11 (by decide), p7 11 (by decide), k6]; exact l0
  · rw [p13 12 (by decide), p12 12 (by decide), p11 12 (by decide), p10 12 (by decide), p9 12 (by decide), p8 12 (by decide), k7]; exact l0
  · rw [p13 13 (by decide), p12 13 (by decide), p11 13 (by decide), p10 13 (by decide), p9 13 (by decide), k8]; exact l0
  · rw [p13 15 (by decide), p12 15 (by decide), p11 15 (by decide), p10 15 (by decide), k9]; exact l0
  · rw [p13 20 (by decide), p12 20 (by decide), k11]; exact l0
  · rw [p13 49 (by decide), k12]; omega
  · rw [k13]; omega
  · rw [p13 11 (by decide), p12 11 (by decide), p11 11 (by decide), p10 11 (by decide), p9 11 (by decide), p8 11 (by decide), p7 11 (by decide), k6]; exact l0
  · rw [p13 13 (by decide), p12 13 (by decide), p11 13 (by decide), p10 13 (by decide), p9 13 (by decide), k8]; exact l0
  · rw [p13 15 (by decide), p12 15 (by decide), p11 15 (by decide), p10 15 (by decide), k9]; exact l0
  · rw [p13 12 (by decide), p12 12 (by decide), p11 12 (by decide), p10 12 (by decide), p9 12 (by decide), p8 12 (by decide), k7]; exact l0
  · rw [p13 20 (by decide), p12 20 (by decide), k11]; exact l0
  · rw [p13 19 (by decide)]; exact y19
  · intro q hq
    exact (fr q (fun e => hq ((by decide : ∀ x, x ∈ ([11, 12, 13, 15, 19, 20, 49, 56] : List Nat) → x ∈ ([10, 11, 12, 13, 15, 19, 20, 49, 56] : List Nat)) q e))).trans (p5 q (fun e => hq (by rw [List.mem_singleton.mp e]; decide)))
  · exact (hq q (.inl h1)).trans (oA q h2)
  · rw [ai_fr (hq 41 (.inr rfl)), ← x19]; exact s12
  · intro q hq
    rcases hq with rfl | rfl | rfl | rfl | rfl | rfl
    · exact v11
    · exact v12
    · exact v17
    · exact v19
    · exact v29
    · exact v33
  · intro q hq
    exact (oA q (by simp; omega)).trans ((o5 q (by simp; omega)).trans (o q (by omega)))
end C8
end Qz124
section Qz125
/-! what the class's reader begins with -/
section C8z
variable {d r o n : Nat} {P P' : Nat → Nat → Nat} {F F' : Nat → Nat → Int32} {A A' : Nat → Nat → Nat → Int32} {J : Nat → Nat → Nat → Int64} {x : Int32}
theorem gg_cfv (h : c_fi A r o n x = some A') : (∀ j, 0 ≤ j → j < (n : Int) → ci A' r o j = x.toInt) ∧ (∀ r' o', ¬ (r' = r ∧ o' = o) → A' r' o' = A r' o') := by
  have z : ok ((c_fi A r o n x).bind some) (fun A' => (∀ j, 0 ≤ j → j < (n : Int) → ci A' r o j = x.toInt) ∧ (∀ r' o', ¬ (r' = r ∧ o' = o) → A' r' o' = A r' o')) := ok_cfi (fun A' a b c => ok_some ⟨a, c⟩)
  rw [h] at z
  obtain ⟨a, e, z⟩ := z
  cases e
  exact z
/-- a state that holds nothing -/
def CLv (r : Nat) (F : Nat → Nat → Int32) (A : Nat → Nat → Nat → Int32) : Prop := (∀ k : Int, 0 ≤ k → k < 36 → ci A r 1 k = 0) ∧ (∀ k : Int, 0 ≤ k → k < 6 → ci A r 2 k = 0 ∧ ci A r 3 k = -1 ∧ ci A r 4 k = 0 ∧ ci A r 5 k = 0 ∧ ci A r 6 k = 0 ∧ ci A r 7 k = -2) ∧ F r 7 = 0 ∧ F r 8 = 0
theorem CLv.fr (h : CLv r F A) (hF : ∀ k, F' r k = F r k) (hA : ∀ o, A' r o = A r o) : CLv r F' A' := by
  unfold CLv
  rw [hF, hF, ci_fr (hA 1), ci_fr (hA 2), ci_fr (hA 3), ci_fr (hA 4), ci_fr (hA 5), ci_fr (hA 6), ci_fr (hA 7)]
  exact h
theorem v_clear : po (e_State_clear P F A J r) (fun z => CLv r z.2.2.1 z.2.2.2.1) := by
  have l0 := i_0
  have lm1 : ((-1 : Int32)).toInt = -1 := by decide
  have lm2 : ((-2 : Int32)).toInt = -2 := by decide
  unfold e_State_clear
  refine po_bl (fun A1 h1 => po_bl (fun A2 h2 => po_bl (fun A3 h3 => po_bl (fun A4 h4 => po_bl (fun A5 h5 => po_bl (fun A6 h6 => po_bl (fun A7 h7 => po_bl (fun F8 h8 => po_bl (fun F9 h9 => po_some ?_)))))))))
  have a1 := gg_cfv h1
  have a2 := gg_cfv h2
  have a3 := gg_cfv h3
  have a4 := gg_cfv h4
  have a5 := gg_cfv h5
  have a6 := gg_cfv h6
  have a7 := gg_cfv h7
  have u8 := gg_cpf h8
  have u9 := gg_cpf h9
  have r1 : A7 r 1 = A1 r 1 := by rw [a7.2 r 1 (by omega), a6.2 r 1 (by omega), a5.2 r 1 (by omega), a4.2 r 1 (by omega), a3.2 r 1 (by omega), a2.2 r 1 (by omega)]
  have r2 : A7 r 2 = A2 r 2 := by rw [a7.2 r 2 (by omega), a6.2 r 2 (by omega), a5.2 r 2 (by omega), a4.2 r 2 (by omega), a3.2 r 2 (by omega)]
  have r3 : A7 r 3 = A3 r 3 := by rw [a7.2 r 3 (by omega), a6.2 r 3 (by omega), a5.2 r 3 (by omega), a4.2 r 3 (by omega)]
  have r4 : A7 r 4 = A4 r 4 := by rw [a7.2 r 4 (by omega), a6.2 r 4 (by omega), a5.2 r 4 (by omega)]
  have r5 : A7 r 5 = A5 r 5 := by rw [a7.2 r 5 (by omega), a6.2 r 5 (by omega)]
  have r6 : A7 r 6 = A6 r 6 := a7.2 r 6 (by omega)
  refine ⟨fun k k0 k1 => ?_, fun k k0 k1 => ⟨?_, ?_, ?_, ?_, ?_, ?_⟩, ?_, u9.1⟩
  · show ci A7 r 1 k = 0
    rw [ci_fr r1, a1.1 k k0 k1, l0]
  · show ci A7 r 2 k = 0
    rw [ci_fr r2, a2.1 k k0 k1, l0]
  · show ci A7 r 3 k = -1
    rw [ci_fr r3, a3.1 k k0 k1, lm1]
  · show ci A7 r 4 k = 0
    rw [ci_fr r4, a4.1 k k0 k1, l0]
  · show ci A7 r 5 k = 0
    rw [ci_fr r5, a5.1 k k0 k1, l0]
  · show ci A7 r 6 k = 0
    rw [ci_fr r6, a6.1 k k0 k1, l0]
  · show ci A7 r 7 k = -2
    rw [a7.1 k k0 k1, lm2]
  · show F9 r 7 = 0
    rw [u9.2 r 7 (by omega), u8.1]
theorem v_hclear : po (e_House_clear P F A J r) (fun z => (∀ k : Int, 0 ≤ k → k < 6 → ci z.2.2.2.1 r 14 k = -1) ∧ z.2.2.1 r 1304 = 0) := by
  have lm1 : ((-1 : Int32)).toInt = -1 := by decide
  unfold e_House_clear e_Laws_clear
  refine po_bl (fun F1 h1 => po_bl (fun F2 h2 => po_bl (fun F3 h3 => po_bl (fun F4 h4 => po_bl (fun F5 h5 => po_bl (fun F6 h6 => po_bl (fun A7 h7 => ?_)))))))
  refine po_call (R := fun z => (∀ k : Int, 0 ≤ k → k < 6 → ci z.2.2.2.1 r 14 k = -1) ∧ z.2.2.1 r 1304 = 0) ?_ ?_
  · refine po_bl (fun F8 h8 => po_bl (fun A9 h9 => po_some ⟨fun k k0 k1 => ?_, (gg_cpf h8).1⟩))
    rw [show ci A9 r 14 k = _ from (gg_cfv h9).1 k k0 (by omega), lm1]
  · rintro ⟨u, P9, F10, A11, J12⟩ h
    exact po_some h
theorem v_open (hk : c_kind d = 6) (R : Rc F A) (hn : 5200 ≤ n) : po (e_Reader_open n P F A J d 3) (fun z => CLv 3 z.2.2.1 z.2.2.2.1 ∧ (z.2.2.1 d 18).toInt = 480 ∧ z.2.2.1 d 1304 = 0 ∧ ∀ k : Int, 0 ≤ k → k < 6 → ci z.2.2.2.1 d 14 k = -1) := by
  have hd := kd37 hk
  have h3 := kd3 hk
  unfold e_Reader_open
  refine po_bl (fun P1 e1 => ?_)
  have u1 := gg_cpp e1
  refine po_bl (fun P2 e2 => ?_)
  have u2 := gg_cpp e2
  have x5 : P2 37 5 = d := (u2.2 37 5 (by simp)).trans u1.1
  refine po_bl (fun q3 e3 => ?_)
  obtain ⟨-, rfl⟩ := gg_chk e3
  rw [x5]
  refine po_call (fun a ha => And.intro ((s_houseClear hk R).po a ha) (v_hclear a ha)) ?_
  rintro ⟨u3, P3, F3, A3, J3⟩ ⟨⟨g1, g2, g3, g4, g5, g6, g7, g8, g9, g10⟩, g11, g12⟩
  dsimp only at g1 g2 g3 g4 g5 g6 g7 g8 g9 g10 g11 g12 ⊢
  subst g1
  refine po_bl (fun q9 e9 => ?_)
  obtain ⟨-, rfl⟩ := gg_chk e9
  rw [show P3 37 6 = 3 from u2.1]
  refine po_call (fun a ha => And.intro ((s_clear (r0 := 3) (by decide) g4).po a ha) (v_clear a ha)) ?_
  rintro ⟨u4, P4, F4, A4, J4⟩ ⟨⟨y1, y2, y3, y4, y5⟩, cl⟩
  dsimp only at y1 y2 y3 y4 y5 cl ⊢
  subst y1
  refine po_bl (fun F5 h5 => po_bl (fun F6 h6 => po_bl (fun F7 h7 => po_bl (fun F8 h8 => po_bl (fun F9 h9 => ?_)))))
  have U5 := gg_cpf h5
  have U6 := gg_cpf h6
  have U7 := gg_cpf h7
  have U8 := gg_cpf h8
  have U9 := gg_cpf h9
  have R9 : Rc F9 A4 := ((((y4.pf U5 (show 0 ≤ (0 : Int32).toInt ∧ (0 : Int32).toInt ≤ 400 by decide)).pf U6 (show 0 ≤ (0 : Int32).toInt ∧ (0 : Int32).toInt ≤ 400 by decide)).pf U7 (show 0 ≤ (0 : Int32).toInt ∧ (0 : Int32).toInt ≤ 8 by decide)).pf U8 trivial).pf U9 trivial
  refine po_call (s_scanAll R9 (by omega)).po ?_
  rintro ⟨u10, P10, F10, A10, J10⟩ ⟨z1, z2, z3, z4⟩
  dsimp only at z1 z2 z3 z4 ⊢
  have f37 : ∀ r k, r ≠ 37 → F10 r k = F4 r k := fun r k h => (z2 r k (fun e => h e.1)).trans ((U9.2 r k (fun e => h e.1)).trans ((U8.2 r k (fun e => h e.1)).trans ((U7.2 r k (fun e => h e.1)).trans ((U6.2 r k (fun e => h e.1)).trans (U5.2 r k (fun e => h e.1))))))
  refine po_some ⟨cl.fr (fun k => f37 3 k (by decide)) (fun o => z3 3 o (by simp)), ?_, ?_, fun k k0 k1 => ?_⟩
  · show (F10 d 18).toInt = 480
    rw [f37 d 18 hd, y2 d 18 h3]
    exact g8
  · show F10 d 1304 = 0
    rw [f37 d 1304 hd, y2 d 1304 h3]
    exact g12
  · show ci A10 d 14 k = -1
    rw [ci_fr (z3 d 14 (fun e => hd e.1)), ci_fr (y3 d 14 h3)]
    exact g11 k k0 k1
/-- nothing is told yet -/
theorem RW.nil {Fm : Nat → Int32} {Am : Nat → Nat → Int32} (c : CLv 3 F A) (h14 : F d 14 = 0) (h15 : F d 15 = 0) (h16 : F d 16 = 0) (h17 : F d 17 = 0) (h18 : F d 18 = Am 41 (Fm 19).toInt.toNat) : RW d F A Fm Am := by
  show RWc (F d 14).toInt (F d 15).toInt (F d 16).toInt (F d 17).toInt d F A Fm Am
  rw [h14, h15, h16, h17, i_0]
  obtain ⟨c1, c2, c3, c4⟩ := c
  exact ⟨⟨fun k k0 k1 => absurd k1 (by omega), c3⟩, ⟨fun k k0 k1 => absurd k1 (by omega), fun k k0 k1 => (c2 k k0 k1).2.2.1⟩, ⟨fun k k0 k1 => absurd k1 (by omega), fun k k0 k1 => (c2 k k0 k1).1⟩, fun t u t0 t1 _ _ => absurd t1 (by omega), ⟨fun k k0 k1 => absurd k1 (by omega), fun k k0 k1 => (c2 k k0 k1).2.1⟩, ⟨c1, fun k k0 k1 => (c2 k k0 k1).2.2.2, c4⟩, h18⟩
end C8z
end Qz125
section Qz126
section C9
variable {γ δ : Type} {JW JK : Nat → Int64} {d n m : Nat} {P : Nat → Nat → Nat} {F : Nat → Nat → Int32} {A : Nat → Nat → Nat → Int32} {J : Nat → Nat → Nat → Int64} {Fm : Nat → Int32} {Am : Nat → Nat → Int32} {Jm : Nat → Nat → Int64}
theorem p2_pol {x : Option γ} {z : Option δ} {Q : γ → δ → Prop} {R : γ → Prop} (h : po x R) (k : P2 x z Q) : P2 x z (fun a b => Q a b ∧ R a) := fun a b ha hb => ⟨k a b ha hb, h a ha⟩
theorem p2_por {x : Option γ} {z : Option δ} {Q : γ → δ → Prop} {R : δ → Prop} (h : po z R) (k : P2 x z Q) : P2 x z (fun a b => Q a b ∧ R b) := fun a b ha hb => ⟨k a b ha hb, h b hb⟩
/-- the reference takes its tape for its text -/
theorem w_10 {x : Option γ} {Q : γ → mR Int32 → Prop} {F1 : Nat → Int32} (hF : IFm F1) (ks : ∀ (m' : Nat) (A' : Nat → Nat → Int32), IAm A' → (∀ q, q ≠ 2 → A' q = Am q) → (∀ i : Nat, (i : Int) < (F1 4).toInt → A' 2 i = vp_nar .byte (Am 1 i)) → 9000 ≤ m' → P2 x ((m_pf F1 2 0).bind fun F3 => (d_cut m' F3 A' Jm).bind fun (_, F5, A6, J7) => rbody m' F5 A6 J7) Q) : ∀ {m : Nat} {A : Nat → Nat → Int32} {x1 : Int32}, IAm A → (∀ q, q ≠ 2 → A q = Am q) → 0 ≤ x1.toInt ∧ x1.toInt ≤ 2000 → (∀ i : Nat, (i : Int) < x1.toInt → A 2 i = vp_nar .byte (Am 1 i)) → 12000 - x1.toInt < (m : Int) → P2 x (d_read_10 m F1 A Jm x1) Q := by
  have r4 : 0 ≤ (F1 4).toInt ∧ (F1 4).toInt ≤ 2000 := hF 4
  have l1 := i_1
  intro m
  induction m with
  | zero => intro A x1 _ _ _ _ hn; omega
  | succ m ih =>
    intro A x1 hA o hx hb hn
    unfold d_read_10
    refine p2_cr (fun c => ?_) (fun c => ?_)
    · rw [i_ge] at c
      exact ks m A hA o (fun i hi => hb i (by omega)) (by omega)
    · rw [i_nge] at c
      have e3 := i_add (x := x1) (y := 1) (by omega) (by omega)
      refine p2_br (fun v ev => ?_)
      have av := gg_ld ev
      refine p2r_st (j := 2) hA (by omega) (by omega) trivial ?_
      intro A2 a2 o2 s2 n2
      refine ih a2 (fun q hq => (o2 q hq).trans (o q hq)) (by omega) (fun i hi => ?_) (by omega)
      by_cases e : (i : Int) = x1.toInt
      · have ei : i = x1.toInt.toNat := by omega
        have w : (A2 2 x1.toInt.toNat).toInt = (vp_nar .byte v).toInt := s2
        rw [ei]
        refine i_ext (w.trans ?_)
        rw [av.2.2, o 1 (by decide)]
      · have w : ai A2 2 (i : Int) = ai A 2 (i : Int) := n2 (i : Int) (by omega) e
        exact (ai_nat w).trans (hb i (by omega))
theorem nar_b (v : Int32) : -128 ≤ (vp_nar .byte v).toInt ∧ (vp_nar .byte v).toInt ≤ 127 := by
  have e : vp_nar .byte v = v.toInt8.toInt32 := rfl
  rw [e, Int8.toInt_toInt32]
  exact ⟨Int8.le_toInt _, by have := Int8.toInt_lt v.toInt8; omega⟩
/-- the tapes of both sides -/
def TPx (F : Nat → Nat → Int32) (A : Nat → Nat → Nat → Int32) (Fm : Nat → Int32) (Am : Nat → Nat → Int32) : Prop := F 1 1 = Fm 2 ∧ ∀ i : Nat, (i : Int) < (Fm 2).toInt → A 1 1 i = Am 1 i ∧ vp_nar .byte (Am 1 i) = Am 1 i
/-- what both leave of a text -/
def RR (JW JK : Nat → Int64) (d : Nat) (Fm : Nat → Int32) (Am : Nat → Nat → Int32) (a : cR Int32) (b : mR Int32) : Prop := a.1 = b.1 ∧ JP JW a ∧ JQ JK b ∧ (a.1.toInt = 0 → HC d a.2.2.1 a.2.2.2.1 b.2.1 b.2.2.1 ∧ (HWx d a.2.2.1 a.2.2.2.1 b.2.1 b.2.2.1 ∧ LHx d a.2.2.1 a.2.2.2.1 b.2.1 b.2.2.1 ∧ SVx (a.2.2.1 d 17).toInt 3 a.2.2.1 a.2.2.2.1 b.2.2.1 47 0) ∧ (b.2.1 74).toInt = 0 ∧ (b.2.1 77).toInt = 0 ∧ (∀ i, 0 ≤ i → i < 3 → ai b.2.2.1 61 i = 0)) ∧ (a.1.toInt ≠ 0 → b.2.1 18 = Fm 18 ∧ b.2.1 74 = Fm 74 ∧ b.2.1 77 = Fm 77 ∧ LSm (Fm 18).toInt Am b.2.2.1 ∧ (∀ q, 45 ≤ q → b.2.2.1 q = Am q))
theorem p2_read (hW : WKx JW JK) (hk : c_kind d = 6) (R : Rc F A) (S : SAm Fm Am) (tp : TPx F A Fm Am) (jw : J 37 6 = JW) (jk : Jm 7 = JK) (hn : 6000 ≤ n) (hm : 12100 ≤ m) : P2 (e_Reader_readText n P F A J d 3) (d_read m Fm Am Jm) (RR JW JK d Fm Am) := by
  have hd := kd37 hk
  have r2 : 0 ≤ (Fm 2).toInt ∧ (Fm 2).toInt ≤ 2000 := S.1 2
  have r18 : 0 ≤ (Fm 18).toInt ∧ (Fm 18).toInt ≤ 1 := S.1 18
  unfold e_Reader_readText d_read
  refine p2r_pf S.1 (show 0 ≤ (Fm 2).toInt ∧ (Fm 2).toInt ≤ 2000 from r2) ?_
  intro F1 hF1 k1 o1
  refine w_10 (Am := Am) hF1 (fun m' A' hA' oA bA hm' => ?_) S.2.1 (fun _ _ => rfl) (by decide) (fun i hi => by rw [i_0] at hi; omega) (by rw [i_0]; omega)
  refine p2r_pf hF1 (show 0 ≤ (0 : Int32).toInt ∧ (0 : Int32).toInt ≤ 2000 by decide) ?_
  intro F3 hF3 k3 o3
  have f3 : ∀ q, q ≠ 2 → q ≠ 4 → F3 q = Fm q := fun q h2 h4 => (o3 q h2).trans (o1 q h4)
  have e4 : F3 4 = Fm 2 := (o3 4 (by decide)).trans k1
  have e14 : F1 4 = Fm 2 := k1
  have bt : BTx A F3 A' := by
    intro i hi
    rw [e4] at hi
    have b := bA i (by rw [e14]; exact hi)
    have t := tp.2 i hi
    rw [b, t.2]
    have g := nar_b (Am 1 i)
    rw [t.2] at g
    exact ⟨t.1, g⟩
  refine p2_call (p2_pol (v_open (P := P) (J := J) hk R (by omega)) <| p2_okl (s_open (P := P) (J := J) hk R (by omega)) (p2_okr (s_d_cut (J := Jm) hF3 hA' (by omega)) (p2_open (P := P) hW hk R (by rw [e4]; exact tp.1) (by rw [e4]; exact r2.1) (by rw [e4]; exact r2.2) bt jw jk (by omega)))) ?_
  rintro ⟨u, P5, F5, A5, J5⟩ ⟨u', Fm5, Am5, Jm5⟩ ⟨⟨⟨⟨sq, fo⟩, cu⟩, op⟩, vo⟩
  obtain ⟨b5, a5, p5, o5, -⟩ := cu
  obtain ⟨oP, x5, x6, V⟩ := op
  obtain ⟨w7, w9, w10, w12, wc, w14⟩ := fo
  dsimp only at b5 a5 p5 o5 oP x5 x6 V w7 w9 w10 w12 wc w14 ⊢
  have K := sq.tks
  obtain ⟨-, -, -, -, -, -, jw5, jk5⟩ := sq
  dsimp only at jw5 jk5
  have e18 : F3 18 = Fm 18 := f3 18 (by decide) (by decide)
  have c7 : (0 : Int32).toInt = 0 := i_0
  refine p2_mono (Q := RR JW JK d Fm Am) (R := fun a b => ((RQ d (Fm 18).toInt Fm Am a b ∨ True) ∧ RR JW JK d Fm Am a b)) ?_ (fun a b h => h.2)
  refine w_body (F := F3) (A := A') (A0 := Am) b5 a5 p5 o5 oA (by rw [e18]; exact r18) (by omega) (fun n' F' A6 D hn' z11 z13 z15 z12 z20 z19 fF zA oA6 z41 z34 => ?_)
  have g3 : A6 3 = Am5 3 := oA6 3 (by decide) (by decide)
  have g4 : A6 4 = Am5 4 := oA6 4 (by decide) (by decide)
  have g5 : A6 5 = Am5 5 := oA6 5 (by decide) (by decide)
  let T : TS := mkT (u, P5, F5, A5, J5) (u', Fm5, Am5, Jm5)
  have RT0 : RT T F5 F' := by
    refine ⟨by rw [w10]; rfl, z13, by rw [w7]; exact i_ext z11.symm, by rw [z11]; decide, by rw [z11]; decide, fun j hj => by rw [z11] at hj; omega, by rw [w12]; exact i_ext z15.symm, fun h => absurd z15 h⟩
  have RX0 : RX T A5 J5 A6 Jm5 := ⟨rfl, rfl, rfl, rfl, rfl, g3, g4, g5, rfl, rfl⟩
  have s0 : 0 ≤ (F' 19).toInt ∧ (F' 19).toInt ≤ 1 := by rw [z19, e18]; omega
  have az : ∀ q, q = 11 ∨ q = 12 ∨ q = 17 ∨ q = 19 ∨ q = 29 ∨ q = 33 → (0 : Int32) = A6 q (F' 19).toInt.toNat := by
    intro q hq
    have := zA q hq
    rw [← z19] at this
    exact i_ext (by rw [show (A6 q (F' 19).toInt.toNat).toInt = 0 from this]; rfl)
  have RH0 : RH d F5 A5 J5 F' A6 Jm5 := by
    refine ⟨s0.1, s0.2, fun q hq => ?_, ?_, ?_, fun k k0 k1 => ?_, ⟨by rw [z20]; decide, fun q hq => ?_, fun k hk => ?_, fun q hq i i0 i1 => ?_, fun k k' _ hk => ?_⟩, z12⟩
    · rw [wc q hq]; exact az _ (by have := rq_in q; omega)
    · rw [w14]; exact az _ (by omega)
    · rw [w9]; exact az _ (by omega)
    · have e : F5 d 16 = 0 := wc 2 (by decide)
      rw [e] at k1
      exact absurd k1 (by rw [i_0]; omega)
    · rw [wc q hq, i_0]
      exact ⟨by decide, by unfold ql; split <;> decide⟩
    · rw [z20] at hk; omega
    · rw [wc q hq, i_0] at i1; omega
    · rw [z20] at hk; omega
  have W0 : RW d F5 A5 F' A6 := by
    have c1 : F5 d 15 = 0 := wc 1 (by decide)
    have c2 : F5 d 16 = 0 := wc 2 (by decide)
    have c3 : F5 d 17 = 0 := wc 3 (by decide)
    refine RW.nil vo.1 w14 c1 c2 c3 (i_ext (vo.2.1.trans ?_))
    rw [z19]
    exact z41.symm
  have L0 : RL (F' 19).toInt d F5 A5 F' A6 := by
    have c0 : F5 d 1304 = 0 := vo.2.2.1
    refine ⟨by rw [c0]; decide, fun k k0 k1 => .inl ⟨vo.2.2.2 k k0 k1, ?_⟩⟩
    rw [z19]
    have := z34 k k0 k1
    omega
  have L := q_loop (n := n) (m := n') (x4 := 0) K x5 x6 hk (s := 1 - (F3 18).toInt) (l := (F3 18).toInt) ⟨by rw [e18]; omega, by rw [e18]; omega, rfl⟩ RT0 RX0 RH0 W0 L0 V D (by decide) (by rw [i_0, z11]; decide) (by rw [i_0]; omega) (by rw [z11]; omega)
  refine p2_mono (p2_por (jm_219 (w := JK) jk5) (p2_pol (jc_10 (w := JW) jw5) L)) (fun a b h => ⟨.inr trivial, ?_⟩)
  obtain ⟨⟨⟨q1, q2, q3⟩, ja⟩, jb⟩ := h
  refine ⟨q1, ja, jb, q2, fun h => ?_⟩
  obtain ⟨f, L', g⟩ := q3 h
  refine ⟨?_, ?_, ?_, by rw [← e18]; exact L', g⟩
  · rw [f 18 (by decide), fF 18 (by decide), e18]
  · rw [f 74 (by decide), fF 74 (by decide), f3 74 (by decide) (by decide)]
  · rw [f 77 (by decide), fF 77 (by decide), f3 77 (by decide) (by decide)]
end C9
end Qz126
