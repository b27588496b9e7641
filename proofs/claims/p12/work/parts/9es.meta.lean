/-! methods without a store into rows of longs (of bytes) leave such rows as they are (printed by wip/meta.py) -/
def tkp (ty : Nat) (h h' : gH) : Prop := ∀ (k : Nat) (g : vp_A), g_get h k = some (.inl (ty, g)) → g_get h' k = some (.inl (ty, g))
theorem tkp.rfl' {ty : Nat} {h : gH} : tkp ty h h := fun _ _ e => e
theorem tkp.tr {ty : Nat} {h h1 h' : gH} (a : tkp ty h h1) (b : tkp ty h1 h') : tkp ty h h' := fun k g e => b k g (a k g e)
theorem tkp.set {ty : Nat} {h : gH} {a : Nat} {e e' : gE} (hg : g_get h a = some e) (hn : ∀ g, e ≠ .inl (ty, g)) : tkp ty h (g_set h a e') := by
  intro k g hk
  have ne : k ≠ a := by
    rintro rfl
    rw [hg] at hk
    exact hn g (Option.some.inj hk)
  unfold g_get g_set at *
  show (va_up h.2 (a / 1024) ((h.2 (a / 1024)).set (a % 1024) e') (k / 1024))[k % 1024]? = _
  by_cases e1 : k / 1024 = a / 1024
  · rw [e1, c_up_same, List.getElem?_set_ne (by omega), ← e1]
    exact hk
  · rw [c_up_ne e1]
    exact hk
theorem tkp.push {ty : Nat} {lg : Nat → Nat} {h h' : gH} {n k : Nat} {e : gE} (hp : g_push lg h n e = some (k, h')) : tkp ty h h' := by
  unfold g_push at hp
  split at hp
  · cases hp
    intro q g hq
    unfold g_get at *
    show (va_up h.2 (lg h.1.1 / 1024) (h.2 (lg h.1.1 / 1024) ++ [e]) (q / 1024))[q % 1024]? = _
    by_cases e1 : q / 1024 = lg h.1.1 / 1024
    · rw [e1, c_up_same]
      rw [e1] at hq
      have hl : q % 1024 < (h.2 (lg h.1.1 / 1024)).length := by
        obtain ⟨w, -⟩ := List.getElem?_eq_some_iff.mp hq
        exact w
      rw [List.getElem?_append_left hl]
      exact hq
    · rw [c_up_ne e1]
      exact hq
  · cases hp
/-- an instruction that may be run -/
def tki (ty : Nat) (S : List Nat) (I : Instr) (r : List Nat) : Bool := match I with
  | .lastore => decide (ty ≠ 3)
  | .bastore => decide (ty ≠ 1)
  | .invokestatic _ => match r with
    | [1, M, _] => S.contains M
    | _ => true
  | .invokevirtual _ => match r with
    | [2, M, _, _] => S.contains M
    | [6, M, _] => S.contains M
    | _ => true
  | .invokespecial _ => match r with
    | [3, M, _] => S.contains M
    | [4, M, _] => S.contains M
    | _ => true
  | _ => true
theorem tk_mem {ty : Nat} {S : List Nat} {t : gT} {I : Instr} {r : List Nat} {st st' : List Value} {h h' : gH} (h1 : ty = 1 ∨ ty = 3) (hI : tki ty S I r = true) (hS : g_mem t I r st h = some (st', h')) : tkp ty h h' := by
  have n0 : ∀ {x : vp_A} (g : vp_A), (Sum.inl (0, x) : gE) ≠ .inl (ty, g) := by
    intro x g e
    cases e
    omega
  have n2 : ∀ {x : vp_A} (g : vp_A), (Sum.inl (2, x) : gE) ≠ .inl (ty, g) := by
    intro x g e
    cases e
    omega
  have n4 : ∀ {x : vp_A} (g : vp_A), (Sum.inl (4, x) : gE) ≠ .inl (ty, g) := by
    intro x g e
    cases e
    omega
  have nr : ∀ {x : Nat × List Value} (g : vp_A), (Sum.inr x : gE) ≠ .inl (ty, g) := by
    intro x g e
    cases e
  unfold g_mem at hS
  repeat' split at hS
  all_goals first
    | (cases hS; done)
    | (cases hS; exact tkp.rfl')
    | (cases hS; exact tkp.set (by assumption) n0)
    | (cases hS; exact tkp.set (by assumption) nr)
    | (cases hS; exact tkp.set (by assumption) n4)
    | (cases hS; exact tkp.set (by assumption) n2)
    | (cases hS; refine tkp.set (by assumption) (fun g e => ?_); injection e with e; injection e with e1 e2; exact absurd e1.symm (of_decide_eq_true (show decide (ty ≠ 1) = true from hI)))
    | (cases hS; refine tkp.set (by assumption) (fun g e => ?_); injection e with e; injection e with e1 e2; exact absurd e1.symm (of_decide_eq_true (show decide (ty ≠ 3) = true from hI)))
    | (obtain ⟨v, hv, e⟩ := Option.map_eq_some_iff.mp hS; cases e; exact tkp.rfl')
theorem tk_nat {ty : Nat} {I : Instr} {r : List Nat} {st st' : List Value} {h h' : gH} (h1 : ty = 1 ∨ ty = 3) (hS : g_nat I r st h = some (st', h')) : tkp ty h h' := by
  have n0 : ∀ {x : vp_A} (g : vp_A), (Sum.inl (0, x) : gE) ≠ .inl (ty, g) := by
    intro x g e
    cases e
    omega
  unfold g_nat at hS
  repeat' split at hS
  all_goals first
    | (cases hS; done)
    | (cases hS; exact tkp.rfl')
    | (cases hS; exact tkp.set (by assumption) n0)
theorem tk_new {ty : Nat} {lg : Nat → Nat} {df : Nat → List Value} {I : Instr} {r : List Nat} {st st' : List Value} {h h' : gH} (hS : g_new lg df I r st h = some (st', h')) : tkp ty h h' := by
  have key : ∀ {n : Nat} {e : gE} {q : List Value}, (g_push lg h n e).map (fun z => ((Value.ref z.1 :: q : List Value), z.2)) = some (st', h') → tkp ty h h' := by
    intro n e q hq'
    cases hp : g_push lg h n e with
    | none => rw [hp] at hq'; cases hq'
    | some z => rw [hp] at hq'; cases hq'; exact tkp.push hp
  unfold g_new at hS
  repeat' split at hS
  all_goals first
    | (cases hS; done)
    | exact key hS
theorem tk_step {ty : Nat} {S : List Nat} {t : gT} {tb : List (List Int32)} {lg : Nat → Nat} {df : Nat → List Value} {nL : Nat} {I : Instr} {r : List Nat} {pc pc' : Nat} {loc loc' : List (Nat × Value)} {st st' : List Value} {h h' : gH} (h1 : ty = 1 ∨ ty = 3) (hI : tki ty S I r = true) (hS : g_step t tb lg df nL I r pc loc st h = some (pc', loc', st', h')) : tkp ty h h' := by
  unfold g_step at hS
  split at hS
  · cases hS; exact tkp.rfl'
  · split at hS
    · cases hS; exact tkp.rfl'
    · split at hS
      · cases hS; exact tkp.rfl'
      · split at hS
        next hm => cases hS; exact tk_mem h1 hI hm
        · split at hS
          next hm => cases hS; exact tk_new hm
          · split at hS
            · cases hS; exact tkp.rfl'
            · split at hS
              next hm => cases hS; exact tk_nat h1 hm
              · cases hS
theorem tk_inv {ty nt : Nat} {S : List Nat} {mt : Nat → gM} {I : Instr} {r : List Nat} {st : List Value} {h : gH} {M : Nat} {as rest : List Value} (hI : tki ty S I r = true) (hS : g_inv nt mt I r st h = some (M, as, rest)) : S.contains M = true := by
  unfold g_inv at hS
  repeat' split at hS
  all_goals first
    | (cases hS; done)
    | (cases hS; exact hI)
theorem tk_exec {ty : Nat} {S : List Nat} {t : gT} {tb : List (List Int32)} {lg : Nat → Nat} {df : Nat → List Value} {mt : Nat → gM} (h1 : ty = 1 ∨ ty = 3) (hS : ∀ M, S.contains M = true → ∀ pc I r, (mt M).2 pc = some (I, r) → tki ty S I r = true) : ∀ (n d M pc : Nat) (loc : List (Nat × Value)) (st : List Value) (h : gH) (v : Option Value) (h' : gH), S.contains M = true → g_exec t tb lg df mt n d M pc loc st h = some (v, h') → tkp ty h h' := by
  intro n
  induction n with
  | zero => intro d M pc loc st h v h' _ he; cases he
  | succ n ih =>
    intro d M pc loc st h v h' hM he
    unfold g_exec at he
    split at he
    · cases he
    · next I r hI =>
      have ti := hS M hM _ _ _ hI
      split at he
      next hs => exact (tk_step h1 ti hs).tr (ih _ _ _ _ _ _ _ _ hM he)
      · split at he
        · cases he; exact tkp.rfl'
        · split at he
          next hi =>
            split at he
            next hc => exact (ih _ _ _ _ _ _ _ _ (tk_inv ti hi) hc).tr (ih _ _ _ _ _ _ _ _ hM he)
            · cases he
          · cases he
def k_cq : List (List (Nat × Instr × List Nat)) := [k_c0, k_c1, k_c2, k_c3, k_c4, k_c5, k_c6, k_c7, k_c8, k_c9, k_c10, k_c11, k_c12, k_c13, k_c14, k_c15, k_c16, k_c17, k_c18, k_c19, k_c20, k_c21, k_c22, k_c23, k_c24, k_c25, k_c26, k_c27, k_c28, k_c29, k_c30, k_c31, k_c32, k_c33, k_c34, k_c35, k_c36, k_c37, k_c38, k_c39, k_c40, k_c41, k_c42, k_c43, k_c44, k_c45, k_c46, k_c47, k_c48, k_c49, k_c50, k_c51, k_c52, k_c53, k_c54, k_c55, k_c56, k_c57, k_c58, k_c59, k_c60, k_c61, k_c62, k_c63, k_c64, k_c65, k_c66, k_c67, k_c68, k_c69, k_c70, k_c71, k_c72, k_c73, k_c74, k_c75, k_c76, k_c77, k_c78, k_c79, k_c80, k_c81, k_c82, k_c83, k_c84, k_c85, k_c86, k_c87, k_c88, k_c89, k_c90, k_c91, k_c92, k_c93, k_c94, k_c95, k_c96, k_c97, k_c98, k_c99, k_c100, k_c101, k_c102, k_c103, k_c104, k_c105, k_c106, k_c107, k_c108, k_c109, k_c110, k_c111, k_c112, k_c113, k_c114, k_c115, k_c116, k_c117, k_c118, k_c119, k_c120, k_c121, k_c122, k_c123, k_c124, k_c125, k_c126, k_c127, k_c128, k_c129, k_c130, k_c131, k_c132, k_c133, k_c134, k_c135, k_c136, k_c137, k_c138, k_c139, k_c140, k_c141, k_c142, k_c143, k_c144, k_c145, k_c146, k_c147, k_c148, k_c149, k_c150, k_c151, k_c152, k_c153, k_c154, k_c155, k_c156, k_c157, k_c158, k_c159, k_c160, k_c161, k_c162, k_c163, k_c164, k_c165, k_c166, k_c167, k_c168, k_c169, k_c170, k_c171, k_c172, k_c173, k_c174, k_c175, k_c176, k_c177, k_c178, k_c179, k_c180, k_c181, k_c182, k_c183, k_c184, k_c185, k_c186, k_c187, k_c188, k_c189, k_c190, k_c191, k_c192, k_c193, k_c194, k_c195, k_c196, k_c197, k_c198, k_c199, k_c200, k_c201, k_c202, k_c203, k_c204, k_c205, k_c206, k_c207, k_c208, k_c209, k_c210, k_c211, k_c212, k_c213, k_c214, k_c215, k_c216, k_c217, k_c218, k_c219, k_c220, k_c221, k_c222, k_c223, k_c224, k_c225, k_c226, k_c227, k_c228, k_c229, k_c230, k_c231, k_c232, k_c233, k_c234, k_c235, k_c236, k_c237, k_c238, k_c239, k_c240, k_c241, k_c242, k_c243, k_c244, k_c245, k_c246, k_c247, k_c248, k_c249, k_c250, k_c251, k_c252, k_c253, k_c254, k_c255, k_c256, k_c257, k_c258, k_c259, k_c260, k_c261, k_c262, k_c263, k_c264, k_c265, k_c266, k_c267, k_c268, k_c269, k_c270, k_c271]
set_option maxRecDepth 100000 in
theorem k_cqm : k_ms.map (fun m => m.2) = k_cq.map g_look := rfl
set_option maxRecDepth 100000 in
theorem k_cqe {M : Nat} (h : M < 272) : (k_mt M).2 = g_look (k_cq.getD M []) := by
  have e := congrArg (fun l : List (Nat → Option (Instr × List Nat)) => l[M]?) k_cqm
  simp only [List.getElem?_map] at e
  unfold k_mt
  rw [List.getD_eq_getElem?_getD, List.getD_eq_getElem?_getD]
  have l1 : k_ms.length = 272 := rfl
  have l2 : k_cq.length = 272 := rfl
  rw [List.getElem?_eq_getElem (by rw [l1]; exact h), List.getElem?_eq_getElem (by rw [l2]; exact h)] at e ⊢
  exact Option.some.inj e
def k_sL : List Nat := [0, 1, 2, 3, 4, 5, 6, 7, 8, 9, 10, 11, 12, 14, 17, 18, 19, 20, 21, 22, 23, 24, 25, 26, 27, 28, 29, 30, 31, 32, 33, 34, 35, 36, 37, 40, 42, 43, 44, 45, 46, 48, 49, 50, 51, 53, 56, 57, 59, 60, 61, 62, 63, 64, 65, 70, 71, 72, 73, 74, 75, 76, 77, 78, 79, 80, 81, 82, 83, 84, 85, 86, 87, 88, 89, 90, 91, 92, 93, 94, 95, 96, 97, 99, 100, 102, 103, 104, 105, 106, 107, 108, 109, 110, 111, 112, 113, 114, 115, 116, 117, 118, 119, 120, 121, 122, 123, 124, 125, 126, 128, 129, 130, 131, 132, 133, 134, 135, 136, 137, 139, 140, 141, 142, 143, 144, 145, 146, 150, 151, 152, 153, 154, 156, 157, 158, 160, 162, 163, 165, 168, 170, 171, 172, 173, 174, 175, 176, 177, 178, 179, 180, 181, 182, 183, 184, 185, 186, 187, 188, 189, 190, 191, 192, 193, 194, 195, 196, 197, 198, 199, 200, 201, 202, 203, 204, 205, 206, 207, 208, 209, 210, 211, 212, 213, 214, 215, 216, 217, 218, 219, 220, 221, 222, 223, 224, 225, 226, 227, 228, 229, 230, 231, 232, 233, 234, 235, 236, 237, 238, 239, 240, 241, 242, 243, 244, 245, 246, 247, 248, 249, 250, 251, 252, 253, 254, 255, 256, 257, 258, 259, 260, 261, 262, 263, 264, 265, 266, 268, 269, 270]
def k_sB : List Nat := [0, 1, 2, 3, 4, 5, 6, 7, 8, 9, 10, 11, 12, 13, 14, 15, 16, 17, 18, 19, 20, 21, 22, 23, 24, 25, 26, 27, 28, 29, 30, 31, 32, 33, 34, 35, 36, 37, 38, 39, 40, 41, 42, 43, 44, 45, 46, 47, 48, 49, 50, 51, 52, 53, 54, 55, 56, 57, 58, 59, 60, 61, 62, 63, 64, 65, 66, 67, 68, 69, 70, 71, 72, 73, 74, 75, 76, 77, 78, 79, 80, 81, 82, 83, 84, 85, 86, 87, 89, 90, 91, 92, 93, 94, 95, 96, 97, 98, 100, 101, 102, 103, 104, 105, 106, 107, 108, 109, 110, 111, 112, 113, 114, 115, 116, 117, 118, 119, 120, 121, 122, 123, 124, 125, 126, 127, 128, 129, 130, 131, 132, 133, 134, 135, 136, 137, 138, 141, 142, 143, 144, 145, 146, 147, 148, 149, 150, 151, 152, 153, 154, 156, 157, 158, 160, 161, 162, 163, 164, 166, 167, 168, 169, 171, 172, 173, 174, 175, 176, 177, 178, 179, 180, 181, 182, 183, 184, 185, 186, 187, 188, 189, 190, 191, 192, 194, 195, 196, 197, 198, 202, 203, 204, 205, 206, 207, 208, 209, 210, 211, 212, 213, 215, 217, 218, 219, 226, 228, 230, 231, 238, 239, 240, 241, 242, 243, 244, 245, 246, 247, 248, 249, 250, 251, 252, 253, 254, 255, 256, 257, 258, 259, 260, 261, 262, 263, 264, 265, 266, 267, 268, 269, 270]
def k_tkc (ty : Nat) (S : List Nat) : Bool := S.all fun M => decide (M < 272) && (k_cq.getD M []).all fun q => tki ty S q.2.1 q.2.2
theorem k_tkL : k_tkc 3 k_sL = true := by decide +kernel
theorem k_tkB : k_tkc 1 k_sB = true := by decide +kernel
theorem k_tks {ty : Nat} {S : List Nat} (h : k_tkc ty S = true) : ∀ M, S.contains M = true → ∀ pc I r, (k_mt M).2 pc = some (I, r) → tki ty S I r = true := by
  intro M hM pc I r hI
  have hm : M ∈ S := List.contains_iff_mem.mp hM
  have a := List.all_eq_true.mp h M hm
  rw [Bool.and_eq_true, decide_eq_true_eq] at a
  rw [k_cqe a.1] at hI
  exact List.all_eq_true.mp a.2 _ (g_look_mem hI)
theorem k_longs {t : gT} {lg : Nat → Nat} {d M pc : Nat} {loc : List (Nat × Value)} {st : List Value} {h h' : gH} {v : Option Value} (hM : k_sL.contains M = true) (hr : k_run t lg d M pc loc st h (v, h')) : tkp 3 h h' := by
  obtain ⟨n, hn⟩ := hr
  exact tk_exec (.inr rfl) (k_tks k_tkL) _ _ _ _ _ _ _ _ _ hM hn
theorem k_bytes {t : gT} {lg : Nat → Nat} {d M pc : Nat} {loc : List (Nat × Value)} {st : List Value} {h h' : gH} {v : Option Value} (hM : k_sB.contains M = true) (hr : k_run t lg d M pc loc st h (v, h')) : tkp 1 h h' := by
  obtain ⟨n, hn⟩ := hr
  exact tk_exec (.inl rfl) (k_tks k_tkB) _ _ _ _ _ _ _ _ _ hM hn
