/-! natives, calls, and the interpreter -/
def g_sum (st : List Value) : Nat := (st.map fun v => v.category).sum
def g_nat (I : Instr) (r : List Nat) (st : List Value) (h : gH) : Option (List Value × gH) := match I with
  | .invokespecial _ => match r, st with
    | [0], .ref _ :: q => if g_sum q ≤ 8 then some (q, h) else none
    | _, _ => none
  | .invokestatic _ => match r, st with
    | [5], .int n :: .int dp :: .ref a :: .int sp :: .ref a0 :: q => match g_get h a0, g_get h a with
      | some (.inl (0, n0, .inl f)), some (.inl (0, n1, .inl g)) =>
        if sp < 0 ∨ dp < 0 ∨ n < 0 ∨ n0 < sp.toNatClampNeg + n.toNatClampNeg ∨ n1 < dp.toNatClampNeg + n.toNatClampNeg ∨ 8 < g_sum q then none
        else some (q, g_set h a (.inl (0, n1, .inl (va_cpy f g sp.toNatClampNeg dp.toNatClampNeg n.toNatClampNeg))))
      | _, _ => none
    | [7], .int y :: .int x :: q => if g_sum q ≤ 8 then some (.int (if x < y then y else x) :: q, h) else none
    | [8], .int y :: .int x :: q => if g_sum q ≤ 8 then some (.int (if y < x then y else x) :: q, h) else none
    | _, _ => none
  | _ => none
def g_natok (Ts : List Cond) (own : String) (I : Instr) (r : List Nat) : Prop := match I with
  | .invokespecial ix => match r with
    | [0] => Cond.methodLink own ix objectInit ∈ Ts ∧ Cond.instanceMethod objectInit ∈ Ts ∧ Cond.code objectInit ⟨#[0xb1]⟩ 1 none ∈ Ts
    | _ => True
  | .invokestatic ix => match r with
    | [5] => Cond.methodLink own ix arraycopyName ∈ Ts ∧ Cond.native arraycopyName ∈ Ts ∧ Cond.static arraycopyName ∈ Ts ∧ Cond.initialized "java/lang/System" ∈ Ts
    | [7] => Cond.methodLink own ix Lib.Math.max.name ∈ Ts ∧ Cond.static Lib.Math.max.name ∈ Ts ∧ Cond.initialized "java/lang/Math" ∈ Ts ∧ Cond.code Lib.Math.max.name Lib.Math.max.code 2 (some .int) ∈ Ts
    | [8] => Cond.methodLink own ix Lib.Math.min.name ∈ Ts ∧ Cond.static Lib.Math.min.name ∈ Ts ∧ Cond.initialized "java/lang/Math" ∈ Ts ∧ Cond.code Lib.Math.min.name Lib.Math.min.code 2 (some .int) ∈ Ts
    | _ => True
  | _ => True
/-- a method: its name, bytes, locals, what it returns; its instructions, each with what it links to -/
abbrev gM : Type := (MethodName × ByteArray × Nat × Option FieldType) × (Nat → Option (Instr × List Nat))
/-- a call: the method's number, its arguments, the rest of the stack -/
def g_inv (nt : Nat) (mt : Nat → gM) (I : Instr) (r : List Nat) (st : List Value) (h : gH) : Option (Nat × List Value × List Value) := match I with
  | .invokestatic _ => match r with
    | [1, M, na] => if na ≤ st.length ∧ g_sum (st.drop na) ≤ 8 ∧ (lg_sl (st.take na).reverse).length ≤ (mt M).1.2.2.1 then some (M, (st.take na).reverse, st.drop na) else none
    | _ => none
  | .invokevirtual _ => match r with
    | [2, M, na, ci] => match st.drop na with
      | .ref b :: q => match g_get h b with
        | some (.inr (ci', _)) => if ci' = ci ∧ na ≤ st.length ∧ g_sum q ≤ 8 ∧ (lg_sl (.ref b :: (st.take na).reverse)).length ≤ (mt M).1.2.2.1 then some (M, .ref b :: (st.take na).reverse, q) else none
        | _ => none
      | _ => none
    | [6, M, na] => match st.drop na with
      | .float j :: q => if 0 < j.toNat ∧ j.toNat ≤ nt ∧ na ≤ st.length ∧ g_sum q ≤ 8 ∧ (lg_sl (.float j :: (st.take na).reverse)).length ≤ (mt M).1.2.2.1 then some (M, .float j :: (st.take na).reverse, q) else none
      | _ => none
    | _ => none
  | .invokespecial _ => match r with
    | [3, M, na] => match st.drop na with
      | .ref b :: q => if na ≤ st.length ∧ g_sum q ≤ 8 ∧ (lg_sl (.ref b :: (st.take na).reverse)).length ≤ (mt M).1.2.2.1 then some (M, .ref b :: (st.take na).reverse, q) else none
      | _ => none
    | [4, M, na] => match st.drop na with
      | .ref b :: q => if na ≤ st.length ∧ g_sum q ≤ 8 ∧ (lg_sl (.ref b :: (st.take na).reverse)).length ≤ (mt M).1.2.2.1 then some (M, .ref b :: (st.take na).reverse, q) else none
      | _ => none
    | _ => none
  | _ => none
/-- what the tables must say of a method that is called -/
def g_called (Ts : List Cond) (M : gM) (na : Nat) : Prop := plainName M.1.1.cls = true ∧ M.1.2.2.1 ≤ 45 ∧ Cond.code M.1.1 M.1.2.1 M.1.2.2.1 M.1.2.2.2 ∈ Ts ∧ Cond.initialized M.1.1.cls ∈ Ts ∧ (M.1.1.cls ≠ "java/lang/invoke/MethodHandle" ∧ M.1.1.cls ≠ "java/lang/invoke/VarHandle" ∧ (parseMethodDescriptor M.1.1.desc).map (fun d => d.parameters.length) = some na)
def g_invok (cl : List vw_C) (Ts : List Cond) (Ns : List (String × Nat × MethodName × String)) (mt : Nat → gM) (host own : String) (I : Instr) (r : List Nat) : Prop := match I with
  | .invokestatic ix => match r with
    | [1, M, na] => g_called Ts (mt M) na ∧ Cond.methodLink own ix (mt M).1.1 ∈ Ts ∧ Cond.static (mt M).1.1 ∈ Ts
    | _ => True
  | .invokevirtual ix => match r with
    | [2, M, na, ci] => g_called Ts (mt M) na ∧ Cond.methodLink own ix (mt M).1.1 ∈ Ts ∧ Cond.instanceMethod (mt M).1.1 ∈ Ts ∧ Cond.selects (mt M).1.1.cls (mt M).1.1 (mt M).1.1 ∈ Ts ∧ ∃ q, cl[ci]? = some q ∧ q.1 = (mt M).1.1.cls
    | [6, M, na] => g_called Ts (mt M) na ∧ Cond.methodLink own ix (mt M).1.1 ∈ Ts ∧ Cond.instanceMethod (mt M).1.1 ∈ Ts ∧ Cond.selects (mt M).1.1.cls (mt M).1.1 (mt M).1.1 ∈ Ts ∧ (mt M).1.1.cls = "java/lang/String"
    | _ => True
  | .invokespecial ix => match r with
    | [3, M, na] => g_called Ts (mt M) na ∧ Cond.methodLink own ix (mt M).1.1 ∈ Ts ∧ Cond.instanceMethod (mt M).1.1 ∈ Ts ∧ (mt M).1.1.name = "<init>" ∧ (mt M).1.2.2.2 = none
    | [4, M, na] => g_called Ts (mt M) na ∧ (own, ix, (mt M).1.1, host) ∈ Ns ∧ Cond.instanceMethod (mt M).1.1 ∈ Ts ∧ (mt M).1.1.name = "<init>" ∧ (mt M).1.2.2.2 = none
    | _ => True
  | _ => True
def g_ret (ret : Option FieldType) (I : Instr) (st : List Value) : Option (Option Value) := match I with
  | .ireturn => match ret, st with
    | some ty, [.int v] => if narrow ty (.int v) = .int v then some (some (.int v)) else none
    | _, _ => none
  | .lreturn => match ret, st with
    | some .long, [.long v] => some (some (.long v))
    | _, _ => none
  | .return_ => match ret, st with
    | none, [] => some none
    | _, _ => none
  | _ => none
/-- an instruction that is neither call nor return -/
def g_step (t : gT) (tb : List (List Int32)) (lg : Nat → Nat) (df : Nat → List Value) (nL : Nat) (I : Instr) (r : List Nat) (pc : Nat) (loc : List (Nat × Value)) (st : List Value) (h : gH) : Option (Nat × List (Nat × Value) × List Value × gH) :=
  match g_pure I st with
  | some st' => some (pc + g_len I, loc, st', h)
  | none => match g_loc nL I loc st with
    | some (loc', st') => some (pc + g_len I, loc', st', h)
    | none => match g_br I r pc st with
      | some (pc', st') => some (pc', loc, st', h)
      | none => match g_mem t I r st h with
        | some (st', h') => some (pc + g_len I, loc, st', h')
        | none => match g_new lg df I r st h with
          | some (st', h') => some (pc + g_len I, loc, st', h')
          | none => match g_txt tb I r st with
            | some st' => some (pc + g_len I, loc, st', h)
            | none => match g_nat I r st h with
              | some (st', h') => some (pc + 3, loc, st', h')
              | none => none
/-- the interpreter: fuel, calls' depth, the method, its place, its locals, its stack, the heap -/
def g_exec (t : gT) (tb : List (List Int32)) (lg : Nat → Nat) (df : Nat → List Value) (mt : Nat → gM) : Nat → Nat → Nat → Nat → List (Nat × Value) → List Value → gH → Option (Option Value × gH)
  | 0, _, _, _, _, _, _ => none
  | n + 1, d, M, pc, loc, st, h => match (mt M).2 pc with
    | none => none
    | some (I, r) => match g_step t tb lg df (mt M).1.2.2.1 I r pc loc st h with
      | some (pc', loc', st', h') => g_exec t tb lg df mt n d M pc' loc' st' h'
      | none => match g_ret (mt M).1.2.2.2 I st with
        | some v => some (v, h)
        | none => match g_inv tb.length mt I r st h, d with
          | some (M', as, rest), d' + 1 => match g_exec t tb lg df mt n d' M' 0 (lv_args 0 as) [] h with
            | some (v, h1) => g_exec t tb lg df mt n (d' + 1) M (pc + 3) loc (v.toList ++ rest) h1
            | none => none
          | _, _ => none
theorem g_push_mono {lg : Nat → Nat} {h h' : gH} {n k : Nat} {e : gE} (hp : g_push lg h n e = some (k, h')) : h.1.1 ≤ h'.1.1 ∧ h.1.2 ≤ h'.1.2 := by
  unfold g_push at hp
  split at hp
  · cases hp; exact ⟨Nat.le_succ _, Nat.le_add_right _ _⟩
  · cases hp
theorem g_new_mono {lg : Nat → Nat} {df : Nat → List Value} {I : Instr} {r : List Nat} {st st' : List Value} {h h' : gH} (hS : g_new lg df I r st h = some (st', h')) : h.1.1 ≤ h'.1.1 ∧ h.1.2 ≤ h'.1.2 := by
  have key : ∀ {n : Nat} {e : gE} {q : List Value}, (g_push lg h n e).map (fun z => ((Value.ref z.1 :: q : List Value), z.2)) = some (st', h') → h.1.1 ≤ h'.1.1 ∧ h.1.2 ≤ h'.1.2 := by
    intro n e q hq
    cases hp : g_push lg h n e with
    | none => rw [hp] at hq; cases hq
    | some z => rw [hp] at hq; cases hq; exact g_push_mono hp
  unfold g_new at hS
  split at hS
  · split at hS
    · exact key hS
    · cases hS
  · split at hS
    · split at hS
      · cases hS
      · exact key hS
    · split at hS
      · cases hS
      · exact key hS
    · split at hS
      · cases hS
      · exact key hS
    · split at hS
      · cases hS
      · exact key hS
    · cases hS
  · split at hS
    · split at hS
      · cases hS
      · exact key hS
    · cases hS
  · cases hS
