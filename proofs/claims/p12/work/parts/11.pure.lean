/-! instructions of the stack alone -/
/-- how long an instruction is (0: a switch) -/
def g_len : Instr → Nat
  | .bipush _ => 2 | .sipush _ => 3 | .iload _ => 2 | .lload _ => 2 | .aload _ => 2 | .istore _ => 2 | .lstore _ => 2 | .astore _ => 2 | .iinc _ _ => 3
  | .ldc _ => 2 | .ldc_w _ => 3 | .ldc2_w _ => 3 | .getfield _ => 3 | .putfield _ => 3 | .new _ => 3 | .newarray _ => 2 | .anewarray _ => 3
  | .getstatic _ => 3 | .invokevirtual _ => 3 | .invokespecial _ => 3 | .invokestatic _ => 3 | .goto _ => 3 | .ifCond _ _ => 3 | .if_icmp _ _ => 3 | .tableswitch _ _ _ _ => 0
  | _ => 1
def g_pure (I : Instr) (st : List Value) : Option (List Value) := match I with
  | .iconst n => some (.int (Int32.ofInt n) :: st)
  | .bipush n => some (.int (Int8.ofInt n).toInt32 :: st)
  | .sipush n => some (.int (Int16.ofInt n).toInt32 :: st)
  | .lconst n => some (.long (Int64.ofNat n) :: st)
  | .iadd => match st with | .int y :: .int x :: r => some (.int (x + y) :: r) | _ => none
  | .isub => match st with | .int y :: .int x :: r => some (.int (x - y) :: r) | _ => none
  | .imul => match st with | .int y :: .int x :: r => some (.int (x * y) :: r) | _ => none
  | .idiv => match st with | .int y :: .int x :: r => if y = 0 then none else some (.int (x / y) :: r) | _ => none
  | .irem => match st with | .int y :: .int x :: r => if y = 0 then none else some (.int (x - x / y * y) :: r) | _ => none
  | .ineg => match st with | .int x :: r => some (.int (-x) :: r) | _ => none
  | .iand => match st with | .int y :: .int x :: r => some (.int (x &&& y) :: r) | _ => none
  | .ior => match st with | .int y :: .int x :: r => some (.int (x ||| y) :: r) | _ => none
  | .ixor => match st with | .int y :: .int x :: r => some (.int (x ^^^ y) :: r) | _ => none
  | .ishl => match st with | .int y :: .int x :: r => some (.int (x <<< (y &&& 31)) :: r) | _ => none
  | .ishr => match st with | .int y :: .int x :: r => some (.int (x >>> (y &&& 31)) :: r) | _ => none
  | .iushr => match st with | .int y :: .int x :: r => some (.int (x.toUInt32 >>> (y.toUInt32 &&& Int32.toUInt32 31)).toInt32 :: r) | _ => none
  | .ladd => match st with | .long y :: .long x :: r => some (.long (x + y) :: r) | _ => none
  | .lsub => match st with | .long y :: .long x :: r => some (.long (x - y) :: r) | _ => none
  | .lmul => match st with | .long y :: .long x :: r => some (.long (x * y) :: r) | _ => none
  | .land => match st with | .long y :: .long x :: r => some (.long (x &&& y) :: r) | _ => none
  | .lor => match st with | .long y :: .long x :: r => some (.long (x ||| y) :: r) | _ => none
  | .lxor => match st with | .long y :: .long x :: r => some (.long (x ^^^ y) :: r) | _ => none
  | .lshl => match st with | .int y :: .long x :: r => some (.long (x <<< (y.toInt64 &&& 63)) :: r) | _ => none
  | .lushr => match st with | .int y :: .long x :: r => some (.long (x.toUInt64 >>> (y.toInt64.toUInt64 &&& Int64.toUInt64 63)).toInt64 :: r) | _ => none
  | .lcmp => match st with | .long y :: .long x :: r => some (.int (lg_cmp x y) :: r) | _ => none
  | .i2l => match st with | .int x :: r => some (.long x.toInt64 :: r) | _ => none
  | .l2i => match st with | .long x :: r => some (.int x.toInt32 :: r) | _ => none
  | .i2b => match st with | .int x :: r => some (.int x.toInt8.toInt32 :: r) | _ => none
  | .i2c => match st with | .int x :: r => some (.int (x.toUInt32 % 65536).toInt32 :: r) | _ => none
  | .dup => match st with | v :: r => if v.category = 1 then some (v :: v :: r) else none | _ => none
  | .dup2 => match st with | a :: b :: r => if a.category = 1 ∧ b.category = 1 then some (a :: b :: a :: b :: r) else none | _ => none
  | .pop => match st with | v :: r => if v.category = 1 then some r else none | _ => none
  | _ => none
section GP
variable {p : Program} {l : Launch} {e : Env} {R : Room} {s : State} {m : MethodId} {args : Array Value} {below : List Frame} {meth : Method} {c : Code} {H : Heap} {locs : List Loc} {cells slots : Nat} {Q : State → Prop}
variable {cc : ByteArray} {pc : Nat} {ls : Array Slot} {ad cst : Nat → Nat}
set_option maxHeartbeats 4000000 in
theorem g_pure_ok (hx : p.tables.exec = Jvm.exec) (hb : c.code = cc) {I : Instr} {st st' : List Value} {len : Nat} (h : g_pure I st = some st') (hd : decode cc pc = .ok (I, len)) (hl : len = g_len I)
    (k : W p l e R s m args below meth c H locs cells slots Q (F0 m (pc + g_len I) ls (st'.map (g_sh ad cst)))) : W p l e R s m args below meth c H locs cells slots Q (F0 m pc ls (st.map (g_sh ad cst))) := by
  subst hl
  unfold g_pure at h
  split at h
  · cases h; exact lv_iconst hx hb hd rfl k
  · cases h; exact lv_bipush hx hb hd rfl k
  · cases h; exact lv_sipush hx hb hd rfl k
  · cases h; exact lv_lconst hx hb hd rfl k
  · split at h
    · cases h; exact lv_iadd hx hb hd k
    · cases h
  · split at h
    · cases h; exact lv_isub hx hb hd k
    · cases h
  · split at h
    · cases h; exact lv_imul hx hb hd k
    · cases h
  · split at h
    · split at h
      · cases h
      next hne => cases h; exact lv_idiv hx hb hd hne k
    · cases h
  · split at h
    · split at h
      · cases h
      next hne => cases h; exact lv_irem hx hb hd hne k
    · cases h
  · split at h
    · cases h; exact lv_ineg hx hb hd k
    · cases h
  · split at h
    · cases h; exact lv_iand hx hb hd k
    · cases h
  · split at h
    · cases h; exact lv_ior hx hb hd k
    · cases h
  · split at h
    · cases h; exact lv_ixor hx hb hd k
    · cases h
  · split at h
    · cases h; exact lv_ishl hx hb hd k
    · cases h
  · split at h
    · cases h; exact lv_ishr hx hb hd k
    · cases h
  · split at h
    · cases h; exact lv_iushr hx hb hd rfl k
    · cases h
  · split at h
    · cases h; exact lv_ladd hx hb hd k
    · cases h
  · split at h
    · cases h; exact lv_lsub hx hb hd k
    · cases h
  · split at h
    · cases h; exact lv_lmul hx hb hd k
    · cases h
  · split at h
    · cases h; exact lv_land hx hb hd k
    · cases h
  · split at h
    · cases h; exact lv_lor hx hb hd k
    · cases h
  · split at h
    · cases h; exact lv_lxor hx hb hd k
    · cases h
  · split at h
    · cases h; exact lv_lshl hx hb hd rfl k
    · cases h
  · split at h
    · cases h; exact lv_lushr hx hb hd rfl k
    · cases h
  · split at h
    · cases h; exact W.lcmp hx hb hd k
    · cases h
  · split at h
    · cases h; exact lv_i2l hx hb hd rfl k
    · cases h
  · split at h
    · cases h; exact lv_l2i hx hb hd rfl k
    · cases h
  · split at h
    · cases h; exact lv_i2b hx hb hd rfl k
    · cases h
  · split at h
    · cases h; exact lv_i2c hx hb hd rfl k
    · cases h
  · split at h
    · split at h
      next hc => cases h; exact lv_dup hx hb hd ((g_sh_cat ad cst _).trans hc) k
      · cases h
    · cases h
  · split at h
    · split at h
      next hc => cases h; exact lv_dup2_11 hx hb hd ((g_sh_cat ad cst _).trans hc.1) ((g_sh_cat ad cst _).trans hc.2) k
      · cases h
    · cases h
  · split at h
    · split at h
      next hc => cases h; exact lv_pop hx hb hd ((g_sh_cat ad cst _).trans hc) k
      · cases h
    · cases h
  · cases h
end GP
