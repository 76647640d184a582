def ip_len (ins : Instr) : Nat := match ins with
  | .bipush _ | .iload _ | .lload _ | .aload _ | .istore _ | .lstore _ | .astore _ | .ldc _ | .newarray _ => 2
  | .sipush _ | .ldc_w _ | .ldc2_w _ | .iinc _ _ | .goto _ | .ifCond _ _ | .if_icmp _ _ | .if_acmp _ _ | .getstatic _ | .getfield _ | .putfield _ | .invokevirtual _ | .invokestatic _ | .invokespecial _ | .new _ | .anewarray _ => 3
  | .tableswitch _ _ _ _ | .lookupswitch _ _ => 0
  | _ => 1
def ip_kf (t : FieldType) : Nat := match t with
  | .int => 0
  | .long => 1
  | .boolean => 2
  | .object _ => 3
  | .array _ => 3
  | _ => 9
/-- the links of an entry are those of the tables -/
def ip_ok (M : Mt) (e : En) : Bool := match e with
  | (pc, ins, len, r1, r2, r3) => (decide (ip_len ins = 0) || decide (ip_len ins = len)) && match ins with
    | .goto off => decide ((pc : Int) + off = (r1 : Int))
    | .ifCond _ off => decide ((pc : Int) + off = (r1 : Int))
    | .if_icmp _ off => decide ((pc : Int) + off = (r1 : Int))
    | .if_acmp _ off => decide ((pc : Int) + off = (r1 : Int))
    | .tableswitch off _ _ _ => decide ((pc : Int) + off = (r1 : Int))
    | .getfield i => if r1 = 77 then decide (r2 ≤ 2) && ip_WF.contains (M.2.2.2.2.1, i, r2) else if r1 = 78 then decide (r2 ≤ 1) && ip_SF.contains (M.2.2.2.2.1, i, r2) else ip_FL.contains (M.2.2.2.2.1, i, r1, r2)
    | .putfield i => ip_FL.contains (M.2.2.2.2.1, i, r1, r2) && decide (r3 % 10 = ip_kf (ip_ty r1 r2)) && (if (ip_fd r1 r2).2.2.2 = true then decide (M.2.2.2.2.2.1 = 2) && decide (M.2.2.2.2.1 = r1) else true)
    | .getstatic i => if r3 = 0 then decide (r1 ≤ 30) && ip_SL.contains (M.2.2.2.2.1, i, r1) else ip_CS.contains (M.2.2.2.2.1, i)
    | .ldc i => if r3 = 0 then ip_KI.contains (M.2.2.2.2.1, i, r1) else decide (i = 65) && decide (M.2.2.2.2.1 = 8)
    | .ldc_w i => ip_KI.contains (M.2.2.2.2.1, i, r1)
    | .ldc2_w i => ip_KL.contains (M.2.2.2.2.1, i, r1)
    | .new i => decide (r1 = 99) || ip_CL.contains (M.2.2.2.2.1, i, r1)
    | .anewarray i => ip_AL.contains (M.2.2.2.2.1, i, r1)
    | .invokevirtual i => (decide (r3 = 0) && ip_ML.contains (M.2.2.2.2.1, i, r1, 0)) || decide (r3 = 9)
    | .invokestatic i => (decide (r3 = 1) && ip_ML.contains (M.2.2.2.2.1, i, r1, 1)) || (decide (r3 = 3) && ip_ML.contains (M.2.2.2.2.1, i, r1, 3)) || (decide (r3 = 6) && ip_ML.contains (M.2.2.2.2.1, i, 0, 6) && decide (r2 = 5)) || decide (r3 = 9) || (decide (r3 = 8) && decide (M.2.2.2.2.1 = 12) && decide (i = 48) && decide (r2 = 4)) || (decide (r3 = 10) && ip_ML.contains (M.2.2.2.2.1, i, 0, 10) && decide (r2 = 2)) || (decide (r3 = 11) && ip_ML.contains (M.2.2.2.2.1, i, 0, 11) && decide (r2 = 2)) || (decide (r3 = 12) && ip_ML.contains (M.2.2.2.2.1, i, 0, 12) && decide (r2 = 1))
    | .invokespecial i => (decide (r3 = 2) && ip_ML.contains (M.2.2.2.2.1, i, r1, 2)) || (decide (r3 = 4) && ip_ML.contains (M.2.2.2.2.1, i, r1, 4)) || (decide (r3 = 5) && ip_ML.contains (M.2.2.2.2.1, i, 0, 5) && decide (r2 = 1)) || decide (r3 = 9)
    | _ => true
/-- an entry of the tables of calls: the callee is there, of that kind, with so many parameters -/
def ip_mok (e : Nat × Nat × Nat × Nat) : Bool := if 5 ≤ e.2.2.2 then true else match ip_ms[e.2.2.1]? with
  | some M => decide (0 < e.2.2.1) && (if e.2.2.2 = 0 then decide (M.2.2.2.2.2.1 = 1) else if e.2.2.2 = 1 ∨ e.2.2.2 = 3 then decide (M.2.2.2.2.2.1 = 0) else decide (M.2.2.2.2.2.1 = 2))
  | none => false
theorem ip_ML_ok : ip_ML.all ip_mok = true := by decide +kernel
/-- a call pops as many values as the callee has parameters -/
def ip_npk (e : En) : Bool := match e with
  | (_, ins, _, r1, r2, r3) => if ip_k ins < 5 ∨ 5 ≤ r3 ∨ ip_k ins = 8 then true else match ip_ms[r1]? with
    | some M => decide (r2 = M.2.2.2.2.2.2.1 + (if M.2.2.2.2.2.1 = 0 then 0 else 1))
    | none => false
def ip_che (M : Mt) (e : En) : Bool := decide (decode M.2.1 e.1 = .ok (e.2.1, e.2.2.1)) && ip_ok M e && ip_npk e
def ip_chk (M : Mt) : Bool := M.2.2.2.2.2.2.2.all (ip_che M)
theorem ip_ch2 {l : List En} {a n : Nat} {p : En → Bool} (h1 : ((l.drop a).take n).all p = true) (h2 : (l.drop (a + n)).all p = true) : (l.drop a).all p = true := by
  rw [← List.drop_drop] at h2
  rw [← List.take_append_drop n (l.drop a), List.all_append, h1, h2]
  rfl
theorem ip_ch0 {M : Mt} (h : (M.2.2.2.2.2.2.2.drop 0).all (ip_che M) = true) : ip_chk M = true := h
