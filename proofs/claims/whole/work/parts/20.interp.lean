/-! THE PURE INTERPRETER. A cell: an array (code of its element type, length, contents) or an object (number of its class in ip_cl, its fields). Addresses: 64 + k is the k-th cell made; 0..29 the Word constants, 30 Word.ALL, 31 the script, 32 the literal. -/
abbrev AC : Type := (Nat × vp_A) ⊕ (Nat × List Value)
abbrev Hp : Type := List AC × Nat
abbrev Lv : Type := List (Option Value)
def ip_tf : Nat → FieldType := fun k => match k with
  | 0 => .int
  | 1 => .long
  | 2 => .char
  | 3 => .boolean
  | 4 => .object RX10
  | 5 => .object RX7
  | _ => .object RX3
def ip_lg (ls : Lv) (i : Nat) : Option Value := match ls[i]? with
  | some o => o
  | none => none
/-- no long stands just ahead of place i -/
def ip_free (ls : Lv) (i : Nat) : Bool := match i with
  | 0 => true
  | j + 1 => match ip_lg ls j with
    | some v => v.category == 1
    | none => true
def ip_s1 (ls : Lv) (i : Nat) (v : Value) : Option Lv := if (decide (i < ls.length) && ip_free ls i) = true then some (ls.set i (some v)) else none
def ip_s2 (ls : Lv) (i : Nat) (v : Value) : Option Lv := if (decide (i + 1 < ls.length) && ip_free ls i) = true then some ((ls.set i (some v)).set (i + 1) none) else none
def ip_in (i : Int32) (n : Nat) : Bool := decide (0 ≤ i) && decide (i.toNatClampNeg < n)
def ip_fit (k : Nat) (v : Value) : Bool := match k % 10, v with
  | 0, .int _ => true
  | 1, .long _ => true
  | 2, .int x => decide (x = 0) || decide (x = 1)
  | 3, .ref _ => true
  | _, _ => false
def ip_wv (k : Nat) (w : Int64 × Int32 × Int32) : Value := match k with
  | 0 => .long w.1
  | 1 => .int w.2.1
  | _ => .int w.2.2
def ip_sv (k : Nat) : Value := match k with
  | 0 => .ref 33
  | _ => .int 0
def ip_lit : List Int32 := [40, 41, 60, 61, 43, 45, 42, 59]
def ip_ent (vs : List Value) : Lv := match vs with
  | [] => []
  | v :: r => if v.category = 2 then some v :: none :: ip_ent r else some v :: ip_ent r
def ip_pop : Nat → List Value → List Value → Option (List Value × List Value)
  | 0, acc, st => some (acc, st)
  | _ + 1, _, [] => none
  | n + 1, acc, v :: st => ip_pop n (v :: acc) st
def ip_new (t : ArrayType) (N : Nat) : Option AC := match t with
  | .int => some (.inl (0, N, .inl fun _ => 0))
  | .long => some (.inl (1, N, .inr (.inl fun _ => 0)))
  | .char => some (.inl (2, N, .inl fun _ => 0))
  | .boolean => some (.inl (3, N, .inl fun _ => 0))
  | _ => none
def ip_obj (h : Hp) (a : Nat) : Option (Nat × List Value) := if a < 64 then none else match h.1[a - 64]? with
  | some (.inr o) => some o
  | _ => none
def ip_arr (h : Hp) (a : Nat) : Option (Nat × vp_A) := if a < 64 then none else match h.1[a - 64]? with
  | some (.inl o) => some o
  | _ => none
def ip_put (h : Hp) (a : Nat) (c : AC) : Hp := (h.1.set (a - 64) c, h.2)
/-- may a reference v stand in an array of this code -/
def ip_mem (h : Hp) (t v : Nat) : Bool := match t with
  | 4 => decide (v < 30)
  | 5 => match ip_obj h v with
    | some o => o.1 == 7
    | none => false
  | 6 => match ip_obj h v with
    | some o => o.1 == 3
    | none => false
  | _ => false
abbrev Nx : Type := Nat × Lv × List Value × Hp
def ip_b1 (st : List Value) (g : Int32 → List Value → Option Nx) : Option Nx := match st with
  | .int x :: r => g x r
  | _ => none
def ip_b2 (st : List Value) (g : Int32 → Int32 → List Value → Option Nx) : Option Nx := match st with
  | .int y :: .int x :: r => g x y r
  | _ => none
def ip_l1 (st : List Value) (g : Int64 → List Value → Option Nx) : Option Nx := match st with
  | .long x :: r => g x r
  | _ => none
def ip_l2 (st : List Value) (g : Int64 → Int64 → List Value → Option Nx) : Option Nx := match st with
  | .long y :: .long x :: r => g x y r
  | _ => none
def ip_li (st : List Value) (g : Int64 → Int32 → List Value → Option Nx) : Option Nx := match st with
  | .int y :: .long x :: r => g x y r
  | _ => none
def ip_r1 (st : List Value) (g : Nat → List Value → Option Nx) : Option Nx := match st with
  | .ref a :: r => g a r
  | _ => none
def ip_r2 (st : List Value) (g : Nat → Nat → List Value → Option Nx) : Option Nx := match st with
  | .ref y :: .ref x :: r => g x y r
  | _ => none
def ip_ri (st : List Value) (g : Nat → Int32 → List Value → Option Nx) : Option Nx := match st with
  | .int i :: .ref a :: r => g a i r
  | _ => none
def ip_rii (st : List Value) (g : Nat → Int32 → Int32 → List Value → Option Nx) : Option Nx := match st with
  | .int x :: .int i :: .ref a :: r => g a i x r
  | _ => none
def ip_ril (st : List Value) (g : Nat → Int32 → Int64 → List Value → Option Nx) : Option Nx := match st with
  | .long x :: .int i :: .ref a :: r => g a i x r
  | _ => none
def ip_rir (st : List Value) (g : Nat → Int32 → Nat → List Value → Option Nx) : Option Nx := match st with
  | .ref x :: .int i :: .ref a :: r => g a i x r
  | _ => none
def ip_rv (st : List Value) (g : Nat → Value → List Value → Option Nx) : Option Nx := match st with
  | v :: .ref a :: r => g a v r
  | _ => none
def ip_v1 (st : List Value) (g : Value → List Value → Option Nx) : Option Nx := match st with
  | v :: r => g v r
  | _ => none
def ip_v2 (st : List Value) (g : Value → Value → List Value → Option Nx) : Option Nx := match st with
  | v :: w :: r => g v w r
  | _ => none
def ip_gi (o : Option Value) (g : Int32 → Option Nx) : Option Nx := match o with
  | some (.int x) => g x
  | _ => none
def ip_gl (o : Option Value) (g : Int64 → Option Nx) : Option Nx := match o with
  | some (.long x) => g x
  | _ => none
def ip_gr (o : Option Value) (g : Nat → Option Nx) : Option Nx := match o with
  | some (.ref x) => g x
  | _ => none
def ip_ol {α : Type} (o : Option α) (g : α → Option Nx) : Option Nx := match o with
  | some l => g l
  | none => none
/-- an array of ints of code t; of longs; of references -/
def ip_ai (t : Nat) (o : Option (Nat × vp_A)) (g : Nat → (Nat → Int32) → Option Nx) : Option Nx := match o with
  | some (t', n, .inl f) => if t' = t then g n f else none
  | _ => none
def ip_al (o : Option (Nat × vp_A)) (g : Nat → (Nat → Int64) → Option Nx) : Option Nx := match o with
  | some (t', n, .inr (.inl f)) => if t' = 1 then g n f else none
  | _ => none
def ip_ar (o : Option (Nat × vp_A)) (g : Nat → Nat → (Nat → Option Nat) → Option Nx) : Option Nx := match o with
  | some (t', n, .inr (.inr (.inr (.inr f)))) => if 4 ≤ t' ∧ t' ≤ 6 then g t' n f else none
  | _ => none
/-- an instruction that neither calls nor returns: the next pc, locals, stack, heap -/
def ip_st (L : Nat) (xs : Nat → Int32) (ins : Instr) (pc r1 r2 r3 : Nat) (ls : Lv) (st : List Value) (h : Hp) : Option Nx :=
  match ins with
  | .iconst i => some (pc + 1, ls, .int (Int32.ofInt i) :: st, h)
  | .bipush i => some (pc + 2, ls, .int (Int8.ofInt i).toInt32 :: st, h)
  | .sipush i => some (pc + 3, ls, .int (Int16.ofInt i).toInt32 :: st, h)
  | .lconst i => some (pc + 1, ls, .long (Int64.ofNat i) :: st, h)
  | .ldc _ => if r3 = 0 then some (pc + 2, ls, .int (Int32.ofNat r1) :: st, h) else some (pc + 2, ls, .ref 32 :: st, h)
  | .ldc_w _ => if r3 = 0 then some (pc + 3, ls, .int (Int32.ofNat r1) :: st, h) else none
  | .ldc2_w _ => some (pc + 3, ls, .long (Int64.ofNat r1) :: st, h)
  | .iload_n i => ip_gi (ip_lg ls i) fun x => some (pc + 1, ls, .int x :: st, h)
  | .iload i => ip_gi (ip_lg ls i) fun x => some (pc + 2, ls, .int x :: st, h)
  | .lload_n i => ip_gl (ip_lg ls i) fun x => some (pc + 1, ls, .long x :: st, h)
  | .lload i => ip_gl (ip_lg ls i) fun x => some (pc + 2, ls, .long x :: st, h)
  | .aload_n i => ip_gr (ip_lg ls i) fun x => some (pc + 1, ls, .ref x :: st, h)
  | .aload i => ip_gr (ip_lg ls i) fun x => some (pc + 2, ls, .ref x :: st, h)
  | .istore_n i => ip_b1 st fun x st => ip_ol (ip_s1 ls i (.int x)) fun ls => some (pc + 1, ls, st, h)
  | .istore i => ip_b1 st fun x st => ip_ol (ip_s1 ls i (.int x)) fun ls => some (pc + 2, ls, st, h)
  | .astore_n i => ip_r1 st fun x st => ip_ol (ip_s1 ls i (.ref x)) fun ls => some (pc + 1, ls, st, h)
  | .astore i => ip_r1 st fun x st => ip_ol (ip_s1 ls i (.ref x)) fun ls => some (pc + 2, ls, st, h)
  | .lstore_n i => ip_l1 st fun x st => ip_ol (ip_s2 ls i (.long x)) fun ls => some (pc + 1, ls, st, h)
  | .lstore i => ip_l1 st fun x st => ip_ol (ip_s2 ls i (.long x)) fun ls => some (pc + 2, ls, st, h)
  | .iinc i k => ip_gi (ip_lg ls i) fun x => ip_ol (ip_s1 ls i (.int (x + Int32.ofInt k))) fun ls => some (pc + 3, ls, st, h)
  | .iadd => ip_b2 st fun x y st => some (pc + 1, ls, .int (x + y) :: st, h)
  | .isub => ip_b2 st fun x y st => some (pc + 1, ls, .int (x - y) :: st, h)
  | .imul => ip_b2 st fun x y st => some (pc + 1, ls, .int (x * y) :: st, h)
  | .iand => ip_b2 st fun x y st => some (pc + 1, ls, .int (x &&& y) :: st, h)
  | .ior => ip_b2 st fun x y st => some (pc + 1, ls, .int (x ||| y) :: st, h)
  | .ixor => ip_b2 st fun x y st => some (pc + 1, ls, .int (x ^^^ y) :: st, h)
  | .idiv => ip_b2 st fun x y st => if y = 0 then none else some (pc + 1, ls, .int (x / y) :: st, h)
  | .irem => ip_b2 st fun x y st => if y = 0 then none else some (pc + 1, ls, .int (x - x / y * y) :: st, h)
  | .ineg => ip_b1 st fun x st => some (pc + 1, ls, .int (-x) :: st, h)
  | .ishl => ip_b2 st fun x y st => some (pc + 1, ls, .int (x <<< (y &&& 31)) :: st, h)
  | .ishr => ip_b2 st fun x y st => some (pc + 1, ls, .int (x >>> (y &&& 31)) :: st, h)
  | .iushr => ip_b2 st fun x y st => some (pc + 1, ls, .int (x.toUInt32 >>> (y.toUInt32 &&& Int32.toUInt32 31)).toInt32 :: st, h)
  | .ladd => ip_l2 st fun x y st => some (pc + 1, ls, .long (x + y) :: st, h)
  | .lsub => ip_l2 st fun x y st => some (pc + 1, ls, .long (x - y) :: st, h)
  | .lmul => ip_l2 st fun x y st => some (pc + 1, ls, .long (x * y) :: st, h)
  | .land => ip_l2 st fun x y st => some (pc + 1, ls, .long (x &&& y) :: st, h)
  | .lor => ip_l2 st fun x y st => some (pc + 1, ls, .long (x ||| y) :: st, h)
  | .ldiv => ip_l2 st fun x y st => if y = 0 then none else some (pc + 1, ls, .long (x / y) :: st, h)
  | .lrem => ip_l2 st fun x y st => if y = 0 then none else some (pc + 1, ls, .long (x - x / y * y) :: st, h)
  | .lshl => ip_li st fun x y st => some (pc + 1, ls, .long (x <<< (y.toInt64 &&& 63)) :: st, h)
  | .lshr => ip_li st fun x y st => some (pc + 1, ls, .long (x >>> (y.toInt64 &&& 63)) :: st, h)
  | .lushr => ip_li st fun x y st => some (pc + 1, ls, .long (x.toUInt64 >>> (y.toInt64.toUInt64 &&& Int64.toUInt64 63)).toInt64 :: st, h)
  | .lcmp => ip_l2 st fun x y st => some (pc + 1, ls, .int (lg_cmp x y) :: st, h)
  | .i2l => ip_b1 st fun x st => some (pc + 1, ls, .long x.toInt64 :: st, h)
  | .l2i => ip_l1 st fun x st => some (pc + 1, ls, .int x.toInt32 :: st, h)
  | .i2c => ip_b1 st fun x st => some (pc + 1, ls, .int (x.toUInt32 % 65536).toInt32 :: st, h)
  | .i2b => ip_b1 st fun x st => some (pc + 1, ls, .int x.toInt8.toInt32 :: st, h)
  | .dup => ip_v1 st fun v st => if v.category = 1 then some (pc + 1, ls, v :: v :: st, h) else none
  | .dup2 => ip_v2 st fun v w st => if v.category = 1 ∧ w.category = 1 then some (pc + 1, ls, v :: w :: v :: w :: st, h) else none
  | .pop => ip_v1 st fun v st => if v.category = 1 then some (pc + 1, ls, st, h) else none
  | .goto _ => some (r1, ls, st, h)
  | .ifCond c _ => ip_b1 st fun x st => match c with
    | .eq => if x = 0 then some (r1, ls, st, h) else some (pc + 3, ls, st, h)
    | .ne => if x = 0 then some (pc + 3, ls, st, h) else some (r1, ls, st, h)
    | .lt => if x < 0 then some (r1, ls, st, h) else some (pc + 3, ls, st, h)
    | .ge => if 0 ≤ x then some (r1, ls, st, h) else some (pc + 3, ls, st, h)
    | .gt => if 0 < x then some (r1, ls, st, h) else some (pc + 3, ls, st, h)
    | .le => if x ≤ 0 then some (r1, ls, st, h) else some (pc + 3, ls, st, h)
  | .if_icmp c _ => ip_b2 st fun x y st => match c with
    | .eq => if x = y then some (r1, ls, st, h) else some (pc + 3, ls, st, h)
    | .ne => if x = y then some (pc + 3, ls, st, h) else some (r1, ls, st, h)
    | .lt => if x < y then some (r1, ls, st, h) else some (pc + 3, ls, st, h)
    | .ge => if y ≤ x then some (r1, ls, st, h) else some (pc + 3, ls, st, h)
    | .gt => if y < x then some (r1, ls, st, h) else some (pc + 3, ls, st, h)
    | .le => if x ≤ y then some (r1, ls, st, h) else some (pc + 3, ls, st, h)
  | .if_acmp c _ => ip_r2 st fun x y st => if x < 30 ∧ y < 30 then (match c with
    | .eq => if x = y then some (r1, ls, st, h) else some (pc + 3, ls, st, h)
    | .ne => if x = y then some (pc + 3, ls, st, h) else some (r1, ls, st, h)) else none
  | .tableswitch _ lo hi offs => ip_b1 st fun x st => if x.toInt < lo ∨ hi < x.toInt then some (r1, ls, st, h) else ip_ol (offs[(x.toInt - lo).toNat]?) fun off =>
    if (0 : Int) ≤ (pc : Int) + off then some (((pc : Int) + off).toNat, ls, st, h) else none
  | .lookupswitch dflt ps => ip_b1 st fun x st => if (ps.toList.zip (ps.toList.drop 1)).all (fun (a, next) => a.1 < next.1) = true ∧ (0 : Int) ≤ (pc : Int) + Op.lookupswitch.offset ps.toList dflt x.toInt then some (((pc : Int) + Op.lookupswitch.offset ps.toList dflt x.toInt).toNat, ls, st, h) else none
  | .getstatic _ => if r3 = 0 then some (pc + 3, ls, .ref r1 :: st, h) else some (pc + 3, ls, .int 1 :: st, h)
  | .getfield _ => ip_r1 st fun a st => if a < 30 then (if r1 = 77 then ip_ol ip_wd[a]? fun w => some (pc + 3, ls, ip_wv r2 w :: st, h) else none)
      else if a = 32 then (if r1 = 78 then some (pc + 3, ls, ip_sv r2 :: st, h) else none) else ip_ol (ip_obj h a) fun o => if o.1 = r1 then ip_ol o.2[r2]? fun v => some (pc + 3, ls, v :: st, h) else none
  | .putfield _ => ip_rv st fun a v st => ip_ol (ip_obj h a) fun o => if o.1 = r1 ∧ r2 < o.2.length ∧ ip_fit r3 v = true then some (pc + 3, ls, st, ip_put h a (.inr (o.1, o.2.set r2 v))) else none
  | .arraylength => ip_r1 st fun a st => if a = 31 then some (pc + 1, ls, .int (Int32.ofNat L) :: st, h) else if a = 30 then some (pc + 1, ls, .int 30 :: st, h) else if a = 33 then some (pc + 1, ls, .int 8 :: st, h) else ip_ol (ip_arr h a) fun o => if o.1 ≤ 6 then some (pc + 1, ls, .int (Int32.ofNat o.2.1) :: st, h) else none
  | .iaload => ip_ri st fun a i st => if a = 31 then (if ip_in i L = true then some (pc + 1, ls, .int (xs i.toNatClampNeg) :: st, h) else none) else ip_ai 0 (ip_arr h a) fun n f => if ip_in i n = true then some (pc + 1, ls, .int (f i.toNatClampNeg) :: st, h) else none
  | .caload => ip_ri st fun a i st => ip_ai 2 (ip_arr h a) fun n f => if ip_in i n = true then some (pc + 1, ls, .int (f i.toNatClampNeg) :: st, h) else none
  | .baload => ip_ri st fun a i st => if a = 33 then (if ip_in i 8 = true then some (pc + 1, ls, .int (ip_lit.getD i.toNatClampNeg 0) :: st, h) else none) else ip_ai 3 (ip_arr h a) fun n f => if ip_in i n = true then some (pc + 1, ls, .int (f i.toNatClampNeg) :: st, h) else none
  | .laload => ip_ri st fun a i st => ip_al (ip_arr h a) fun n f => if ip_in i n = true then some (pc + 1, ls, .long (f i.toNatClampNeg) :: st, h) else none
  | .aaload => ip_ri st fun a i st => if a = 30 then (if ip_in i 30 = true then some (pc + 1, ls, .ref i.toNatClampNeg :: st, h) else none) else ip_ar (ip_arr h a) fun _ n f => if ip_in i n = true then ip_ol (f i.toNatClampNeg) fun k => some (pc + 1, ls, .ref k :: st, h) else none
  | .iastore => ip_rii st fun a i x st => ip_ai 0 (ip_arr h a) fun n f => if ip_in i n = true then some (pc + 1, ls, st, ip_put h a (.inl (0, n, .inl (upd f i.toNatClampNeg x)))) else none
  | .castore => ip_rii st fun a i x st => ip_ai 2 (ip_arr h a) fun n f => if ip_in i n = true then some (pc + 1, ls, st, ip_put h a (.inl (2, n, .inl (upd f i.toNatClampNeg (vp_nar .char x))))) else none
  | .bastore => ip_rii st fun a i x st => ip_ai 3 (ip_arr h a) fun n f => if ip_in i n = true then some (pc + 1, ls, st, ip_put h a (.inl (3, n, .inl (upd f i.toNatClampNeg (vp_nar .boolean x))))) else none
  | .lastore => ip_ril st fun a i x st => ip_al (ip_arr h a) fun n f => if ip_in i n = true then some (pc + 1, ls, st, ip_put h a (.inl (1, n, .inr (.inl (vp_updL f i.toNatClampNeg x))))) else none
  | .aastore => ip_rir st fun a i v st => ip_ar (ip_arr h a) fun t n f => if ip_in i n = true ∧ ip_mem h t v = true then some (pc + 1, ls, st, ip_put h a (.inl (t, n, .inr (.inr (.inr (.inr (va_up f i.toNatClampNeg (some v)))))))) else none
  | .new _ => ip_ol ip_df[r1]? fun fs => some (pc + 3, ls, .ref (64 + h.1.length) :: st, (h.1 ++ [.inr (r1, fs)], h.2 + fs.length))
  | .newarray t => ip_b1 st fun n st => if ip_in n 65536 = true then ip_ol (ip_new t n.toNatClampNeg) fun c => some (pc + 2, ls, .ref (64 + h.1.length) :: st, (h.1 ++ [c], h.2 + n.toNatClampNeg)) else none
  | .anewarray _ => ip_b1 st fun n st => if ip_in n 65536 = true ∧ 4 ≤ r1 ∧ r1 ≤ 6 then some (pc + 3, ls, .ref (64 + h.1.length) :: st, (h.1 ++ [.inl (r1, n.toNatClampNeg, .inr (.inr (.inr (.inr fun _ => none))))], h.2 + n.toNatClampNeg)) else none
  | _ => none
def ip_fe (cd : List En) (pc : Nat) : Option (Instr × Nat × Nat × Nat × Nat) := match cd with
  | [] => none
  | e :: r => if e.1 = pc then some e.2 else ip_fe r pc
/-- System.arraycopy of int or long rows -/
def ip_cp (h : Hp) (As : List Value) : Option Hp := match As with
  | [.ref a, .int sp, .ref b, .int dp, .int n] => if 0 ≤ sp ∧ 0 ≤ dp ∧ 0 ≤ n then match ip_arr h a, ip_arr h b with
    | some (0, n0, .inl f), some (0, n1, .inl g) => if sp.toNatClampNeg + n.toNatClampNeg ≤ n0 ∧ dp.toNatClampNeg + n.toNatClampNeg ≤ n1 then some (ip_put h b (.inl (0, n1, .inl (va_cpy f g sp.toNatClampNeg dp.toNatClampNeg n.toNatClampNeg)))) else none
    | some (1, n0, .inr (.inl f)), some (1, n1, .inr (.inl g)) => if sp.toNatClampNeg + n.toNatClampNeg ≤ n0 ∧ dp.toNatClampNeg + n.toNatClampNeg ≤ n1 then some (ip_put h b (.inl (1, n1, .inr (.inl (va_cpy f g sp.toNatClampNeg dp.toNatClampNeg n.toNatClampNeg))))) else none
    | _, _ => none
    else none
  | _ => none
/-- Math.max, min, abs -/
def ip_ma (k : Nat) (As : List Value) : Option Value := match As with
  | [.int x, .int y] => if k = 10 then some (.int (if x < y then y else x)) else if k = 11 then some (.int (if y < x then y else x)) else none
  | [.int x] => if k = 12 then some (.int (if 0 ≤ x then x else 0 - x)) else none
  | _ => none
def ip_rok (k : Nat) (ret : Option FieldType) (v : Value) : Bool := match k, ret, v with
  | 2, some .int, .int _ => true
  | 2, some .boolean, .int x => decide (x = 0) || decide (x = 1)
  | 2, some .byte, .int x => decide (x = 0)
  | 3, some .long, .long _ => true
  | 4, some (.object _), .ref _ => true
  | _, _, _ => false
/-- the kind of an instruction: 0 plain, 1 to 4 returns, 5 to 7 calls, 8 a new -/
def ip_k (ins : Instr) : Nat := match ins with
  | .return_ => 1
  | .ireturn => 2
  | .lreturn => 3
  | .areturn => 4
  | .invokevirtual _ => 5
  | .invokestatic _ => 6
  | .invokespecial _ => 7
  | .new _ => 8
  | _ => 0
def ip_ret (k : Nat) (ret : Option FieldType) (st : List Value) (h : Hp) : Option (Option Value × Hp) := match st with
  | [] => if k = 1 ∧ ret = none then some (none, h) else none
  | [v] => if ip_rok k ret v = true then some (some v, h) else none
  | _ => none
/-- the receiver is an object of the method's own class -/
def ip_rc (h : Hp) (ci : Nat) (As : List Value) : Bool := match As with
  | .ref a :: _ => if a = 32 then ci == 17 else match ip_obj h a with
    | some o => o.1 == ci
    | none => false
  | _ => false
def ip_loc (As : List Value) (n : Nat) : Lv := ip_ent As ++ List.replicate (n - (ip_ent As).length) none
/-- behind the law's own order(..): what the class's order(..) gave, or that it threw -/
def ip_or (r : Option Value × Hp) (o : Nat) : Option (Value × Hp) := match r.1 with
  | some (.retAddr 7) => some (.int 1, (r.2.1 ++ [.inr (12, [])], r.2.2 + 6))
  | some (.int v) => match ip_arr r.2 o with
    | some (1, 1, .inr (.inl f)) => some (.int 0, ip_put r.2 o (.inl (1, 1, .inr (.inl (vp_updL f 0 v.toInt64)))))
    | _ => none
  | _ => none
/-- a call: what it gives, by its kind r3; 'go' runs a method from its entry -/
def ip_cal (go : Nat → Nat → Lv → Hp → Option (Option Value × Hp)) (d r1 r3 : Nat) (h : Hp) (As : List Value) : Option (Option Value × Hp) := match r3 with
  | 5 => match As with
    | [.ref _] => some (none, h)
    | _ => none
  | 6 => (ip_cp h As).map fun h' => (none, h')
  | 7 => none
  | 8 => if 8 ≤ d then match As with
    | [.ref x, .int a, .int b, .ref o] => if ip_rc h 10 [.ref x] = true then match go (d - 2) iy_X11_order (ip_loc [.ref x, .int a, .int b] 3) h with
      | some r => (ip_or r o).map fun q => (some q.1, q.2)
      | none => none
      else none
    | _ => none
    else none
  | 9 => none
  | 10 => (ip_ma 10 As).map fun v => (some v, h)
  | 11 => (ip_ma 11 As).map fun v => (some v, h)
  | 12 => (ip_ma 12 As).map fun v => (some v, h)
  | r3 => match ip_ms[r1]? with
    | none => none
    | some M' => if ((r3 = 1 ∨ r3 = 3) ∨ ip_rc h M'.2.2.2.2.1 As = true) ∧ (ip_ent As).length ≤ M'.2.2.1 then
        match go (d - 1) r1 (ip_loc As M'.2.2.1) h with
        | some (v, h') => if v = some (.retAddr 7) then none else some (v, h')
        | none => none
      else none
