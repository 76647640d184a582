/-! WHAT THE HEAP'S INSTRUCTIONS ASK -/
def gf (o : Option (Nat × List Value)) (c i : Nat) (K : Value → Prop) : Prop := match o with
  | some q => q.1 = c ∧ (match q.2[i]? with
    | some v => K v
    | none => False)
  | none => False
def pf (o : Option (Nat × List Value)) (c i k : Nat) (v : Value) (K : Nat × List Value → Prop) : Prop := match o with
  | some q => (q.1 = c ∧ i < q.2.length ∧ ip_fit k v = true) ∧ K (q.1, q.2.set i v)
  | none => False
def sf (h : Hp) (a c i k : Nat) (v : Value) (K : Hp → Prop) : Prop := pf (ip_obj h a) c i k v (fun q => K (ip_put h a (.inr q)))
def acp (h : Hp) (As : List Value) (K : Hp → Prop) : Prop := match ip_cp h As with
  | some h' => K h'
  | none => False
def gi (L : Nat) (xs : Nat → Int32) (h : Hp) (t a : Nat) (i : Int32) (K : Int32 → Prop) : Prop := if a = 31 ∧ t = 0 then ip_in i L = true ∧ K (xs i.toNatClampNeg) else if a = 33 ∧ t = 3 then ip_in i 8 = true ∧ K (ip_lit.getD i.toNatClampNeg 0) else match ip_arr h a with
  | some (t', n, .inl f) => t' = t ∧ ip_in i n = true ∧ K (f i.toNatClampNeg)
  | _ => False
def gl (h : Hp) (a : Nat) (i : Int32) (K : Int64 → Prop) : Prop := match ip_arr h a with
  | some (t', n, .inr (.inl f)) => t' = 1 ∧ ip_in i n = true ∧ K (f i.toNatClampNeg)
  | _ => False
def gr (h : Hp) (a : Nat) (i : Int32) (K : Nat → Prop) : Prop := if a = 30 then ip_in i 30 = true ∧ K i.toNatClampNeg else match ip_arr h a with
  | some (t', n, .inr (.inr (.inr (.inr f)))) => (4 ≤ t' ∧ t' ≤ 6) ∧ ip_in i n = true ∧ (match f i.toNatClampNeg with
    | some k => K k
    | none => False)
  | _ => False
def al (L : Nat) (h : Hp) (a : Nat) (K : Int32 → Prop) : Prop := if a = 31 then K (Int32.ofNat L) else if a = 30 then K 30 else if a = 33 then K 8 else match ip_arr h a with
  | some o => o.1 ≤ 6 ∧ K (Int32.ofNat o.2.1)
  | none => False
def na (t : Nat) (x : Int32) : Int32 := if t = 2 then vp_nar .char x else if t = 3 then vp_nar .boolean x else x
def si (h : Hp) (t a : Nat) (i x : Int32) (K : Hp → Prop) : Prop := match ip_arr h a with
  | some (t', n, .inl f) => t' = t ∧ ip_in i n = true ∧ K (ip_put h a (.inl (t, n, .inl (upd f i.toNatClampNeg (na t x)))))
  | _ => False
def sl (h : Hp) (a : Nat) (i : Int32) (x : Int64) (K : Hp → Prop) : Prop := match ip_arr h a with
  | some (t', n, .inr (.inl f)) => t' = 1 ∧ ip_in i n = true ∧ K (ip_put h a (.inl (1, n, .inr (.inl (vp_updL f i.toNatClampNeg x)))))
  | _ => False
def sr (h : Hp) (a : Nat) (i : Int32) (v : Nat) (K : Hp → Prop) : Prop := match ip_arr h a with
  | some (t', n, .inr (.inr (.inr (.inr f)))) => (4 ≤ t' ∧ t' ≤ 6) ∧ (ip_in i n = true ∧ ip_mem h t' v = true) ∧ K (ip_put h a (.inl (t', n, .inr (.inr (.inr (.inr (va_up f i.toNatClampNeg (some v))))))))
  | _ => False
def fr (o : Option Value) : Bool := match o with
  | some v => v.category == 1
  | none => true
def mx (x y : Int32) : Int32 := if x < y then y else x
def mn (x y : Int32) : Int32 := if y < x then y else x
def ab (x : Int32) : Int32 := if 0 ≤ x then x else 0 - x
def bo (x : Int32) : Bool := decide (x = 0) || decide (x = 1)
section OPS
variable {L : Nat} {xs : Nat → Int32} {d y pc : Nat} {ls : Lv} {st : List Value} {h : Hp} {P : Option Value → Hp → Prop} {M : Mt} {ins : Instr} {len r1 r2 r3 : Nat}
theorem fr_i {x : Int32} : fr (some (.int x)) = true := rfl
theorem fr_r {x : Nat} : fr (some (.ref x)) = true := rfl
theorem fr_n : fr none = true := rfl
theorem wp_gf {k a : Nat} (hM : ip_ms[y]? = some M) (hf : ip_fe M.2.2.2.2.2.2.2 pc = some (.getfield k, len, r1, r2, r3)) (h7 : r1 < 70) :
    Wp L xs d y pc ls (.ref a :: st) h P = gf (ip_obj h a) r1 r2 (fun v => Wp L xs d y (pc + 3) ls (v :: st) h P) := by
  rw [wp_nx hM hf (Or.inl rfl)]
  simp only [ip_st, ip_r1]
  by_cases h30 : a < 30
  · rw [if_pos h30, if_neg (by omega), show ip_obj h a = none from if_pos (by omega)]; rfl
  · rw [if_neg h30]
    by_cases h32 : a = 32
    · rw [if_pos h32, if_neg (by omega), show ip_obj h a = none from if_pos (by omega)]; rfl
    · rw [if_neg h32]
      unfold gf ip_ol
      cases ip_obj h a with
      | none => rfl
      | some o =>
        dsimp only
        by_cases ho : o.1 = r1
        · rw [if_pos ho]
          cases o.2[r2]? <;> simp [ho]
        · rw [if_neg ho]; simp [ho]
theorem wp_gw {k a : Nat} {w : Int64 × Int32 × Int32} (ha : ip_wd[a]? = some w) (hM : ip_ms[y]? = some M) (hf : ip_fe M.2.2.2.2.2.2.2 pc = some (.getfield k, len, 77, r2, r3)) (h30 : a < 30) :
    Wp L xs d y pc ls (.ref a :: st) h P = Wp L xs d y (pc + 3) ls (ip_wv r2 w :: st) h P := by
  rw [wp_nx hM hf (Or.inl rfl)]
  simp only [ip_st, ip_r1]
  rw [if_pos h30, if_pos trivial, ha]
  rfl
theorem wp_gs {k : Nat} (hM : ip_ms[y]? = some M) (hf : ip_fe M.2.2.2.2.2.2.2 pc = some (.getfield k, len, 78, r2, r3)) :
    Wp L xs d y pc ls (.ref 32 :: st) h P = Wp L xs d y (pc + 3) ls (ip_sv r2 :: st) h P := by
  rw [wp_nx hM hf (Or.inl rfl)]
  rfl
theorem wp_pf {k a : Nat} {v : Value} (hM : ip_ms[y]? = some M) (hf : ip_fe M.2.2.2.2.2.2.2 pc = some (.putfield k, len, r1, r2, r3)) :
    Wp L xs d y pc ls (v :: .ref a :: st) h P = pf (ip_obj h a) r1 r2 r3 v (fun q => Wp L xs d y (pc + 3) ls st (ip_put h a (.inr q)) P) := by
  rw [wp_nx hM hf (Or.inl rfl)]
  simp only [ip_st, ip_rv]
  unfold pf ip_ol
  cases ip_obj h a with
  | none => rfl
  | some o =>
    dsimp only
    by_cases ho : o.1 = r1 ∧ r2 < o.2.length ∧ ip_fit r3 v = true
    · rw [if_pos ho]; simp [ho]
    · rw [if_neg ho]; simp [ho]
theorem ip_arr_lo {a : Nat} (h64 : a < 64) : ip_arr h a = none := if_pos h64
theorem wp_gi {t a : Nat} {i : Int32} (hM : ip_ms[y]? = some M) (hf : ip_fe M.2.2.2.2.2.2.2 pc = some (ins, len, r1, r2, r3)) (ht : (ins = .iaload ∧ t = 0) ∨ (ins = .caload ∧ t = 2) ∨ (ins = .baload ∧ t = 3)) :
    Wp L xs d y pc ls (.int i :: .ref a :: st) h P = gi L xs h t a i (fun x => Wp L xs d y (pc + 1) ls (.int x :: st) h P) := by
  have key : ∀ o : Option (Nat × vp_A), (match ip_ai t o (fun n f => if ip_in i n = true then some (pc + 1, ls, .int (f i.toNatClampNeg) :: st, h) else none) with
      | none => False
      | some q => Wp L xs d y q.1 q.2.1 q.2.2.1 q.2.2.2 P) = (match o with
      | some (t', n, .inl f) => t' = t ∧ ip_in i n = true ∧ Wp L xs d y (pc + 1) ls (.int (f i.toNatClampNeg) :: st) h P
      | _ => False) := by
    intro o
    rcases o with _ | ⟨t', n, f | f | f | f | f⟩ <;> try rfl
    unfold ip_ai
    dsimp only
    by_cases h1 : t' = t
    · by_cases h2 : ip_in i n = true
      · simp [h1, h2]
      · simp [h1, h2]
    · simp [h1]
  rcases ht with ⟨rfl, rfl⟩ | ⟨rfl, rfl⟩ | ⟨rfl, rfl⟩
  · rw [wp_nx hM hf (Or.inl rfl)]
    simp only [ip_st, ip_ri]
    unfold gi
    by_cases h31 : a = 31
    · rw [if_pos h31, if_pos (show a = 31 ∧ (0 : Nat) = 0 from ⟨h31, rfl⟩)]
      by_cases h2 : ip_in i L = true <;> simp [h2]
    · rw [if_neg h31, if_neg (show ¬ (a = 31 ∧ (0 : Nat) = 0) from fun z => h31 z.1), if_neg (show ¬ (a = 33 ∧ (0 : Nat) = 3) from fun z => absurd z.2 (by decide))]
      exact key _
  · rw [wp_nx hM hf (Or.inl rfl)]
    simp only [ip_st, ip_ri]
    unfold gi
    rw [if_neg (show ¬ (a = 31 ∧ (2 : Nat) = 0) from fun z => absurd z.2 (by decide)), if_neg (show ¬ (a = 33 ∧ (2 : Nat) = 3) from fun z => absurd z.2 (by decide))]
    exact key _
  · rw [wp_nx hM hf (Or.inl rfl)]
    simp only [ip_st, ip_ri]
    unfold gi
    rw [if_neg (show ¬ (a = 31 ∧ (3 : Nat) = 0) from fun z => absurd z.2 (by decide))]
    by_cases h33 : a = 33
    · rw [if_pos h33, if_pos (show a = 33 ∧ (3 : Nat) = 3 from ⟨h33, rfl⟩)]
      by_cases h2 : ip_in i 8 = true <;> simp [h2]
    · rw [if_neg h33, if_neg (show ¬ (a = 33 ∧ (3 : Nat) = 3) from fun z => h33 z.1)]
      exact key _
theorem wp_gl {a : Nat} {i : Int32} (hM : ip_ms[y]? = some M) (hf : ip_fe M.2.2.2.2.2.2.2 pc = some (.laload, len, r1, r2, r3)) :
    Wp L xs d y pc ls (.int i :: .ref a :: st) h P = gl h a i (fun x => Wp L xs d y (pc + 1) ls (.long x :: st) h P) := by
  rw [wp_nx hM hf (Or.inl rfl)]
  simp only [ip_st, ip_ri]
  unfold gl
  rcases ip_arr h a with _ | ⟨t', n, f | f | f | f | f⟩ <;> try rfl
  unfold ip_al
  dsimp only
  by_cases h1 : t' = 1
  · by_cases h2 : ip_in i n = true
    · simp [h1, h2]
    · simp [h1, h2]
  · simp [h1]
theorem wp_gr {a : Nat} {i : Int32} (hM : ip_ms[y]? = some M) (hf : ip_fe M.2.2.2.2.2.2.2 pc = some (.aaload, len, r1, r2, r3)) :
    Wp L xs d y pc ls (.int i :: .ref a :: st) h P = gr h a i (fun x => Wp L xs d y (pc + 1) ls (.ref x :: st) h P) := by
  rw [wp_nx hM hf (Or.inl rfl)]
  simp only [ip_st, ip_ri]
  unfold gr
  by_cases h30 : a = 30
  · rw [if_pos h30, if_pos h30]
    by_cases h2 : ip_in i 30 = true <;> simp [h2]
  · rw [if_neg h30, if_neg h30]
    rcases ip_arr h a with _ | ⟨t', n, f | f | f | f | f⟩ <;> try rfl
    unfold ip_ar
    dsimp only
    by_cases h1 : 4 ≤ t' ∧ t' ≤ 6
    · by_cases h2 : ip_in i n = true
      · rw [if_pos h1, if_pos h2]
        unfold ip_ol
        cases f i.toNatClampNeg <;> simp [h1, h2]
      · simp [h1, h2]
    · rw [if_neg h1]; simp [h1]
theorem wp_al {a : Nat} (hM : ip_ms[y]? = some M) (hf : ip_fe M.2.2.2.2.2.2.2 pc = some (.arraylength, len, r1, r2, r3)) :
    Wp L xs d y pc ls (.ref a :: st) h P = al L h a (fun x => Wp L xs d y (pc + 1) ls (.int x :: st) h P) := by
  rw [wp_nx hM hf (Or.inl rfl)]
  simp only [ip_st, ip_r1]
  unfold al
  by_cases h31 : a = 31
  · rw [if_pos h31, if_pos h31]
  · rw [if_neg h31, if_neg h31]
    by_cases h30 : a = 30
    · rw [if_pos h30, if_pos h30]
    · rw [if_neg h30, if_neg h30]
      by_cases h33 : a = 33
      · rw [if_pos h33, if_pos h33]
      · rw [if_neg h33, if_neg h33]
        unfold ip_ol
        cases ip_arr h a with
        | none => rfl
        | some o =>
          dsimp only
          by_cases h6 : o.1 ≤ 6 <;> simp [h6]
theorem wp_si {t a : Nat} {i x : Int32} (hM : ip_ms[y]? = some M) (hf : ip_fe M.2.2.2.2.2.2.2 pc = some (ins, len, r1, r2, r3)) (ht : (ins = .iastore ∧ t = 0) ∨ (ins = .castore ∧ t = 2) ∨ (ins = .bastore ∧ t = 3)) :
    Wp L xs d y pc ls (.int x :: .int i :: .ref a :: st) h P = si h t a i x (fun h' => Wp L xs d y (pc + 1) ls st h' P) := by
  have key : ∀ o : Option (Nat × vp_A), (match ip_ai t o (fun n f => if ip_in i n = true then some (pc + 1, ls, st, ip_put h a (.inl (t, n, .inl (upd f i.toNatClampNeg (na t x))))) else none) with
      | none => False
      | some q => Wp L xs d y q.1 q.2.1 q.2.2.1 q.2.2.2 P) = (match o with
      | some (t', n, .inl f) => t' = t ∧ ip_in i n = true ∧ Wp L xs d y (pc + 1) ls st (ip_put h a (.inl (t, n, .inl (upd f i.toNatClampNeg (na t x))))) P
      | _ => False) := by
    intro o
    rcases o with _ | ⟨t', n, f | f | f | f | f⟩ <;> try rfl
    unfold ip_ai
    dsimp only
    by_cases h1 : t' = t
    · by_cases h2 : ip_in i n = true
      · simp [h1, h2]
      · simp [h1, h2]
    · simp [h1]
  rcases ht with ⟨rfl, rfl⟩ | ⟨rfl, rfl⟩ | ⟨rfl, rfl⟩ <;> (rw [wp_nx hM hf (Or.inl rfl)]; simp only [ip_st, ip_rii]; exact key _)
theorem wp_sl {a : Nat} {i : Int32} {x : Int64} (hM : ip_ms[y]? = some M) (hf : ip_fe M.2.2.2.2.2.2.2 pc = some (.lastore, len, r1, r2, r3)) :
    Wp L xs d y pc ls (.long x :: .int i :: .ref a :: st) h P = sl h a i x (fun h' => Wp L xs d y (pc + 1) ls st h' P) := by
  rw [wp_nx hM hf (Or.inl rfl)]
  simp only [ip_st, ip_ril]
  unfold sl
  rcases ip_arr h a with _ | ⟨t', n, f | f | f | f | f⟩ <;> try rfl
  unfold ip_al
  dsimp only
  by_cases h1 : t' = 1
  · by_cases h2 : ip_in i n = true
    · simp [h1, h2]
    · simp [h1, h2]
  · simp [h1]
theorem wp_sr {a : Nat} {i : Int32} {x : Nat} (hM : ip_ms[y]? = some M) (hf : ip_fe M.2.2.2.2.2.2.2 pc = some (.aastore, len, r1, r2, r3)) :
    Wp L xs d y pc ls (.ref x :: .int i :: .ref a :: st) h P = sr h a i x (fun h' => Wp L xs d y (pc + 1) ls st h' P) := by
  rw [wp_nx hM hf (Or.inl rfl)]
  simp only [ip_st, ip_rir]
  unfold sr
  rcases ip_arr h a with _ | ⟨t', n, f | f | f | f | f⟩ <;> try rfl
  unfold ip_ar
  dsimp only
  by_cases h1 : 4 ≤ t' ∧ t' ≤ 6
  · rw [if_pos h1]
    by_cases h2 : ip_in i n = true ∧ ip_mem h t' x = true
    · rw [if_pos h2]; simp [h1, h2]
    · rw [if_neg h2]; simp [h1, h2]
  · rw [if_neg h1]; simp [h1]
/-- a store into a local -/
theorem wp_s1 {i : Nat} {v : Value} {pc' : Nat} {ls' : Lv} {st' : List Value} (hM : ip_ms[y]? = some M) (hf : ip_fe M.2.2.2.2.2.2.2 pc = some (ins, len, r1, r2, r3)) (hk : ip_k ins = 0) (hs : ip_st L xs ins pc r1 r2 r3 ls st h = ip_ol (ip_s1 ls i v) fun ls => some (pc', ls, st', h)) (hi : i < ls.length) (hl : ls.set i (some v) = ls') {b : Bool} (hb : ip_free ls i = b) :
    Wp L xs d y pc ls st h P = (b = true ∧ Wp L xs d y pc' ls' st' h P) := by
  rw [wp_nx hM hf (Or.inl hk), hs]
  unfold ip_s1
  rw [hb]
  cases b
  · simp [ip_ol]
  · simp [ip_ol, hi, hl]
theorem wp_s2 {i : Nat} {v : Value} {pc' : Nat} {ls' : Lv} {st' : List Value} (hM : ip_ms[y]? = some M) (hf : ip_fe M.2.2.2.2.2.2.2 pc = some (ins, len, r1, r2, r3)) (hk : ip_k ins = 0) (hs : ip_st L xs ins pc r1 r2 r3 ls st h = ip_ol (ip_s2 ls i v) fun ls => some (pc', ls, st', h)) (hi : i + 1 < ls.length) (hl : (ls.set i (some v)).set (i + 1) none = ls') {b : Bool} (hb : ip_free ls i = b) :
    Wp L xs d y pc ls st h P = (b = true ∧ Wp L xs d y pc' ls' st' h P) := by
  rw [wp_nx hM hf (Or.inl hk), hs]
  unfold ip_s2
  rw [hb]
  cases b
  · simp [ip_ol]
  · simp [ip_ol, hi, hl]
/-- a step that must not divide by 0 -/
theorem wp_dv {c : Prop} [Decidable c] {pc' : Nat} {ls' : Lv} {st' : List Value} (hM : ip_ms[y]? = some M) (hf : ip_fe M.2.2.2.2.2.2.2 pc = some (ins, len, r1, r2, r3)) (hk : ip_k ins = 0) (hs : ip_st L xs ins pc r1 r2 r3 ls st h = if c then none else some (pc', ls', st', h)) :
    Wp L xs d y pc ls st h P = (¬ c ∧ Wp L xs d y pc' ls' st' h P) := by
  rw [wp_nx hM hf (Or.inl hk), hs]
  by_cases hc : c
  · rw [if_pos hc]; simp [hc]
  · rw [if_neg hc]; simp [hc]
/-- references to Words compared -/
theorem wp_ac {c : Prop} [Decidable c] {a b : Nat} {pc' pc2 : Nat} (ha : a < 30) (hb : b < 30) (hM : ip_ms[y]? = some M) (hf : ip_fe M.2.2.2.2.2.2.2 pc = some (ins, len, r1, r2, r3)) (hk : ip_k ins = 0) (hs : ip_st L xs ins pc r1 r2 r3 ls (.ref b :: .ref a :: st) h = if a < 30 ∧ b < 30 then (if c then some (pc', ls, st, h) else some (pc2, ls, st, h)) else none) :
    Wp L xs d y pc ls (.ref b :: .ref a :: st) h P = if c then Wp L xs d y pc' ls st h P else Wp L xs d y pc2 ls st h P := by
  rw [wp_nx hM hf (Or.inl hk), hs, if_pos ⟨ha, hb⟩]
  by_cases hc : c
  · rw [if_pos hc, if_pos hc]
  · rw [if_neg hc, if_neg hc]
theorem wp_rb {x : Int32} (hM : ip_ms[y]? = some M) (hf : ip_fe M.2.2.2.2.2.2.2 pc = some (.ireturn, len, r1, r2, r3)) (hr : M.2.2.2.1 = some .boolean) :
    Wp L xs d y pc ls [.int x] h P = (bo x = true ∧ P (some (.int x)) h) := by
  by_cases hb : bo x = true
  · rw [wp_rt (r := some (.int x)) hM hf rfl (by rw [hr]; show (if bo x = true then some (some (Value.int x), h) else none) = _; rw [if_pos hb])]
    simp [hb]
  · refine propext ⟨?_, fun z => absurd z.1 hb⟩
    rintro ⟨n, r, hr9, -⟩
    cases n with
    | zero => cases hr9
    | succ n =>
      exfalso
      rw [ip_run_eq, hM] at hr9
      dsimp only at hr9
      rw [hf] at hr9
      dsimp only at hr9
      rw [if_neg (fun z => absurd z.1 (by decide)), if_neg (by decide), if_pos (by decide), hr] at hr9
      change (if bo x = true then some (some (Value.int x), h) else none) = some r at hr9
      rw [if_neg hb] at hr9
      cases hr9
/-- the throw -/
theorem wp_th {k : Nat} (hM : ip_ms[y]? = some M) (hf : ip_fe M.2.2.2.2.2.2.2 pc = some (.new k, len, 99, r2, r3)) (hs : st = []) : Wp L xs d y pc ls st h P = P (some (.retAddr 7)) h := by
  subst hs
  refine wp_det (n := 1) (r := (some (.retAddr 7), h)) ?_
  rw [ip_run_eq, hM]
  dsimp only
  rw [hf]
  rfl
theorem sw_out {x : Int32} (lo hi : Int) (hh : ∀ k : Int, lo ≤ k → k ≤ hi → x ≠ Int32.ofInt k) : x.toInt < lo ∨ hi < x.toInt := by
  by_cases h1 : x.toInt < lo
  · exact Or.inl h1
  · by_cases h2 : hi < x.toInt
    · exact Or.inr h2
    · exact absurd (Int32.ofInt_toInt x).symm (hh x.toInt (by omega) (by omega))
theorem wp_na {t : ArrayType} {x : Int32} {c : Nat → AC} (hM : ip_ms[y]? = some M) (hf : ip_fe M.2.2.2.2.2.2.2 pc = some (.newarray t, len, r1, r2, r3)) (hl : len = 2) (hc : ∀ n, ip_new t n = some (c n)) :
    Wp L xs d y pc ls (.int x :: st) h P = (ip_in x 65536 = true ∧ Wp L xs d y (pc + 2) ls (.ref (64 + h.1.length) :: st) (h.1 ++ [c x.toNatClampNeg], h.2 + x.toNatClampNeg) P) := by
  rw [wp_nx hM hf (Or.inl rfl)]
  simp only [ip_st, ip_b1]
  by_cases hx : ip_in x 65536 = true
  · rw [if_pos hx, hc]; simp [hx, ip_ol]
  · rw [if_neg hx]; simp [hx]
theorem wp_nr {k : Nat} {x : Int32} (hM : ip_ms[y]? = some M) (hf : ip_fe M.2.2.2.2.2.2.2 pc = some (.anewarray k, len, r1, r2, r3)) (hr : 4 ≤ r1 ∧ r1 ≤ 6) :
    Wp L xs d y pc ls (.int x :: st) h P = (ip_in x 65536 = true ∧ Wp L xs d y (pc + 3) ls (.ref (64 + h.1.length) :: st) (h.1 ++ [.inl (r1, x.toNatClampNeg, .inr (.inr (.inr (.inr fun _ => none))))], h.2 + x.toNatClampNeg) P) := by
  rw [wp_nx hM hf (Or.inl rfl)]
  simp only [ip_st, ip_b1]
  by_cases hx : ip_in x 65536 = true
  · rw [if_pos ⟨hx, hr⟩]; simp [hx]
  · rw [if_neg (fun z => hx z.1)]; simp [hx]
/-- arraycopy -/
theorem wp_cp {k : Nat} {As rest : List Value} (hM : ip_ms[y]? = some M) (hf : ip_fe M.2.2.2.2.2.2.2 pc = some (.invokestatic k, len, r1, r2, 6)) (hp : ip_pop r2 [] st = some (As, rest)) (hw : decide ((rest.map fun v => v.category).sum ≤ 8) = true) :
    Wp L xs (d + 1) y pc ls st h P = (match ip_cp h As with
      | some h' => Wp L xs (d + 1) y (pc + 3) ls rest h' P
      | none => False) := by
  cases hc : ip_cp h As with
  | some h' => exact wp_prim (v := none) hM hf rfl hp hw (fun go => by show (ip_cp h As).map _ = _; rw [hc]; rfl)
  | none =>
    refine propext ⟨?_, fun z => z.elim⟩
    rintro ⟨n, r, hr9, -⟩
    cases n with
    | zero => cases hr9
    | succ n =>
      rw [wp_kal hM hf rfl hp hw] at hr9
      rw [show ∀ go, ip_cal go (d + 1) r1 6 h As = none from fun go => by show (ip_cp h As).map _ = _; rw [hc]; rfl] at hr9
      cases hr9
end OPS
theorem lsw2 {L : Nat} {xs : Nat → Int32} {x : Int32} {r1 r2 r3 : Nat} {ls : Lv} {st : List Value} {h : Hp} (c0 : ¬ x = nI 0) (c1 : ¬ x = nI 1) : ip_st L xs (.lookupswitch 61 #[(0, 25), (1, 43)]) 11 r1 r2 r3 ls (.int x :: st) h = some (72, ls, st, h) := by
  have d0 : ¬ x.toInt = 0 := fun z => c0 (Int32.toInt_inj.mp (z.trans (by decide)))
  have d1 : ¬ x.toInt = 1 := fun z => c1 (Int32.toInt_inj.mp (z.trans (by decide)))
  have hz : Op.lookupswitch.offset [(0, 25), (1, 43)] 61 x.toInt = 61 := by
    simp only [Op.lookupswitch.offset]
    rw [if_neg (by simpa using fun z : (0 : Int) = x.toInt => d0 z.symm), if_neg (by simpa using fun z : (1 : Int) = x.toInt => d1 z.symm)]
  unfold ip_st ip_b1
  dsimp only
  rw [hz, if_pos (by decide)]
  rfl
