/-! the constructors' cells as functions of the object's place -/
section P7
variable {L : Nat} {xs : Nat → Int32} {d : Nat} {P : Option Value → Hp → Prop} {p t u : List AC} {z c i k m a b : Nat} {v : Value} {vs : List Value} {K : Hp → Prop}
theorem ob_at : ip_obj (p ++ .inr (c, vs) :: t, z) (64 + p.length) = some (c, vs) := by
  unfold ip_obj
  rw [if_neg (by omega), show 64 + p.length - 64 = p.length by omega]
  dsimp only
  rw [List.getElem?_append_right (Nat.le_refl _), Nat.sub_self]
  rfl
theorem sf_ap (hi : i < vs.length) (hk : ip_fit k v = true) : sf ((p ++ .inr (c, vs) :: t) ++ u, z) (64 + p.length) c i k v K = K (p ++ .inr (c, vs.set i v) :: (t ++ u), z) := by
  rw [List.append_assoc, List.cons_append]; exact sf_at hi hk
theorem gf_at {K : Value → Prop} (hv : vs[i]? = some v) : gf (ip_obj (p ++ .inr (c, vs) :: t, z) (64 + p.length)) c i K = K v := by
  rw [ob_at]
  unfold gf
  dsimp only
  rw [hv]
  exact propext ⟨fun q => q.2, fun q => ⟨rfl, q⟩⟩
theorem gf_ap {K : Value → Prop} (hv : vs[i]? = some v) : gf (ip_obj ((p ++ .inr (c, vs) :: t) ++ u, z) (64 + p.length)) c i K = K v := by
  rw [List.append_assoc, List.cons_append]; exact gf_at hv
theorem rc_at {r : List Value} : (ip_rc (p ++ [.inr (c, vs)], z) c (.ref (64 + p.length) :: r) = true) = True := by
  unfold ip_rc
  dsimp only
  rw [if_neg (show ¬ (64 + p.length = 32) by omega), ob_at]
  simp
theorem sr_at {n w : Nat} {f : Nat → Option Nat} (hi : i < n) (hn : n ≤ 2000) (ht : 4 ≤ c ∧ c ≤ 6) (hm : ip_mem (p ++ .inl (c, n, .inr (.inr (.inr (.inr f)))) :: t, z) c w = true) : sr (p ++ .inl (c, n, .inr (.inr (.inr (.inr f)))) :: t, z) (64 + p.length) (nI i) w K = K (p ++ .inl (c, n, .inr (.inr (.inr (.inr (va_up f i (some w)))))) :: t, z) := by
  have e : ip_arr (p ++ .inl (c, n, .inr (.inr (.inr (.inr f)))) :: t, z) (64 + p.length) = some (c, n, .inr (.inr (.inr (.inr f)))) := by
    unfold ip_arr
    rw [if_neg (by omega), show 64 + p.length - 64 = p.length by omega]
    dsimp only
    rw [List.getElem?_append_right (Nat.le_refl _), Nat.sub_self]
    rfl
  have e2 : ∀ q, ip_put (p ++ .inl (c, n, .inr (.inr (.inr (.inr f)))) :: t, z) (64 + p.length) q = (p ++ q :: t, z) := by
    intro q
    unfold ip_put
    rw [show 64 + p.length - 64 = p.length by omega]
    dsimp only
    rw [List.set_append_right _ _ (Nat.le_refl _), Nat.sub_self]
    rfl
  have hin : ip_in (nI i) n = true := by
    unfold ip_in
    simp
    exact ⟨by rw [show (0 : Int32) = nI 0 from rfl]; exact of_eq_true (leT (by omega) (by omega)), by rw [nI_clamp (by omega)]; omega⟩
  unfold sr
  rw [e]
  dsimp only
  rw [e2, nI_clamp (by omega)]
  exact propext ⟨fun q => q.2.2, fun q => ⟨ht, ⟨hin, hm⟩, q⟩⟩
theorem sr_a2 {n w : Nat} {f : Nat → Option Nat} (ha : a = 64 + p.length) (hi : i < n) (hn : n ≤ 2000) (ht : 4 ≤ c ∧ c ≤ 6) (hm : ip_mem (p ++ .inl (c, n, .inr (.inr (.inr (.inr f)))) :: t, z) c w = true) : sr (p ++ .inl (c, n, .inr (.inr (.inr (.inr f)))) :: t, z) a (nI i) w K = K (p ++ .inl (c, n, .inr (.inr (.inr (.inr (va_up f i (some w)))))) :: t, z) := by
  subst ha
  exact sr_at hi hn ht hm
def c109 (m n : Nat) : List AC := .inr (9, [.int 0, .ref (64 + (n + 1)), .ref (64 + (n + 2)), .ref (64 + (n + 3))]) :: [.inl (0, m, .inl fun _ => 0), .inl (0, m, .inl fun _ => 0), .inl (0, m, .inl fun _ => 0)]
theorem c109_len {n : Nat} : (c109 m n).length = 4 := rfl
theorem k_i109 (hm : m ≤ 1000) : Wp L xs (d + 1) 109 0 [some (.ref (64 + p.length)), some (.int (nI m))] [] (p ++ [.inr (9, [.int 0, .null, .null, .null])], z) P = P none (p ++ c109 m p.length, z + (m + m + m)) := by
  rw [k_init109 hm]
  unfold c109
  rw [show 65 + p.length = 64 + (p.length + 1) by omega, show 66 + p.length = 64 + (p.length + 2) by omega, show 67 + p.length = 64 + (p.length + 3) by omega, Nat.add_assoc, Nat.add_assoc, Nat.add_assoc]
def c1 (n : Nat) : List AC := .inr (0, [.int 0, .int 0, .int 0, .ref (64 + (n + 1)), .ref (64 + (n + 2)), .ref (64 + (n + 3)), .ref (64 + (n + 4)), .ref (64 + (n + 5)), .ref (64 + (n + 6))]) :: [.inl (0, 8, .inl fun _ => 0), .inl (0, 8, .inl fun _ => 0), .inl (0, 8, .inl fun _ => 0), .inl (0, 8, .inl fun _ => 0), .inl (0, 8, .inl fun _ => 0), .inl (1, 8, .inr (.inl fun _ => 0))]
theorem c1_len {n : Nat} : (c1 n).length = 7 := rfl
theorem k_i1 : Wp L xs (d + 1) 1 0 [some (.ref (64 + p.length))] [] (p ++ [.inr (0, [.int 0, .int 0, .int 0, .null, .null, .null, .null, .null, .null])], z) P = P none (p ++ c1 p.length, z + 48) := k_init1
def c15 (n : Nat) : List AC := .inr (2, [.ref (64 + (n + 1)), .int 0, .ref (64 + (n + 2)), .int 0]) :: [.inl (0, 1000, .inl fun _ => 0), .inl (0, 64, .inl fun _ => 0)]
theorem c15_len {n : Nat} : (c15 n).length = 3 := rfl
theorem k_i15 : Wp L xs (d + 1) 15 0 [some (.ref (64 + p.length))] [] (p ++ [.inr (2, [.null, .int 0, .null, .int 0])], z) P = P none (p ++ c15 p.length, z + 1064) := k_init15
def c85 (n : Nat) : List AC := .inr (7, [.int 0, .int 0, .ref (64 + (n + 1)), .ref (64 + (n + 2)), .ref (64 + (n + 3)), .ref (64 + (n + 4)), .ref (64 + (n + 5)), .ref (64 + (n + 6)), .ref (64 + (n + 7)), .ref (64 + (n + 8)), .ref (64 + (n + 9)), .ref (64 + (n + 10)), .ref (64 + (n + 11))]) :: [.inl (0, 40, .inl fun _ => 0), .inl (0, 40, .inl fun _ => 0), .inl (0, 40, .inl fun _ => 0), .inl (0, 40, .inl fun _ => 0), .inl (0, 40, .inl fun _ => 0), .inl (0, 40, .inl fun _ => 0), .inl (0, 5, .inl fun _ => 0), .inl (0, 20, .inl fun _ => 0), .inl (0, 8, .inl fun _ => 0), .inl (0, 8, .inl fun _ => 0), .inl (0, 8, .inl fun _ => 0)]
theorem c85_len {n : Nat} : (c85 n).length = 12 := rfl
theorem k_i85 : Wp L xs (d + 1) 85 0 [some (.ref (64 + p.length))] [] (p ++ [.inr (7, [.int 0, .int 0, .null, .null, .null, .null, .null, .null, .null, .null, .null, .null, .null])], z) P = P none (p ++ c85 p.length, z + 289) := k_init85
def rT (i : Nat) : Nat → Option Nat := fun k => if k < i then some 29 else none
def aT (i : Nat) : AC := .inl (4, 1001, .inr (.inr (.inr (.inr (rT i)))))
theorem rT_0 : rT 0 = fun _ => none := by
  funext k
  unfold rT
  rw [if_neg (by omega)]
theorem aT_0 : (.inl (4, 1001, .inr (.inr (.inr (.inr fun _ => none)))) : AC) = aT 0 := by
  unfold aT
  rw [rT_0]
theorem rT_up {i : Nat} : va_up (rT i) i (some 29) = rT (i + 1) := by
  funext k
  unfold va_up rT
  by_cases h : k = i
  · subst h; rw [if_pos rfl, if_pos (by omega)]
  · rw [if_neg h]
    by_cases h2 : k < i
    · rw [if_pos h2, if_pos (by omega)]
    · rw [if_neg h2, if_neg (by omega)]
theorem k_l100 (hl : u.length = 5) (hv : vs[6]? = some (.ref (64 + (p.length + 6)))) (n : Nat) : ∀ i, i + n = 1001 → Wp L xs d 100 61 [some (.ref (64 + p.length)), some (.int (nI i))] [] (p ++ .inr (8, vs) :: (u ++ [aT i]), z) P = P none (p ++ .inr (8, vs) :: (u ++ [aT 1001]), z) := by
  induction n with
  | zero =>
    intro i hi
    obtain rfl : i = 1001 := by omega
    rw [w100_61, w100_62, w100_65, if_pos (of_eq_true (ltT (by omega) (by omega))), w100_83]
  | succ n ih =>
    intro i hi
    have e1 : p ++ .inr (8, vs) :: (u ++ [aT i]) = (p ++ .inr (8, vs) :: u) ++ [aT i] := by rw [List.append_assoc, List.cons_append]
    have e2 : (p ++ .inr (8, vs) :: u).length = p.length + 6 := by rw [List.length_append, List.length_cons, hl]
    rw [w100_61, w100_62, w100_65, if_neg (fun q => absurd q (by rw [ltF (by omega) (by omega)]; exact id)), w100_68, w100_69, gf_at hv, w100_72, w100_73, w100_76, e1]
    unfold aT
    rw [sr_a2 (i := i) (n := 1001) (by rw [e2]) (by omega) (by omega) ⟨by decide, by decide⟩ rfl, rT_up, w100_77, frT2, true_and, w100_80, nI_add, List.append_assoc, List.cons_append]
    exact ih (i + 1) (by omega)
def c100 (n : Nat) : List AC := .inr (8, [.ref (64 + (n + 1)), .int 0, .ref (64 + (n + 2)), .ref (64 + (n + 3)), .ref (64 + (n + 4)), .ref (64 + (n + 5)), .ref (64 + (n + 6)), .int 0]) :: [.inl (2, 1000, .inl fun _ => 0), .inl (0, 1001, .inl fun _ => 0), .inl (0, 1001, .inl fun _ => 0), .inl (0, 1001, .inl fun _ => 0), .inl (1, 1001, .inr (.inl fun _ => 0)), aT 1001]
theorem c100_len {n : Nat} : (c100 n).length = 7 := rfl
theorem k_i100 : Wp L xs (d + 1) 100 0 [some (.ref (64 + p.length)), none] [] (p ++ [.inr (8, [.null, .int 0, .null, .null, .null, .null, .null, .int 0])], z) P = P none (p ++ c100 p.length, z + 6005) := by
  rw [k_init100, aT_0]
  exact k_l100 (u := [.inl (2, 1000, .inl fun _ => 0), .inl (0, 1001, .inl fun _ => 0), .inl (0, 1001, .inl fun _ => 0), .inl (0, 1001, .inl fun _ => 0), .inl (1, 1001, .inr (.inl fun _ => 0))]) rfl rfl 1001 0 rfl
def c49 (a b : Nat) : List AC := [.inr (5, [.ref a, .ref b, .int 0, .int 0])]
theorem k_i49 : Wp L xs (d + 1) 49 0 [some (.ref (64 + p.length)), some (.ref a), some (.ref b)] [] (p ++ [.inr (5, [.null, .null, .int 0, .int 0])], z) P = P none (p ++ c49 a b, z) := by
  unfold c49
  simp (discharger := first | omega | exact fit13 | (simp; done)) only [↓w49_0, ↓w49_1, ↓w49_4, ↓w49_5, ↓w49_6, ↓w49_9, ↓w49_10, ↓w49_11, ↓w49_14, List.append_assoc, List.cons_append, List.nil_append, sf_at, List.set_cons_succ, List.set_cons_zero]
def c74 (a n : Nat) : List AC := [.inr (6, [.ref a, .ref (64 + (n + 1)), .int 0]), .inl (0, 8, .inl fun _ => 0)]
theorem k_i74 : Wp L xs (d + 1) 74 0 [some (.ref (64 + p.length)), some (.ref a)] [] (p ++ [.inr (6, [.null, .null, .int 0])], z) P = P none (p ++ c74 a p.length, z + 8) := by
  have i8 : (ip_in (nI 8) 65536 = true) = True := eq_true (by decide)
  have c8 : (nI 8).toNatClampNeg = 8 := nI_clamp (by omega)
  unfold c74
  simp (discharger := first | omega | exact fit13 | (simp; done)) only [↓w74_0, ↓w74_1, ↓w74_4, ↓w74_5, ↓w74_7, ↓w74_9, ↓w74_12, ↓w74_13, ↓w74_14, ↓w74_17, i8, c8, true_and, List.append_assoc, List.cons_append, List.nil_append, List.length_append, List.length_cons, List.length_nil, sf_at, List.set_cons_succ, List.set_cons_zero]
def c22 (n : Nat) : List AC := .inr (3, [.int 0, .ref (64 + (n + 1)), .ref (64 + (n + 13)), .ref (64 + (n + 17))]) :: (c85 (n + 1) ++ c109 40 (n + 13) ++ c109 8 (n + 17))
theorem c22_len {n : Nat} : (c22 n).length = 21 := rfl
theorem fit3r {x : Nat} : ip_fit 3 (.ref x) = true := rfl
theorem k_i22 : Wp L xs (d + 2) 22 0 [some (.ref (64 + p.length))] [] (p ++ [.inr (3, [.int 0, .null, .null, .null])], z) P = P none (p ++ c22 p.length, z + 454) := by
  simp (discharger := first | omega | exact fit13 | (simp; done)) only [↓w22_0, ↓w22_1, ↓w22_4, ↓w22_5, ↓w22_8, ↓w22_9, ↓w22_12, ↓w22_15, ↓w22_16, ↓w22_19, ↓w22_20, ↓w22_22, ↓w22_25, ↓w22_28, ↓w22_29, ↓w22_32, ↓w22_33, ↓w22_35, ↓w22_38, ↓w22_41, ↓kc_i, ↓kc_l, ↓kc_r, ↓kc_n, rc_at, true_and, k_i85, k_i109, sf_ap, List.set_cons_succ, List.set_cons_zero]
  unfold c22
  simp only [List.length_append, List.length_cons, List.length_nil, c85_len, c109_len, List.nil_append, Nat.add_assoc, Nat.reduceAdd, List.append_assoc]
def c25 (a n : Nat) : List AC := .inr (4, [.ref a, .ref (64 + (n + 1)), .int 0, .int 0, .ref 29, .int 0]) :: c15 (n + 1)
theorem c25_len {n : Nat} : (c25 a n).length = 4 := rfl
theorem k_i25 : Wp L xs (d + 2) 25 0 [some (.ref (64 + p.length)), some (.ref a)] [] (p ++ [.inr (4, [.null, .null, .int 0, .int 0, .null, .int 0])], z) P = P none (p ++ c25 a p.length, z + 1068) := by
  simp (discharger := first | omega | exact fit13 | exact fit3r | (simp; done)) only [↓w25_0, ↓w25_1, ↓w25_4, ↓w25_5, ↓w25_8, ↓w25_9, ↓w25_12, ↓w25_15, ↓w25_16, ↓w25_19, ↓w25_22, ↓w25_23, ↓w25_24, ↓w25_27, ↓kc_i, ↓kc_l, ↓kc_r, ↓kc_n, rc_at, true_and, k_i15, sf_ap, sf_at, List.set_cons_succ, List.set_cons_zero]
  unfold c25
  simp only [List.length_append, List.length_cons, List.length_nil, c15_len, List.nil_append, Nat.add_assoc, Nat.reduceAdd]
def cH (n : Nat) : Nat → List AC
  | 0 => []
  | i + 1 => cH n i ++ c85 (n + 12 * i)
theorem cH_len {n : Nat} : ∀ i, (cH n i).length = 12 * i
  | 0 => rfl
  | i + 1 => by
    show (cH n i ++ c85 (n + 12 * i)).length = _
    rw [List.length_append, cH_len i, c85_len]; omega
def rH (s n i : Nat) : Nat → Option Nat := fun k => if k < i then some (64 + (n + s * k)) else none
theorem rH_up {s n i : Nat} : va_up (rH s n i) i (some (64 + (n + s * i))) = rH s n (i + 1) := by
  funext k
  unfold va_up rH
  by_cases h : k = i
  · subst h; rw [if_pos rfl, if_pos (by omega)]
  · rw [if_neg h]
    by_cases h2 : k < i
    · rw [if_pos h2, if_pos (by omega)]
    · rw [if_neg h2, if_neg (by omega)]
theorem mem85 {q : List AC} {n : Nat} : ip_mem (q ++ c85 n, z) 5 (64 + q.length) = true := by
  unfold ip_mem c85
  rw [ob_at]
  rfl
def a10 (n i : Nat) : AC := .inl (5, 17, .inr (.inr (.inr (.inr (rH 12 (n + 2) i)))))
def o10 (n : Nat) : AC := .inr (1, [.ref (64 + (n + 1)), .int 0, .int 0])
theorem k_l10 (n : Nat) : ∀ i z, i + n = 17 → Wp L xs (d + 2) 10 15 [some (.ref (64 + p.length)), some (.int (nI i))] [] (p ++ o10 p.length :: (a10 p.length i :: cH (p.length + 2) i), z) P = P none (p ++ o10 p.length :: (a10 p.length 17 :: cH (p.length + 2) 17), z + n * 302) := by
  induction n with
  | zero =>
    intro i z hi
    obtain rfl : i = 17 := by omega
    rw [w10_15, w10_16, w10_18, if_pos (of_eq_true (leT (by omega) (by omega))), w10_40, Nat.zero_mul]
    rfl
  | succ n ih =>
    intro i z hi
    have e1 : ∀ u, p ++ o10 p.length :: (a10 p.length i :: u) = (p ++ [o10 p.length]) ++ a10 p.length i :: u := fun u => by rw [List.append_assoc]; rfl
    rw [w10_15, w10_16, w10_18, if_neg (fun q => absurd q (by rw [leF (by omega) (by omega)]; exact id)), w10_21, w10_22]
    unfold o10
    rw [gf_at (v := .ref (64 + (p.length + 1))) rfl, w10_25, w10_26, w10_29, w10_30, rc_at, true_and]
    rw [k_i85, kc_n, w10_33]
    have e2 : (p ++ .inr (1, [.ref (64 + (p.length + 1)), .int 0, .int 0]) :: (a10 p.length i :: cH (p.length + 2) i)).length = p.length + 2 + 12 * i := by
      rw [List.length_append, List.length_cons, List.length_cons, cH_len]; omega
    rw [e2]
    have e3 : p ++ .inr (1, [.ref (64 + (p.length + 1)), .int 0, .int 0]) :: (a10 p.length i :: cH (p.length + 2) i) ++ c85 (p.length + 2 + 12 * i) = (p ++ [.inr (1, [.ref (64 + (p.length + 1)), .int 0, .int 0])]) ++ a10 p.length i :: cH (p.length + 2) (i + 1) := by
      show _ = _ ++ a10 p.length i :: (cH (p.length + 2) i ++ c85 (p.length + 2 + 12 * i))
      simp only [List.append_assoc, List.cons_append, List.nil_append]
    have hm : ∀ z, ip_mem ((p ++ [.inr (1, [.ref (64 + (p.length + 1)), .int 0, .int 0])]) ++ a10 p.length i :: cH (p.length + 2) (i + 1), z) 5 (64 + (p.length + 2 + 12 * i)) = true := by
      intro z
      rw [← e3, ← e2]
      exact mem85
    rw [e3]
    unfold a10 at hm ⊢
    rw [sr_a2 (i := i) (n := 17) (by rw [List.length_append]; rfl) (by omega) (by omega) ⟨by decide, by decide⟩ (hm _), rH_up, w10_34, frT2, true_and, w10_37, nI_add]
    have e4 := ih (i + 1) (z + 13 + 289) (by omega)
    unfold o10 a10 at e4
    rw [List.append_assoc]
    refine Eq.trans e4 ?_
    rw [show z + 13 + 289 + n * 302 = z + (n + 1) * 302 by omega]
def c10 (n : Nat) : List AC := o10 n :: (a10 n 17 :: cH (n + 2) 17)
theorem c10_len {n : Nat} : (c10 n).length = 206 := by
  unfold c10; rw [List.length_cons, List.length_cons, cH_len]
theorem k_i10 : Wp L xs (d + 2) 10 0 [some (.ref (64 + p.length)), none] [] (p ++ [.inr (1, [.null, .int 0, .int 0])], z) P = P none (p ++ c10 p.length, z + 5151) := by
  have i17 : (ip_in (nI 17) 65536 = true) = True := eq_true (by decide)
  have c17 : (nI 17).toNatClampNeg = 17 := nI_clamp (by omega)
  rw [w10_0, w10_1, w10_4, w10_5, w10_7, i17, true_and, c17, w10_10, sf_ap (by decide) fit13, w10_13, w10_14, frT2, true_and]
  have e := k_l10 (L := L) (xs := xs) (d := d) (P := P) (p := p) 17 0 (z + 17) rfl
  rw [show z + 17 + 17 * 302 = z + 5151 by omega] at e
  refine Eq.trans ?_ e
  rw [List.length_append]
  rfl
end P7
