/-! the class's constructor: field by field; the object is the first cell -/
set_option maxRecDepth 8192
section P8
variable {L : Nat} {xs : Nat → Int32} {d : Nat} {P : Option Value → Hp → Prop} {p t u : List AC} {z c i k m a b n : Nat} {v : Value} {vs : List Value} {K : Hp → Prop}
theorem sf_0 (hi : i < vs.length) (hk : ip_fit k v = true) : sf ((.inr (c, vs) :: t) ++ u, z) 64 c i k v K = K (.inr (c, vs.set i v) :: (t ++ u), z) := sf_ap (p := []) hi hk
theorem gf_0 {K : Value → Prop} (hv : vs[i]? = some v) : gf (ip_obj ((.inr (c, vs) :: t) ++ u, z) 64) c i K = K v := gf_ap (p := []) hv
theorem gf_1 {K : Value → Prop} (hv : vs[i]? = some v) : gf (ip_obj (.inr (c, vs) :: t, z) 64) c i K = K v := gf_at (p := []) hv
theorem q114_0 : Wp L xs (d + 1) 114 0 [some (.ref 64), none] [] (.inr (10, vs) :: t, z) P = Wp L xs (d + 1) 114 4 [some (.ref 64), none] [] (.inr (10, vs) :: t, z) P := by
  rw [w114_0, w114_1]
theorem q114_4 (hv : vs.length = 13) (hl : t.length = n) : Wp L xs (d + 4) 114 4 [some (.ref 64), none] [] (.inr (10, vs) :: t, z) P = Wp L xs (d + 4) 114 15 [some (.ref 64), none] [] (.inr (10, vs.set 0 (.ref (64 + (n + 1)))) :: (t ++ c100 (n + 1)), z + 6013) P := by
  have hw : 0 < vs.length := by omega
  simp (discharger := first | omega | exact fit13 | exact hw) only [w114_4, w114_5, w114_8, w114_9, w114_12, ↓kc_i, ↓kc_l, ↓kc_r, ↓kc_n, rc_at, true_and, k_i100, sf_0]
  simp only [List.length_cons, hl, Nat.add_assoc, Nat.reduceAdd]
theorem q114_15 (hv : vs.length = 13) (hl : t.length = n) (h0 : vs[0]? = some (.ref a)) : Wp L xs (d + 4) 114 15 [some (.ref 64), none] [] (.inr (10, vs) :: t, z) P = Wp L xs (d + 4) 114 30 [some (.ref 64), none] [] (.inr (10, vs.set 1 (.ref (64 + (n + 1)))) :: (t ++ c25 a (n + 1)), z + 1074) P := by
  have hw : 1 < vs.length := by omega
  simp (discharger := first | omega | exact fit13 | exact hw | exact h0) only [w114_15, w114_16, w114_19, w114_20, w114_21, w114_24, w114_27, ↓kc_i, ↓kc_l, ↓kc_r, ↓kc_n, rc_at, true_and, gf_0 h0, k_i25, sf_0]
  simp only [List.length_cons, hl, Nat.add_assoc, Nat.reduceAdd]
theorem q114_30 (hv : vs.length = 13) (hl : t.length = n) : Wp L xs (d + 4) 114 30 [some (.ref 64), none] [] (.inr (10, vs) :: t, z) P = Wp L xs (d + 4) 114 41 [some (.ref 64), none] [] (.inr (10, vs.set 2 (.ref (64 + (n + 1)))) :: (t ++ c1 (n + 1)), z + 57) P := by
  have hw : 2 < vs.length := by omega
  simp (discharger := first | omega | exact fit13 | exact hw) only [w114_30, w114_31, w114_34, w114_35, w114_38, ↓kc_i, ↓kc_l, ↓kc_r, ↓kc_n, rc_at, true_and, k_i1, sf_0]
  simp only [List.length_cons, hl, Nat.add_assoc, Nat.reduceAdd]
theorem q114_41 (hv : vs.length = 13) (hl : t.length = n) : Wp L xs (d + 4) 114 41 [some (.ref 64), none] [] (.inr (10, vs) :: t, z) P = Wp L xs (d + 4) 114 52 [some (.ref 64), none] [] (.inr (10, vs.set 3 (.ref (64 + (n + 1)))) :: (t ++ c1 (n + 1)), z + 57) P := by
  have hw : 3 < vs.length := by omega
  simp (discharger := first | omega | exact fit13 | exact hw) only [w114_41, w114_42, w114_45, w114_46, w114_49, ↓kc_i, ↓kc_l, ↓kc_r, ↓kc_n, rc_at, true_and, k_i1, sf_0]
  simp only [List.length_cons, hl, Nat.add_assoc, Nat.reduceAdd]
theorem q114_52 (hv : vs.length = 13) (hl : t.length = n) : Wp L xs (d + 4) 114 52 [some (.ref 64), none] [] (.inr (10, vs) :: t, z) P = Wp L xs (d + 4) 114 65 [some (.ref 64), none] [] (.inr (10, vs.set 4 (.ref (64 + (n + 1)))) :: (t ++ c109 40 (n + 1)), z + 124) P := by
  have hw : 4 < vs.length := by omega
  simp (discharger := first | omega | exact fit13 | exact hw) only [w114_52, w114_53, w114_56, w114_57, w114_59, w114_62, ↓kc_i, ↓kc_l, ↓kc_r, ↓kc_n, rc_at, true_and, k_i109, sf_0]
  simp only [List.length_cons, hl, Nat.add_assoc, Nat.reduceAdd]
theorem q114_65 (hv : vs.length = 13) (hl : t.length = n) : Wp L xs (d + 4) 114 65 [some (.ref 64), none] [] (.inr (10, vs) :: t, z) P = Wp L xs (d + 4) 114 78 [some (.ref 64), none] [] (.inr (10, vs.set 5 (.ref (64 + (n + 1)))) :: (t ++ c109 40 (n + 1)), z + 124) P := by
  have hw : 5 < vs.length := by omega
  simp (discharger := first | omega | exact fit13 | exact hw) only [w114_65, w114_66, w114_69, w114_70, w114_72, w114_75, ↓kc_i, ↓kc_l, ↓kc_r, ↓kc_n, rc_at, true_and, k_i109, sf_0]
  simp only [List.length_cons, hl, Nat.add_assoc, Nat.reduceAdd]
theorem q114_78 (hv : vs.length = 13) (hl : t.length = n) : Wp L xs (d + 4) 114 78 [some (.ref 64), none] [] (.inr (10, vs) :: t, z) P = Wp L xs (d + 4) 114 91 [some (.ref 64), none] [] (.inr (10, vs.set 6 (.ref (64 + (n + 1)))) :: (t ++ c109 8 (n + 1)), z + 28) P := by
  have hw : 6 < vs.length := by omega
  simp (discharger := first | omega | exact fit13 | exact hw) only [w114_78, w114_79, w114_82, w114_83, w114_85, w114_88, ↓kc_i, ↓kc_l, ↓kc_r, ↓kc_n, rc_at, true_and, k_i109, sf_0]
  simp only [List.length_cons, hl, Nat.add_assoc, Nat.reduceAdd]
theorem q114_91 (hv : vs.length = 13) (hl : t.length = n) : Wp L xs (d + 4) 114 91 [some (.ref 64), none] [] (.inr (10, vs) :: t, z) P = Wp L xs (d + 4) 114 102 [some (.ref 64), none] [] (.inr (10, vs.set 7 (.ref (64 + (n + 1)))) :: (t ++ c85 (n + 1)), z + 302) P := by
  have hw : 7 < vs.length := by omega
  simp (discharger := first | omega | exact fit13 | exact hw) only [w114_91, w114_92, w114_95, w114_96, w114_99, ↓kc_i, ↓kc_l, ↓kc_r, ↓kc_n, rc_at, true_and, k_i85, sf_0]
  simp only [List.length_cons, hl, Nat.add_assoc, Nat.reduceAdd]
theorem q114_102 (hv : vs.length = 13) (hl : t.length = n) : Wp L xs (d + 4) 114 102 [some (.ref 64), none] [] (.inr (10, vs) :: t, z) P = Wp L xs (d + 4) 114 113 [some (.ref 64), none] [] (.inr (10, vs.set 8 (.ref (64 + (n + 1)))) :: (t ++ c85 (n + 1)), z + 302) P := by
  have hw : 8 < vs.length := by omega
  simp (discharger := first | omega | exact fit13 | exact hw) only [w114_102, w114_103, w114_106, w114_107, w114_110, ↓kc_i, ↓kc_l, ↓kc_r, ↓kc_n, rc_at, true_and, k_i85, sf_0]
  simp only [List.length_cons, hl, Nat.add_assoc, Nat.reduceAdd]
theorem q114_113 (hv : vs.length = 13) (hl : t.length = n) (h2 : vs[2]? = some (.ref a)) : Wp L xs (d + 4) 114 113 [some (.ref 64), none] [] (.inr (10, vs) :: t, z) P = Wp L xs (d + 4) 114 128 [some (.ref 64), none] [] (.inr (10, vs.set 10 (.ref (64 + (n + 1)))) :: (t ++ c74 a (n + 1)), z + 11) P := by
  have hw : 10 < vs.length := by omega
  simp (discharger := first | omega | exact fit13 | exact hw) only [w114_113, w114_114, w114_117, w114_118, w114_119, w114_122, w114_125, ↓kc_i, ↓kc_l, ↓kc_r, ↓kc_n, rc_at, true_and, gf_0 h2, k_i74, sf_0]
  simp only [List.length_cons, hl, Nat.add_assoc, Nat.reduceAdd]
theorem q114_128 (hv : vs.length = 13) (hl : t.length = n) (h2 : vs[2]? = some (.ref a)) (h10 : vs[10]? = some (.ref b)) : Wp L xs (d + 4) 114 128 [some (.ref 64), none] [] (.inr (10, vs) :: t, z) P = Wp L xs (d + 4) 114 147 [some (.ref 64), none] [] (.inr (10, vs.set 9 (.ref (64 + (n + 1)))) :: (t ++ c49 a b), z + 4) P := by
  have hw : 9 < vs.length := by omega
  simp (discharger := first | omega | exact fit13 | exact hw) only [w114_128, w114_129, w114_132, w114_133, w114_134, w114_137, w114_138, w114_141, w114_144, ↓kc_i, ↓kc_l, ↓kc_r, ↓kc_n, rc_at, true_and, gf_0 h2, gf_0 h10, k_i49, sf_0]
  simp only [List.length_cons, hl]
theorem q114_147 (hv : vs.length = 13) (hl : t.length = n) : Wp L xs (d + 4) 114 147 [some (.ref 64), none] [] (.inr (10, vs) :: t, z) P = Wp L xs (d + 4) 114 158 [some (.ref 64), none] [] (.inr (10, vs.set 11 (.ref (64 + (n + 1)))) :: (t ++ c10 (n + 1)), z + 5154) P := by
  have hw : 11 < vs.length := by omega
  simp (discharger := first | omega | exact fit13 | exact hw) only [w114_147, w114_148, w114_151, w114_152, w114_155, ↓kc_i, ↓kc_l, ↓kc_r, ↓kc_n, rc_at, true_and, k_i10, sf_0]
  simp only [List.length_cons, hl, Nat.add_assoc, Nat.reduceAdd]
theorem mem22 {q : List AC} {n : Nat} : ip_mem (q ++ c22 n, z) 6 (64 + q.length) = true := by
  unfold ip_mem c22
  rw [ob_at]
  rfl
def a114 (i : Nat) : AC := .inl (6, 4, .inr (.inr (.inr (.inr (rH 21 272 i)))))
def cM : Nat → List AC
  | 0 => []
  | i + 1 => cM i ++ c22 (272 + 21 * i)
theorem cM_len : ∀ i, (cM i).length = 21 * i
  | 0 => rfl
  | i + 1 => by
    show (cM i ++ c22 (272 + 21 * i)).length = _
    rw [List.length_append, cM_len i, c22_len]; omega
theorem q114_158 (hv : vs.length = 13) (hl : t.length = 270) : Wp L xs (d + 4) 114 158 [some (.ref 64), none] [] (.inr (10, vs) :: t, z) P = Wp L xs (d + 4) 114 168 [some (.ref 64), some (.int (nI 0))] [] ((.inr (10, vs.set 12 (.ref 335)) :: t) ++ a114 0 :: cM 0, z + 4) P := by
  have i4 : (ip_in (nI 4) 65536 = true) = True := eq_true (by decide)
  have c4 : (nI 4).toNatClampNeg = 4 := nI_clamp (by omega)
  have hw : 12 < vs.length := by omega
  rw [w114_158, w114_159, w114_160, i4, true_and, c4, w114_163, sf_0 hw fit13, w114_166, w114_167, frT2, true_and, List.length_cons, hl]
  rfl
theorem k_l114 (hl : t.length = 270) (hv : vs[12]? = some (.ref 335)) (n : Nat) : ∀ i z, i + n = 4 → Wp L xs (d + 4) 114 168 [some (.ref 64), some (.int (nI i))] [] ((.inr (10, vs) :: t) ++ a114 i :: cM i, z) P = P none ((.inr (10, vs) :: t) ++ a114 4 :: cM 4, z + n * 458) := by
  induction n with
  | zero =>
    intro i z hi
    obtain rfl : i = 4 := by omega
    rw [w114_168, w114_169, w114_170, if_pos (of_eq_true (leT (by omega) (by omega))), w114_192, Nat.zero_mul]
    rfl
  | succ n ih =>
    intro i z hi
    have e2 : ((.inr (10, vs) :: t) ++ a114 i :: cM i : List AC).length = 272 + 21 * i := by
      rw [List.length_append, List.length_cons, List.length_cons, cM_len, hl]; omega
    rw [w114_168, w114_169, w114_170, if_neg (fun q => absurd q (by rw [leF (by omega) (by omega)]; exact id)), w114_173, w114_174, gf_0 hv, w114_177, w114_178, w114_181, w114_182, rc_at, true_and]
    rw [k_i22, kc_n, w114_185, e2]
    have e3 : (.inr (10, vs) :: t) ++ a114 i :: cM i ++ c22 (272 + 21 * i) = (.inr (10, vs) :: t) ++ a114 i :: cM (i + 1) := by
      show _ = _ ++ a114 i :: (cM i ++ c22 (272 + 21 * i))
      simp only [List.append_assoc, List.cons_append]
    have hm : ∀ z, ip_mem ((.inr (10, vs) :: t) ++ a114 i :: cM (i + 1), z) 6 (64 + (272 + 21 * i)) = true := by
      intro z
      rw [← e3, ← e2]
      exact mem22
    rw [e3]
    unfold a114 at hm ⊢
    rw [sr_a2 (i := i) (n := 4) (by rw [List.length_cons, hl]) (by omega) (by omega) ⟨by decide, by decide⟩ (hm _), rH_up, w114_186, frT2, true_and, w114_189, nI_add]
    have e4 := ih (i + 1) (z + 4 + 454) (by omega)
    unfold a114 at e4
    refine Eq.trans e4 ?_
    rw [show z + 4 + 454 + n * 458 = z + (n + 1) * 458 by omega]
def v114 : List Value := [.ref 65, .ref 72, .ref 76, .ref 83, .ref 90, .ref 94, .ref 98, .ref 102, .ref 114, .ref 128, .ref 126, .ref 129, .ref 335]
def t114 : List AC := c100 1 ++ c25 65 8 ++ c1 12 ++ c1 19 ++ c109 40 26 ++ c109 40 30 ++ c109 8 34 ++ c85 38 ++ c85 50 ++ c74 76 62 ++ c49 76 126 ++ c10 65
def c114 : List AC := (.inr (10, v114) :: t114) ++ a114 4 :: cM 4
theorem k_i114 : Wp L xs (d + 4) 114 0 [some (.ref 64), none] [] ([.inr (10, [.null, .null, .null, .null, .null, .null, .null, .null, .null, .null, .null, .null, .null])], z) P = P none (c114, z + 15086) := by
  rw [q114_0, q114_4 (n := 0) rfl rfl, q114_15 (n := 7) (a := 65) rfl rfl rfl, q114_30 (n := 11) rfl rfl, q114_41 (n := 18) rfl rfl, q114_52 (n := 25) rfl rfl, q114_65 (n := 29) rfl rfl, q114_78 (n := 33) rfl rfl, q114_91 (n := 37) rfl rfl, q114_102 (n := 49) rfl rfl, q114_113 (n := 61) (a := 76) rfl rfl rfl, q114_128 (n := 63) (a := 76) (b := 126) rfl rfl rfl rfl, q114_147 (n := 64) rfl rfl, q114_158 rfl rfl, k_l114 rfl rfl 4 0 _ rfl]
  rfl
end P8
