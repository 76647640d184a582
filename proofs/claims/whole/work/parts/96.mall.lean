section RA
variable {L : Nat} {xs : Nat → Int32} {d : Nat} {P : Option Value → Hp → Prop} {I : Mi} {J : Mj} {R : Mr} {Z : Mz} {r c k l N M o h n : Nat} {x y z b : Int32} {V : Vw} {kd va : Nat → Int32} {ky : Nat → Nat}
theorem cn_s {p : Nat → Bool} {n : Nat} : cn (n + 1) p = if p n = true then cn n p + 1 else cn n p := rfl
theorem cn_same {p q : Nat → Bool} {n : Nat} (h : ∀ i, i < n → p i = q i) : cn n p = cn n q := cn_cg h
theorem cn_add {p q : Nat → Bool} {c : Nat} (hq : ∀ i, q i = (p i || decide (i = c))) (hp : p c = false) (n : Nat) (hc : c < n) : cn n q = cn n p + 1 := by
  induction n with
  | zero => omega
  | succ n ih =>
    rw [cn_s, cn_s]
    by_cases hn : n = c
    · have e : cn n q = cn n p := cn_same fun i hi => by
        rw [hq i]
        have : ¬ i = c := by omega
        simp [this]
      have e1 : q n = true := by rw [hq n]; simp [hn]
      have e2 : ¬ p n = true := by rw [hn, hp]; simp
      rw [if_pos e1, if_neg e2, e]
    · have e1 : q n = p n := by rw [hq n]; simp [hn]
      rw [e1, ih (by omega)]
      split <;> rfl
theorem pcn_set {x y : Int32} (hc : c < 8) (hx : tb x c = false) (hy : ∀ i, tb y i = (tb x i || decide (i = c))) : pcn y = pcn x + 1 := by
  exact cn_add hy hx 8 hc
theorem pcn_0 (h : pcn x = 0) (hx : sm x) : x = nI 0 := by
  apply tb_ext; intro k hk; rw [tb_0]
  cases hk' : tb x k
  · rfl
  · have h8 : k < 8 := by
      by_cases h8 : k < 8
      · exact h8
      · rw [hx k (by omega)] at hk'; cases hk'
    have h2 := Nat.lt_of_le_of_lt (Nat.zero_le _) (cn_lt (p := fun _ => false) (q := tb x) (fun i h => by cases h) hk' rfl 8 h8)
    exact absurd h (Nat.ne_of_gt h2)
theorem tb_out (hc : c < 32) {i : Nat} : tb (x &&& (sg c ^^^ (-1))) i = (tb x i && !decide (i = c)) := by
  by_cases hi : i < 32
  · rw [tb_and, tb_nx hi, tb_sg hc]
  · rw [tb_ge (by omega), tb_ge (x := x) (by omega)]; rfl
theorem lst_some {p : Nat → Bool} {f3 : Nat → Int32} : ∀ {n : Nat} (i : Nat), i < n → p i = true → ∃ c, lst p f3 r n = some c
  | 0, _, hi, _ => by omega
  | n + 1, i, hi, h => by
    rw [lst_s]
    by_cases hp : p n = true
    · rw [if_pos hp]; unfold les
      split
      · exact ⟨_, rfl⟩
      · split <;> exact ⟨_, rfl⟩
    · rw [if_neg hp]
      exact lst_some i (by have : i ≠ n := fun z => hp (z ▸ h)
                           omega) h
theorem lst_p {p : Nat → Bool} {f3 : Nat → Int32} : ∀ {n q : Nat}, lst p f3 r n = some q → p q = true
  | 0, _, h => by cases h
  | n + 1, q, h => by
    rw [lst_s] at h
    split at h
    · rename_i hp
      unfold les at h
      split at h
      · cases h; exact hp
      · rename_i q' hq'
        split at h
        · cases h; exact hp
        · cases h; exact lst_p hq'
    · exact lst_p h
theorem sm_ne0 (hx : sm x) (h : ¬ x = nI 0) : ∃ i, i < 8 ∧ tb x i = true := by
  apply Classical.byContradiction
  intro hn
  apply h
  apply tb_ext; intro k hk; rw [tb_0]
  cases hk' : tb x k
  · rfl
  · by_cases h8 : k < 8
    · exact absurd ⟨k, h8, hk'⟩ hn
    · rw [hx k (by omega)] at hk'; cases hk'
/-- what a run at r asks of V: so many have run as RAN says; those behind M are not there -/
def okR (M r : Nat) (V : Vw) : Prop := okD M (V 1) (V 4) r ∧ V 7 r = nI (pcn (rn (V 1) r))
theorem r1V_1 {n : Nat} (hn : n < 8) {a b : Int32} : r1V n a b k r c V 1 = upd (V 1) (8 * r + c) (nI 4) := by
  unfold r1V
  rw [if_neg (by omega)]
  dsimp only
  split
  · rw [st_ne (by decide), st_ne (by decide), st_eq]
  · rw [effV_ne (by decide) (by decide), st_ne (by decide), st_ne (by decide), st_eq]
theorem rn_set (hc : c < 8) {f1 : Nat → Int32} {i : Nat} : tb (rn (upd f1 (8 * r + c) (nI 4)) r) i = (tb (rn f1 r) i || decide (i = c)) := by
  unfold rn
  rw [tb_cAt, tb_cAt, inr_eq, inr_eq]
  by_cases h : i = c
  · subst h; simp [upd_eq, hc]
  · rw [upd_ne (by omega)]; simp [h]
theorem cm_set (hc : c < 8) {f1 : Nat → Int32} {i : Nat} : tb (cAt (upd f1 (8 * r + c) (nI 4)) r (nI 3) (nI 3)) i = (tb (cAt f1 r (nI 3) (nI 3)) i && !decide (i = c)) := by
  rw [tb_cAt, tb_cAt, inr_eq, inr_eq]
  by_cases h : i = c
  · subst h
    have : ¬ nI 4 = nI 3 := by decide
    simp [upd_eq, this]
  · rw [upd_ne (by omega)]; simp [h]
theorem okR_1 {a b : Int32} (hc : c < M) (h8 : M ≤ 8) (hV : okR M r V) (hcm : cm (V 1) r c) : pcn (rn (V 1) r) < 8 ∧ okR M r (r1V (pcn (rn (V 1) r)) a b k r c V) ∧ pcn (rn (r1V (pcn (rn (V 1) r)) a b k r c V 1) r) = pcn (rn (V 1) r) + 1 := by
  have hra := cm_rn hcm
  have hlt : pcn (rn (V 1) r) < 8 := by
    have := cn_lt (p := tb (rn (V 1) r)) (q := fun _ => true) (fun i _ => rfl) (i := c) rfl hra 8 (by omega)
    exact Nat.lt_of_lt_of_le this (cn_le (p := fun _ => true) (n := 8))
  have e1 := r1V_1 (V := V) (k := k) (r := r) (c := c) hlt (a := a) (b := b)
  have e2 : pcn (rn (r1V (pcn (rn (V 1) r)) a b k r c V 1) r) = pcn (rn (V 1) r) + 1 := by
    rw [e1]; exact pcn_set (by omega) hra (fun i => rn_set (by omega))
  refine ⟨hlt, ⟨⟨?_, ?_⟩, ?_⟩, e2⟩
  · rw [e1]
    intro q h1 h2
    rw [upd_ne (by omega)]; exact hV.1.1 q h1 h2
  · rw [r1V_ne (by decide) (by decide) (by decide) (by decide) (by decide)]; exact hV.1.2
  · rw [e2, r1V_7, if_neg (by omega), upd_eq]
theorem m_inner (hr : r < 5) (h8 : M ≤ 8) (hG : ∀ c, c < M → (I 425 c = nI (ky c) ∧ ky c < 4) ∧ ∃ kk, kk < 4 ∧ I 424 c = nI kk) : ∀ (k : Nat) (left : Int32) (V : Vw) (n : Nat) (t : Option Value), pcn left ≤ k → (∀ o, tb left o = true → o < M ∧ cm (V 1) r o) → okR M r V →
    (∃ t', Wp L xs (d+2) 254 12 [some (.ref (420)), some (.int (nI r)), some (.int (nI n)), some (.int (left)), t] [] (mk (pm I V) J R Z) P = Wp L xs (d+2) 254 46 [some (.ref (420)), some (.int (nI r)), some (.int (nI (n + pcn left))), some (.int (nI 0)), t'] [] (mk (pm I (rpV (I 424) (I 426) ky M r k left V)) J R Z) P) ∧ okR M r (rpV (I 424) (I 426) ky M r k left V) ∧ pcn (rn (rpV (I 424) (I 426) ky M r k left V 1) r) = pcn (rn (V 1) r) + pcn left ∧ (∀ i, tb (cAt (rpV (I 424) (I 426) ky M r k left V 1) r (nI 3) (nI 3)) i = (tb (cAt (V 1) r (nI 3) (nI 3)) i && !tb left i)) := by
  intro k
  induction k with
  | zero =>
    intro left V n t hk hl hV
    have hsm : sm left := fun j hj => by
      cases hq : tb left j
      · rfl
      · have := (hl j hq).1; omega
    have h0 : left = nI 0 := pcn_0 (by omega) hsm
    subst h0
    have hp : pcn (nI 0) = 0 := by omega
    rw [hp]
    refine ⟨⟨t, ?_⟩, hV, rfl, fun i => by rw [tb_0]; simp [rpV]⟩
    refine w254_12.trans ?_
    simp (discharger := omega) only [↓w254_0, ↓w254_1, ↓w254_2, ↓w254_3, ↓w254_4, ↓w254_7, ↓w254_9, ↓w254_13, ↓w254_16, ↓w254_17, ↓w254_18, ↓w254_19, ↓w254_22, ↓w254_24, ↓w254_25, ↓w254_26, ↓w254_28, ↓w254_31, ↓w254_32, ↓w254_33, ↓w254_35, ↓w254_36, ↓w254_37, ↓w254_38, ↓w254_39, ↓w254_40, ↓w254_43, ↓w254_47, ↓w254_48, ↓w254_51, ↓w254_52, ↓w254_55, ↓w254_56, mul8, mul8', mul4, mul4', nI_add, inT, nclN, ltT, ltF, leT, leF, eqT, eqF, nzF, m1F, m1T, shr, shg, bI0, bI1, bo_bI, bo_1, bo_0, eq10, eq00, frT1, frT2, frT3, fit0, fit1, fit2, fit3, true_and, and_true, ↓reduceIte, Nat.reduceAdd, Nat.reduceMul, and_self, not_false_eq_true, not_true_eq_false, Nat.zero_add, Nat.add_zero]
    rfl
  | succ k ih =>
    intro left V n t hk hl hV
    have hsm : sm left := fun j hj => by
      cases hq : tb left j
      · rfl
      · have := (hl j hq).1; omega
    by_cases h0 : left = nI 0
    · subst h0
      have hp : pcn (nI 0) = 0 := by decide +kernel
      rw [hp, rpV_s, if_pos rfl]
      refine ⟨⟨t, ?_⟩, hV, rfl, fun i => by rw [tb_0]; simp⟩
      refine w254_12.trans ?_
      simp (discharger := omega) only [↓w254_0, ↓w254_1, ↓w254_2, ↓w254_3, ↓w254_4, ↓w254_7, ↓w254_9, ↓w254_13, ↓w254_16, ↓w254_17, ↓w254_18, ↓w254_19, ↓w254_22, ↓w254_24, ↓w254_25, ↓w254_26, ↓w254_28, ↓w254_31, ↓w254_32, ↓w254_33, ↓w254_35, ↓w254_36, ↓w254_37, ↓w254_38, ↓w254_39, ↓w254_40, ↓w254_43, ↓w254_47, ↓w254_48, ↓w254_51, ↓w254_52, ↓w254_55, ↓w254_56, mul8, mul8', mul4, mul4', nI_add, inT, nclN, ltT, ltF, leT, leF, eqT, eqF, nzF, m1F, m1T, shr, shg, bI0, bI1, bo_bI, bo_1, bo_0, eq10, eq00, frT1, frT2, frT3, fit0, fit1, fit2, fit3, true_and, and_true, ↓reduceIte, Nat.reduceAdd, Nat.reduceMul, and_self, not_false_eq_true, not_true_eq_false, Nat.zero_add, Nat.add_zero]
    · obtain ⟨i0, hi0, hi0'⟩ := sm_ne0 hsm h0
      obtain ⟨c, hc⟩ := lst_some (f3 := V 3) (r := r) i0 (hl i0 hi0').1 hi0'
      have hcM := lst_lt hc
      have hcl := lst_p hc
      have hcm := (hl c hcl).2
      have hc8 : lst (tb left) (V 3) r 8 = some c := by
        rw [← hc, show 8 = M + (8 - M) by omega]
        exact lst_cut (fun i h1 h2 => by
          cases hq : tb left i
          · rfl
          · have := (hl i hq).1; omega)
      have hout := fun i => tb_out (x := left) (c := c) (show c < 32 by omega) (i := i)
      have hpl : pcn left = pcn (left &&& (sg c ^^^ (-1))) + 1 := pcn_set (c := c) (by omega) (by rw [hout]; simp) (fun i => by
        rw [hout]
        by_cases hi : i = c
        · subst hi; simp [hcl]
        · simp [hi])
      obtain ⟨hlt, hV1, hn1⟩ := okR_1 (a := I 424 c) (b := I 426 c) (k := ky c) hcM h8 hV hcm
      obtain ⟨⟨hk1, hk2⟩, kk, hkk, hkk'⟩ := hG c hcM
      have hru := fun P => m_runs (L := L) (xs := xs) (d := d + 1) (I := I) (J := J) (R := R) (Z := Z) (P := P) (V := V) (show c < 8 by omega) hr hk1 hk2 hkk' hkk hV.2 hlt
      rw [rpV_s, if_neg h0, hc]
      dsimp only
      rw [hV.2, nI_clamp (by omega)]
      have e1 := r1V_1 (V := V) (k := ky c) (r := r) (c := c) hlt (a := I 424 c) (b := I 426 c)
      generalize hVV : r1V (pcn (rn (V 1) r)) (I 424 c) (I 426 c) (ky c) r c V = V1 at *
      obtain ⟨⟨t', hw⟩, h1, h2, h3⟩ := ih (left &&& (sg c ^^^ (-1))) V1 (n + 1) (some (.int (nI c))) (by omega) (by
        intro o ho
        rw [hout] at ho
        have ho' : tb left o = true ∧ ¬ o = c := by simpa using ho
        refine ⟨(hl o ho'.1).1, ?_⟩
        show tb (cAt (V1 1) r (nI 3) (nI 3)) o = true
        rw [e1, cm_set (by omega), (hl o ho'.1).2]
        simp [ho'.2]) hV1
      refine ⟨⟨t', ?_⟩, h1, ?_, ?_⟩
      · refine w254_12.trans ?_
        simp (discharger := omega) only [↓w254_0, ↓w254_1, ↓w254_2, ↓w254_3, ↓w254_4, ↓w254_7, ↓w254_9, ↓w254_13, ↓w254_16, ↓w254_17, ↓w254_18, ↓w254_19, ↓w254_22, ↓w254_24, ↓w254_25, ↓w254_26, ↓w254_28, ↓w254_31, ↓w254_32, ↓w254_33, ↓w254_35, ↓w254_36, ↓w254_37, ↓w254_38, ↓w254_39, ↓w254_40, ↓w254_43, ↓w254_47, ↓w254_48, ↓w254_51, ↓w254_52, ↓w254_55, ↓w254_56, ↓m_firstOf hr, hc8, oN, ↓hru, ↓kc_i, ↓kc_l, ↓kc_r, ↓kc_n, rc420, g420_0, p420_0, g420_1, p420_1, g420_2, g420_3, p420_3, g420_4, p420_4, g420_5, p420_5, g420_6, p420_6, g420_7, p420_7, g420_8, p420_8, g420_9, p420_9, g420_10, g420_11, g420_12, g420_13, g420_14, g420_15, g420_16, g420_17, g420_18, g420_19, p420_19, g420_20, g420_21, g420_22, g420_23, g420_24, g420_25, g420_26, g420_27, g420_28, g420_29, g420_30, g420_31, g420_32, p420_32, g420_33, g420_34, g420_35, g420_36, g420_37, g420_38, g420_39, g420_40, g420_41, g420_42, g420_43, g420_44, g420_45, g420_46, g420_47, p420_47, g420_48, g420_49, p420_49, mul8, mul8', mul4, mul4', nI_add, inT, nclN, ltT, ltF, leT, leF, eqT, eqF, nzF, m1F, m1T, shr, shg, bI0, bI1, bo_bI, bo_1, bo_0, eq10, eq00, frT1, frT2, frT3, fit0, fit1, fit2, fit3, true_and, and_true, ↓reduceIte, Nat.reduceAdd, Nat.reduceMul, and_self, not_false_eq_true, not_true_eq_false, Nat.zero_add, Nat.add_zero, h0]
        rw [hw, show n + 1 + pcn (left &&& (sg c ^^^ (-1))) = n + pcn left by omega]
      · rw [h2, hn1]; omega
      · intro i
        rw [h3, e1, cm_set (by omega), hout]
        by_cases hi : i = c
        · subst hi; simp [hcl]
        · simp [hi]
end RA
