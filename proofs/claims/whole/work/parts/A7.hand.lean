/-! BY HAND: a step, with what it takes to undo it -/
abbrev Uq : Type := Nat → Vw
def slo (nx mn i : Nat) : Nat := 131 + 12 * ((nx + 17 - mn + i) % 17)
def HiC (I : Mi) (nx mn : Nat) (U : Uq) : Prop := (I 129 1 = nI nx ∧ nx < 17) ∧ (I 129 2 = nI mn ∧ mn ≤ 16) ∧ (∀ k, k < 17 → cS (vw I (131 + 12 * k))) ∧ ∀ i, i < mn → ∀ j, j < 12 → I (slo nx mn i + j) = U i j
def Upu (U : Uq) (mn : Nat) (V : Vw) : Uq := if mn < 16 then (fun i => if i = mn then V else U i) else (fun i => if i = 15 then V else U (i + 1))
def HiM (I : Mi) (G : Gv) (mn : Nat) (U : Uq) : Prop := I 420 47 = nI mn ∧ ∀ i, i < mn → ∃ W, smV G (U i) W ∧ ∀ k, k < 291 → I 455 (291 * i + k) = row W k
section E7
variable {L : Nat} {xs : Nat → Int32} {d : Nat} {P : Option Value → Hp → Prop} {I : Mi} {J : Mj} {R : Mr} {Z : Mz} {r c k l N M o n m B a b t w nx mn s : Nat} {x y z : Int32} {V V' V0 : Vw} {f f1 f4 g : Nat → Int32} {G : Gv} {U : Uq}
theorem ps_of (h : ∀ j, j < 12 → I (s + j) = V j) : putS I s V = I := by
  funext a; unfold putS
  by_cases ha : s ≤ a ∧ a < s + 12
  · rw [if_pos ha, ← h (a - s) (by omega), show s + (a - s) = a by omega]
  · rw [if_neg ha]
theorem okV_cg (h : ∀ j, j < 12 → V j = V' j) (hV : okV B G V) : okV B G V' := by
  unfold okV at hV ⊢
  rw [← h 0 (by decide), ← h 1 (by decide), ← h 2 (by decide), ← h 3 (by decide), ← h 4 (by decide), ← h 5 (by decide), ← h 6 (by decide), ← h 7 (by decide), ← h 8 (by decide), ← h 9 (by decide), ← h 10 (by decide), ← h 11 (by decide)]
  exact hV
theorem GR_cg (h : ∀ j, j < 12 → V j = V' j) (hg : GR G V g) : GR G V' g := by
  unfold GR at hg ⊢
  rw [← h 1 (by decide), ← h 3 (by decide), ← h 5 (by decide)]; exact hg
theorem row5_cg (h : ∀ j, j < 12 → V j = V' j) : row (st V 5 g) = row (st V' 5 g) := row_cg fun j k hj _ => by
  by_cases h5 : j = 5
  · subst h5; rw [st_eq, st_eq]
  · rw [st_ne h5, st_ne h5, h j hj]
theorem cS_cg (h : ∀ j, j < 12 → V j = V' j) (hV : cS V) : cS V' := fun j k hj hk => by rw [← h j hj]; exact hV j k hj hk
/-- what a step by hand leaves of the memory -/
def hnd (I I' : Mi) : Prop := ∀ a, (a < 102 ∨ (114 ≤ a ∧ a < 126) ∨ 335 ≤ a) → I' a = I a
theorem k_doByHand (hw : w < 11) (hG : okG (gI I)) (hX : okX (gI I)) (hV : okV B (gI I) (vw I 102)) (hBl : B + 1 < 2147483648) (hl : can 8 (I 127)) (hH : HiC I nx mn U) (hc : w < 7 → c < gM (gI I)) (hr : (w % 2 = 1 ∨ w = 6 ∨ w = 8) → r < gN (gI I)) :
    ∃ I' nx', hnd I I' ∧ can 8 (I' 127) ∧ (∀ j, j < 12 → I' (102 + j) = (stp (gI I) (vw I 102) w c r).2 j) ∧ (if cnd (gI I) (vw I 102) w c r = true then HiC I' nx' (min (mn + 1) 16) (Upu U mn (vw I 102)) else HiC I' nx' mn U) ∧ ∀ P, Wp L xs (d+6) 163 0 [some (.ref (64)), some (.int (nI w)), some (.int (nI c)), some (.int (nI r)), none] [] (mk I J R Z) P = P (some (.int (stp (gI I) (vw I 102) w c r).1)) (mk I' J R Z) := by
  obtain ⟨⟨hn, h17⟩, ⟨hm, h16⟩, hcs, hsl⟩ := hH
  have hcV := okV_cS hV
  have hno := fun P => k_note (L := L) (xs := xs) (d := d + 3) (I := I) (J := J) (R := R) (Z := Z) (P := P) isS_102 (by omega) hn h17 hcV (hcs nx h17)
  generalize hI1 : putS I (131 + 12 * nx) (vw I 102) = I1 at *
  have e1 : ∀ a, (a < 131 + 12 * nx ∨ 131 + 12 * nx + 12 ≤ a) → I1 a = I a := fun a ha => by rw [← hI1]; exact ps_ne ha
  have e1s : ∀ j, j < 12 → I1 (131 + 12 * nx + j) = I (102 + j) := fun j hj => by rw [← hI1, ps_j hj]; rfl
  have hps : putS I1 102 (vw I 102) = I1 := ps_of fun j hj => by rw [e1 _ (by omega)]; rfl
  have hag : agG (gI I) (gI I1) := ⟨fun k _ => by show I (76 + 0) k = I1 (76 + 0) k; rw [e1 _ (by omega)], fun j c h1 h2 _ => by show I (76 + j) c = I1 (76 + j) c; rw [e1 _ (by omega)]⟩
  have hS1 := okV_S (ag_okG hag hG) (ag_okV hag hV)
  obtain ⟨I2, hsc, hst⟩ := k_doStep (L := L) (xs := xs) (d := d) (I := I1) (J := J) (R := R) (Z := Z) (s := 102) (V := vw I 102) (w := w) (c := c) (r := r) hw isS_102 (ag_okG hag hG) hS1 (fun k hk => by rw [e1 _ (by omega)]; exact hl k hk) (fun q => by rw [← ag_M hag]; exact hc q) (fun q => by rw [← ag_N hag]; exact hr q)
  rw [hps, ← ag_stp hw hag hc] at hst
  have hans := okV_stp hw hV hG hX hc hr hBl
  have e2 : ∀ a, a ≠ 126 → a ≠ 127 → a ≠ 128 → I2 a = I1 a := hsc.1
  generalize hI3 : putS I2 102 (stp (gI I) (vw I 102) w c r).2 = I3 at *
  have e3 : ∀ a, (a < 102 ∨ 114 ≤ a) → I3 a = I2 a := fun a ha => by rw [← hI3]; exact ps_ne (by omega)
  have e3s : ∀ j, j < 12 → I3 (102 + j) = (stp (gI I) (vw I 102) w c r).2 j := fun j hj => by rw [← hI3, ps_j hj]
  have hn3 : I3 129 1 = nI nx := by rw [e3 _ (by omega), e2 _ (by decide) (by decide) (by decide), e1 _ (by omega)]; exact hn
  have hm3 : I3 129 2 = nI mn := by rw [e3 _ (by omega), e2 _ (by decide) (by decide) (by decide), e1 _ (by omega)]; exact hm
  have hslot : ∀ a, 131 ≤ a → a < 335 → I3 a = I1 a := fun a h1 h2 => by rw [e3 _ (by omega), e2 _ (by omega) (by omega) (by omega)]
  have hcs3 : ∀ k, k < 17 → cS (vw I3 (131 + 12 * k)) := fun k hk => by
    intro j q hj hq
    show I3 (131 + 12 * k + j) q = nI 0
    rw [hslot _ (by omega) (by omega)]
    by_cases hkn : k = nx
    · subst hkn; rw [e1s j hj]; exact hcV j q hj hq
    · rw [e1 _ (by omega)]; exact hcs k hk j q hj hq
  have hold : ∀ i, i < mn → ∀ j, j < 12 → I3 (slo nx mn i + j) = U i j := fun i hi j hj => by
    have hq : (nx + 17 - mn + i) % 17 < 17 := Nat.mod_lt _ (by decide)
    have hne : (nx + 17 - mn + i) % 17 ≠ nx := by omega
    show I3 (131 + 12 * ((nx + 17 - mn + i) % 17) + j) = _
    rw [hslot _ (by omega) (by omega), e1 _ (by omega)]
    exact hsl i hi j hj
  have hpre : hnd I I3 := fun a ha => by
    rcases ha with ha | ha | ha
    · rw [e3 _ (by omega), e2 _ (by omega) (by omega) (by omega), e1 _ (by omega)]
    · rw [e3 _ (by omega), e2 _ (by omega) (by omega) (by omega), e1 _ (by omega)]
    · rw [e3 _ (by omega), e2 _ (by omega) (by omega) (by omega), e1 _ (by omega)]
  rcases hans.2 with ⟨hcf, hno1⟩ | ⟨hct, hyes⟩
  · refine ⟨I3, nx, hpre, fun k hk => by rw [e3 _ (by omega)]; exact hsc.2 k hk, e3s, ?_, fun P => ?_⟩
    · rw [hcf]
      simp only [Bool.false_eq_true, ↓reduceIte]
      exact ⟨⟨hn3, h17⟩, ⟨hm3, h16⟩, hcs3, hold⟩
    · have hv : (stp (gI I) (vw I 102) w c r).1 = -1 := by rw [hno1]
      rw [hv] at hst ⊢
      simp (discharger := omega) only [↓w163_0, ↓w163_1, ↓w163_4, ↓w163_5, ↓w163_8, ↓w163_11, ↓w163_12, ↓w163_15, ↓w163_16, ↓w163_19, ↓w163_20, ↓w163_21, ↓w163_22, ↓w163_25, ↓w163_27, ↓w163_29, ↓w163_30, ↓w163_33, ↓w163_34, ↓w163_37, ↓w163_40, ↓w163_42, ↓hno, ↓hst, ↓kc_i, ↓kc_l, ↓kc_r, ↓kc_n, rc64, g64_0, g64_1, g64_2, g64_3, g64_4, g64_5, g64_6, g64_7, g64_8, g64_9, g64_10, g64_11, g64_12, rc129, g129_0, g129_1, p129_1, g129_2, p129_2, rc128, g128_0, g128_1, g128_2, p128_2, g128_3, p128_3, rc102, g102_0, p102_0, g102_1, p102_1, g102_2, g102_3, g102_4, g102_5, g102_6, g102_7, g102_8, g102_9, g102_10, g102_11, g102_12, mul8, mul8', mul4, mul4', nI_add, inT, nclN, ltT, ltF, leT, leF, eqT, eqF, nzF, m1F, m1T, shr, shg, bI0, bI1, bo_bI, bo_1, bo_0, eq10, eq00, frT1, frT2, frT3, fit0, fit1, fit2, fit3, true_and, and_true, ↓reduceIte, Nat.reduceAdd, Nat.reduceMul, and_self, not_false_eq_true, not_true_eq_false, Nat.zero_add, Nat.add_zero]
  · have hv := isA_ne hyes
    have hke := fun P => k_keep (L := L) (xs := xs) (d := d + 4) (I := I3) (J := J) (R := R) (Z := Z) (P := P) hn3 h17 hm3 h16
    refine ⟨st I3 129 (upd (upd (I3 129) 1 (nI ((nx + 1) % 17))) 2 (nI (min (mn + 1) 16))), (nx + 1) % 17, fun a ha => by rw [st_ne (by omega)]; exact hpre a ha, fun k hk => by rw [st_ne (by omega), e3 _ (by omega)]; exact hsc.2 k hk, fun j hj => by rw [st_ne (by omega)]; exact e3s j hj, ?_, fun P => ?_⟩
    · rw [hct]
      simp only [↓reduceIte]
      refine ⟨⟨by rw [st_eq, upd_ne (by decide), upd_eq], Nat.mod_lt _ (by decide)⟩, ⟨by rw [st_eq, upd_eq], by omega⟩, fun k hk => ?_, fun i hi j hj => ?_⟩
      · intro j q hj hq
        show st I3 129 _ (131 + 12 * k + j) q = nI 0
        rw [st_ne (by omega)]; exact hcs3 k hk j q hj hq
      · show st I3 129 _ (131 + 12 * (((nx + 1) % 17 + 17 - min (mn + 1) 16 + i) % 17) + j) = Upu U mn (vw I 102) i j
        rw [st_ne (by omega)]
        unfold Upu
        by_cases h16' : mn < 16
        · rw [if_pos h16', Nat.min_eq_left (by omega)]
          rw [Nat.min_eq_left (by omega)] at hi
          by_cases him : i = mn
          · have : ((nx + 1) % 17 + 17 - (mn + 1) + i) % 17 = nx := by omega
            rw [this, if_pos him, hslot _ (by omega) (by omega), e1s j hj]; rfl
          · have : ((nx + 1) % 17 + 17 - (mn + 1) + i) % 17 = (nx + 17 - mn + i) % 17 := by omega
            rw [this, if_neg him]; exact hold i (by omega) j hj
        · rw [if_neg h16', Nat.min_eq_right (by omega)]
          rw [Nat.min_eq_right (by omega)] at hi
          by_cases him : i = 15
          · have : ((nx + 1) % 17 + 17 - 16 + i) % 17 = nx := by omega
            rw [this, if_pos him, hslot _ (by omega) (by omega), e1s j hj]; rfl
          · have : ((nx + 1) % 17 + 17 - 16 + i) % 17 = (nx + 17 - mn + (i + 1)) % 17 := by omega
            rw [this, if_neg him]; exact hold (i + 1) (by omega) j hj
    · simp (discharger := omega) only [↓w163_0, ↓w163_1, ↓w163_4, ↓w163_5, ↓w163_8, ↓w163_11, ↓w163_12, ↓w163_15, ↓w163_16, ↓w163_19, ↓w163_20, ↓w163_21, ↓w163_22, ↓w163_25, ↓w163_27, ↓w163_29, ↓w163_30, ↓w163_33, ↓w163_34, ↓w163_37, ↓w163_40, ↓w163_42, ↓hno, ↓hst, ↓hke, ↓kc_i, ↓kc_l, ↓kc_r, ↓kc_n, rc64, g64_0, g64_1, g64_2, g64_3, g64_4, g64_5, g64_6, g64_7, g64_8, g64_9, g64_10, g64_11, g64_12, rc129, g129_0, g129_1, p129_1, g129_2, p129_2, rc128, g128_0, g128_1, g128_2, p128_2, g128_3, p128_3, rc102, g102_0, p102_0, g102_1, p102_1, g102_2, g102_3, g102_4, g102_5, g102_6, g102_7, g102_8, g102_9, g102_10, g102_11, g102_12, mul8, mul8', mul4, mul4', nI_add, inT, nclN, ltT, ltF, leT, leF, eqT, eqF, nzF, m1F, m1T, shr, shg, bI0, bI1, bo_bI, bo_1, bo_0, eq10, eq00, frT1, frT2, frT3, fit0, fit1, fit2, fit3, true_and, and_true, ↓reduceIte, Nat.reduceAdd, Nat.reduceMul, and_self, not_false_eq_true, not_true_eq_false, Nat.zero_add, Nat.add_zero, hv]
theorem k_undo (hV : cS (vw I 102)) (hH : HiC I nx mn U) : if mn = 0 then (∀ P, Wp L xs (d+3) 136 0 [some (.ref (64))] [] (mk I J R Z) P = P (some (.int (nI 0))) (mk I J R Z)) else ∃ I' nx', hnd I I' ∧ I' 127 = I 127 ∧ (∀ j, j < 12 → I' (102 + j) = U (mn - 1) j) ∧ HiC I' nx' (mn - 1) U ∧ ∀ P, Wp L xs (d+3) 136 0 [some (.ref (64))] [] (mk I J R Z) P = P (some (.int (nI 1))) (mk I' J R Z) := by
  obtain ⟨⟨hn, h17⟩, ⟨hm, h16⟩, hcs, hsl⟩ := hH
  have hq : (nx + 16) % 17 < 17 := Nat.mod_lt _ (by decide)
  have hgb := fun P => k_goBack (L := L) (xs := xs) (d := d) (I := I) (J := J) (R := R) (Z := Z) (P := P) isS_102 (by omega) hn h17 hm h16 hV (hcs _ hq)
  by_cases h0 : mn = 0
  · rw [if_pos h0]
    intro P
    simp (discharger := omega) only [↓w136_0, ↓w136_1, ↓w136_4, ↓w136_5, ↓w136_8, ↓w136_11, ↓hgb, ↓kc_i, ↓kc_l, ↓kc_r, ↓kc_n, rc64, g64_0, g64_1, g64_2, g64_3, g64_4, g64_5, g64_6, g64_7, g64_8, g64_9, g64_10, g64_11, g64_12, rc129, g129_0, g129_1, p129_1, g129_2, p129_2, mul8, mul8', mul4, mul4', nI_add, inT, nclN, ltT, ltF, leT, leF, eqT, eqF, nzF, m1F, m1T, shr, shg, bI0, bI1, bo_bI, bo_1, bo_0, eq10, eq00, frT1, frT2, frT3, fit0, fit1, fit2, fit3, true_and, and_true, ↓reduceIte, Nat.reduceAdd, Nat.reduceMul, and_self, not_false_eq_true, not_true_eq_false, Nat.zero_add, Nat.add_zero, h0]
  · rw [if_neg h0]
    refine ⟨putS (st I 129 (upd (upd (I 129) 1 (nI ((nx + 16) % 17))) 2 (nI (mn - 1)))) 102 (vw I (131 + 12 * ((nx + 16) % 17))), (nx + 16) % 17, ?_, ?_, ?_, ?_, fun P => ?_⟩
    · intro a ha
      rw [ps_ne (by omega), st_ne (by omega)]
    · rw [ps_ne (by omega), st_ne (by omega)]
    · intro j hj
      rw [ps_j hj]
      have := hsl (mn - 1) (by omega) j hj
      unfold slo at this
      rw [show (nx + 17 - mn + (mn - 1)) % 17 = (nx + 16) % 17 by omega] at this
      exact this
    · refine ⟨⟨?_, hq⟩, ⟨?_, by omega⟩, fun k hk => ?_, fun i hi j hj => ?_⟩
      · rw [ps_ne (by omega), st_eq, upd_ne (by decide), upd_eq]
      · rw [ps_ne (by omega), st_eq, upd_eq]
      · intro j q hj hq'
        show putS _ 102 _ (131 + 12 * k + j) q = nI 0
        rw [ps_ne (by omega), st_ne (by omega)]; exact hcs k hk j q hj hq'
      · show putS _ 102 _ (131 + 12 * (((nx + 16) % 17 + 17 - (mn - 1) + i) % 17) + j) = U i j
        rw [ps_ne (by omega), st_ne (by omega)]
        have := hsl i (by omega) j hj
        unfold slo at this
        rw [show ((nx + 16) % 17 + 17 - (mn - 1) + i) % 17 = (nx + 17 - mn + i) % 17 by omega]
        exact this
    · simp (discharger := omega) only [↓w136_0, ↓w136_1, ↓w136_4, ↓w136_5, ↓w136_8, ↓w136_11, ↓hgb, ↓kc_i, ↓kc_l, ↓kc_r, ↓kc_n, rc64, g64_0, g64_1, g64_2, g64_3, g64_4, g64_5, g64_6, g64_7, g64_8, g64_9, g64_10, g64_11, g64_12, rc129, g129_0, g129_1, p129_1, g129_2, p129_2, mul8, mul8', mul4, mul4', nI_add, inT, nclN, ltT, ltF, leT, leF, eqT, eqF, nzF, m1F, m1T, shr, shg, bI0, bI1, bo_bI, bo_1, bo_0, eq10, eq00, frT1, frT2, frT3, fit0, fit1, fit2, fit3, true_and, and_true, ↓reduceIte, Nat.reduceAdd, Nat.reduceMul, and_self, not_false_eq_true, not_true_eq_false, Nat.zero_add, Nat.add_zero, h0]
end E7
