section E4
variable {L : Nat} {xs : Nat → Int32} {d : Nat} {P : Option Value → Hp → Prop} {I : Mi} {J : Mj} {R : Mr} {Z : Mz} {r c k l N M o n m B a b : Nat} {x y z : Int32} {V : Vw} {g : Nat → Int32} {G : Gv} {cl f1 f3 f4 f6 : Nat → Int32}
theorem gi447 {i : Int32} {K : Int32 → Prop} : gi L xs (mk I J R Z) 0 447 i K = (ip_in i 5 = true ∧ K (I 447 i.toNatClampNeg)) := giM (by decide) rfl (Or.inl rfl)
theorem si447 {i x : Int32} {K : Hp → Prop} : si (mk I J R Z) 0 447 i x K = (ip_in i 5 = true ∧ K (mk (st I 447 (upd (I 447) i.toNatClampNeg (x))) J R Z)) := siM (by decide) rfl (Or.inl rfl)
theorem gi448 {i : Int32} {K : Int32 → Prop} : gi L xs (mk I J R Z) 0 448 i K = (ip_in i 40 = true ∧ K (I 448 i.toNatClampNeg)) := giM (by decide) rfl (Or.inl rfl)
theorem si448 {i x : Int32} {K : Hp → Prop} : si (mk I J R Z) 0 448 i x K = (ip_in i 40 = true ∧ K (mk (st I 448 (upd (I 448) i.toNatClampNeg (x))) J R Z)) := siM (by decide) rfl (Or.inl rfl)
theorem gi449 {i : Int32} {K : Int32 → Prop} : gi L xs (mk I J R Z) 0 449 i K = (ip_in i 40 = true ∧ K (I 449 i.toNatClampNeg)) := giM (by decide) rfl (Or.inl rfl)
theorem si449 {i x : Int32} {K : Hp → Prop} : si (mk I J R Z) 0 449 i x K = (ip_in i 40 = true ∧ K (mk (st I 449 (upd (I 449) i.toNatClampNeg (x))) J R Z)) := siM (by decide) rfl (Or.inl rfl)
theorem gi450 {i : Int32} {K : Int32 → Prop} : gi L xs (mk I J R Z) 3 450 i K = (ip_in i 40 = true ∧ K (I 450 i.toNatClampNeg)) := giM (by decide) rfl (Or.inr (Or.inr rfl))
theorem si450 {i x : Int32} {K : Hp → Prop} : si (mk I J R Z) 3 450 i x K = (ip_in i 40 = true ∧ K (mk (st I 450 (upd (I 450) i.toNatClampNeg (na 3 x))) J R Z)) := siM (by decide) rfl (Or.inr (Or.inr rfl))
theorem tb_lor {f : Nat → Int32} : ∀ {n : Nat}, tb (lp (fun r a => a ||| f r) n (nI 0)) k = true ↔ ∃ i, i < n ∧ tb (f i) k = true
  | 0 => by
    show tb (nI 0) k = true ↔ _
    rw [tb_0]; exact ⟨fun h => (by cases h), fun ⟨i, hi, _⟩ => (by omega)⟩
  | n + 1 => by
    have ih := tb_lor (f := f) (n := n)
    show tb (lp (fun r a => a ||| f r) n (nI 0) ||| f n) k = true ↔ _
    rw [tb_or, Bool.or_eq_true, ih]
    constructor
    · rintro (⟨i, h1, h2⟩ | h)
      · exact ⟨i, by omega, h2⟩
      · exact ⟨n, by omega, h⟩
    · rintro ⟨i, h1, h2⟩
      by_cases hi : i = n
      · subst hi; exact Or.inr h2
      · exact Or.inl ⟨i, by omega, h2⟩
theorem m_bare (hG : okG (mG I)) (hV : okV B (mG I) V) : Wp L xs (d+2) 296 0 [some (.ref (420)), some (.int (x)), none, none] [] (mk (pm I V) J R Z) P = P (some (.int (vBar (mG I) V x))) (mk (pm (st I 420 (upd (I 420) 0 (nI 0))) V) J R Z) := by
  have hN : I 422 0 = nI (gN (mG I)) := hG.1.1
  have hM : I 422 2 = nI (gM (mG I)) := hG.2.1.1
  have h5 := hG.1.2
  have h8 := hG.2.1.2
  have hT := hV.2.1.2.2.1
  unfold vBar
  by_cases hx : isR (gN (mG I)) x = true
  · rw [if_pos hx]
    obtain ⟨r, hr, rfl⟩ := isR_t hx (by omega)
    rw [nI_clamp (by omega)]
    have e : lp (fun r a => a ||| cAt (V 1) r (nI 3) (nI 4)) (gN (mG I)) (nI 0) &&& (cAt (V 1) r (nI 3) (nI 4) ^^^ (-1)) = bm (gM (mG I)) (fun c => (fdn (gN (mG I)) (nI 31) (V 1) c).isSome && decide (V 1 (8 * r + c) < nI 3)) := by
      apply tb_ext
      intro k hk
      rw [tb_and, tb_nx hk, tb_bm (by omega), Bool.eq_iff_iff, Bool.and_eq_true, tb_lor, Bool.and_eq_true, Bool.and_eq_true]
      have hsome : (fdn (gN (mG I)) (nI 31) (V 1) k).isSome = true ↔ ∃ i, i < gN (mG I) ∧ nI 3 ≤ V 1 (8 * i + k) := by
        unfold fdn
        have h31 : ∀ k, k < 5 → tb (nI 31) k = true := by decide +kernel
        cases hf : ff (gN (mG I)) fun r => tb (nI 31) r && decide (nI 3 ≤ V 1 (8 * r + k)) with
        | none =>
          refine ⟨fun q => (by cases q), fun ⟨i, h1, h2⟩ => ?_⟩
          have := ff_none.mp hf i h1
          rw [h31 i (by omega)] at this
          simp [h2] at this
        | some j =>
          have := ff_some.mp hf
          refine ⟨fun _ => ⟨j, this.1, ?_⟩, fun _ => rfl⟩
          have h2 := this.2.1
          rw [Bool.and_eq_true] at h2
          exact of_decide_eq_true h2.2
      have hcell : ∀ i, i < 5 → k < 8 → tb (cAt (V 1) i (nI 3) (nI 4)) k = decide (nI 3 ≤ V 1 (8 * i + k)) := fun i hi hk8 => by
        obtain ⟨s, hs, he⟩ := hT (8 * i + k) (by omega)
        rw [tb_cAt, he, st34 s (by omega)]
        simp [hk8]
      constructor
      · rintro ⟨⟨i, h1, h2⟩, h3⟩
        have hk8 : k < 8 := by rw [tb_cAt] at h2; simp at h2; exact h2.1
        rw [hcell i (by omega) hk8, decide_eq_true_eq] at h2
        have hkM : k < gM (mG I) := by
          by_cases hq : k < gM (mG I)
          · exact hq
          · rw [hV.2.1.2.2.2.2.1 i k (by omega) (by omega) hk8] at h2
            exact absurd h2 (by decide)
        rw [hcell r (by omega) hk8] at h3
        refine ⟨by simpa using hkM, hsome.mpr ⟨i, h1, h2⟩, ?_⟩
        simpa using h3
      · rintro ⟨h1, h2, h3⟩
        have hkM : k < gM (mG I) := by simpa using h1
        obtain ⟨i, h4, h6⟩ := hsome.mp h2
        refine ⟨⟨i, h4, by rw [hcell i (by omega) (by omega)]; exact decide_eq_true h6⟩, ?_⟩
        rw [hcell r (by omega) (by omega)]
        simpa using h3
    rw [e]
    simp (discharger := omega) only [↓w296_0, ↓w296_1, ↓w296_2, ↓w296_5, ↓w296_6, ↓w296_7, ↓w296_10, ↓w296_13, ↓w296_14, ↓w296_15, ↓w296_16, ↓w296_17, ↓w296_18, ↓w296_20, ↓w296_21, ↓w296_24, ↓w296_25, ↓w296_26, ↓w296_29, ↓w296_30, ↓w296_31, ↓w296_33, ↓w296_34, ↓w296_37, ↓w296_40, ↓w296_41, ↓w296_42, ↓w296_43, ↓w296_46, ↓w296_47, ↓w296_50, ↓w296_51, ↓w296_52, ↓w296_53, ↓w296_56, ↓w296_57, ↓w296_58, ↓w296_59, ↓w296_62, ↓w296_65, ↓w296_66, ↓m_isReplica (mN' hN), hx, bI_t, ↓kc_i, ↓kc_l, ↓kc_r, ↓kc_n, rc420, g420_0, p420_0, g420_1, p420_1, g420_2, g420_3, p420_3, g420_4, p420_4, g420_5, p420_5, g420_6, p420_6, g420_7, p420_7, g420_8, p420_8, g420_9, p420_9, g420_10, g420_11, g420_12, g420_13, g420_14, g420_15, g420_16, g420_17, g420_18, g420_19, p420_19, g420_20, g420_21, g420_22, g420_23, g420_24, g420_25, g420_26, g420_27, g420_28, g420_29, g420_30, g420_31, g420_32, p420_32, g420_33, g420_34, g420_35, g420_36, g420_37, g420_38, g420_39, g420_40, g420_41, g420_42, g420_43, g420_44, g420_45, g420_46, g420_47, p420_47, g420_48, g420_49, p420_49, pm_eq, pm_ne, st_pm, st_pmne, rd1, rd2, rd3, rd4, rd5, rd6, rd2s, rd3s, rd4s, rd5s, rd7, rd8, rd9, rd10, rd11, rd0, rdc, wr1, wr2, wr3, wr4, wr5, wr6, wr2s, wr3s, wr4s, wr5s, wr7, wr8, wr9, wr10, wr11, wr0, wrc, st_ne, st_eq, st_st, mul8, mul8', mul4, mul4', nI_add, inT, nclN, ltT, ltF, leT, leF, eqT, eqF, nzF, m1F, m1T, shr, shg, bI0, bI1, bo_bI, bo_1, bo_0, eq10, eq00, frT1, frT2, frT3, fit0, fit1, fit2, fit3, true_and, and_true, ↓reduceIte, Nat.reduceAdd, Nat.reduceMul, and_self, not_false_eq_true, not_true_eq_false, Nat.zero_add, Nat.add_zero]
    refine lp_any (T := Unit) (F := fun i acc _ => Wp L xs (d+2) 296 19 [some (.ref (420)), some (.int (nI r)), some (.int (acc)), some (.int (nI i))] [] (mk (pm (st I 420 (upd (I 420) 0 (nI 0))) V) J R Z) P) (B := fun c a => if ((fdn (gN (mG I)) (nI 31) (V 1) c).isSome && decide (V 1 (8 * r + c) < nI 3)) = true then a ||| sg c else a) (G := fun q => P (some (.int q)) (mk (pm (st I 420 (upd (I 420) 0 (nI 0))) V) J R Z)) (gM (mG I)) ?_ ?_ (nI 0) ()
    · intro i acc t hi
      refine ⟨(), w296_19.trans ?_⟩
      have h1 := fun P => m_firstDone (L := L) (xs := xs) (d := d) (I := st I 420 (upd (I 420) 0 (nI 0))) (J := J) (R := R) (Z := Z) (P := P) (V := V) (x := nI 31) (show i < 8 by omega) (mT (by decide) hN) h5
      simp (discharger := omega) only [↓w296_0, ↓w296_1, ↓w296_2, ↓w296_5, ↓w296_6, ↓w296_7, ↓w296_10, ↓w296_13, ↓w296_14, ↓w296_15, ↓w296_16, ↓w296_17, ↓w296_18, ↓w296_20, ↓w296_21, ↓w296_24, ↓w296_25, ↓w296_26, ↓w296_29, ↓w296_30, ↓w296_31, ↓w296_33, ↓w296_34, ↓w296_37, ↓w296_40, ↓w296_41, ↓w296_42, ↓w296_43, ↓w296_46, ↓w296_47, ↓w296_50, ↓w296_51, ↓w296_52, ↓w296_53, ↓w296_56, ↓w296_57, ↓w296_58, ↓w296_59, ↓w296_62, ↓w296_65, ↓w296_66, ↓h1, ↓m_statusAt, ↓kc_i, ↓kc_l, ↓kc_r, ↓kc_n, rc420, g420_0, p420_0, g420_1, p420_1, g420_2, g420_3, p420_3, g420_4, p420_4, g420_5, p420_5, g420_6, p420_6, g420_7, p420_7, g420_8, p420_8, g420_9, p420_9, g420_10, g420_11, g420_12, g420_13, g420_14, g420_15, g420_16, g420_17, g420_18, g420_19, p420_19, g420_20, g420_21, g420_22, g420_23, g420_24, g420_25, g420_26, g420_27, g420_28, g420_29, g420_30, g420_31, g420_32, p420_32, g420_33, g420_34, g420_35, g420_36, g420_37, g420_38, g420_39, g420_40, g420_41, g420_42, g420_43, g420_44, g420_45, g420_46, g420_47, p420_47, g420_48, g420_49, p420_49, gi422, si422, pm_eq, pm_ne, st_pm, st_pmne, rd1, rd2, rd3, rd4, rd5, rd6, rd2s, rd3s, rd4s, rd5s, rd7, rd8, rd9, rd10, rd11, rd0, rdc, wr1, wr2, wr3, wr4, wr5, wr6, wr2s, wr3s, wr4s, wr5s, wr7, wr8, wr9, wr10, wr11, wr0, wrc, st_ne, st_eq, st_st, hM, mul8, mul8', mul4, mul4', nI_add, inT, nclN, ltT, ltF, leT, leF, eqT, eqF, nzF, m1F, m1T, shr, shg, bI0, bI1, bo_bI, bo_1, bo_0, eq10, eq00, frT1, frT2, frT3, fit0, fit1, fit2, fit3, true_and, and_true, ↓reduceIte, Nat.reduceAdd, Nat.reduceMul, and_self, not_false_eq_true, not_true_eq_false, Nat.zero_add, Nat.add_zero, oN_some (show gN (mG I) ≤ 8 by omega) (fun j hj => fdn_lt hj)]
      by_cases h0 : (fdn (gN (mG I)) (nI 31) (V 1) i).isSome = true
      · by_cases h2 : V 1 (8 * r + i) < nI 3
        · simp [h0, h2, Int32.not_le.mpr h2]
        · simp [h0, h2, Int32.not_lt.mp h2, or_i0]
      · simp [h0, or_i0]
    · intro acc t
      refine w296_19.trans ?_
      simp (discharger := omega) only [↓w296_0, ↓w296_1, ↓w296_2, ↓w296_5, ↓w296_6, ↓w296_7, ↓w296_10, ↓w296_13, ↓w296_14, ↓w296_15, ↓w296_16, ↓w296_17, ↓w296_18, ↓w296_20, ↓w296_21, ↓w296_24, ↓w296_25, ↓w296_26, ↓w296_29, ↓w296_30, ↓w296_31, ↓w296_33, ↓w296_34, ↓w296_37, ↓w296_40, ↓w296_41, ↓w296_42, ↓w296_43, ↓w296_46, ↓w296_47, ↓w296_50, ↓w296_51, ↓w296_52, ↓w296_53, ↓w296_56, ↓w296_57, ↓w296_58, ↓w296_59, ↓w296_62, ↓w296_65, ↓w296_66, rc420, g420_0, p420_0, g420_1, p420_1, g420_2, g420_3, p420_3, g420_4, p420_4, g420_5, p420_5, g420_6, p420_6, g420_7, p420_7, g420_8, p420_8, g420_9, p420_9, g420_10, g420_11, g420_12, g420_13, g420_14, g420_15, g420_16, g420_17, g420_18, g420_19, p420_19, g420_20, g420_21, g420_22, g420_23, g420_24, g420_25, g420_26, g420_27, g420_28, g420_29, g420_30, g420_31, g420_32, p420_32, g420_33, g420_34, g420_35, g420_36, g420_37, g420_38, g420_39, g420_40, g420_41, g420_42, g420_43, g420_44, g420_45, g420_46, g420_47, p420_47, g420_48, g420_49, p420_49, gi422, si422, pm_eq, pm_ne, st_pm, st_pmne, rd1, rd2, rd3, rd4, rd5, rd6, rd2s, rd3s, rd4s, rd5s, rd7, rd8, rd9, rd10, rd11, rd0, rdc, wr1, wr2, wr3, wr4, wr5, wr6, wr2s, wr3s, wr4s, wr5s, wr7, wr8, wr9, wr10, wr11, wr0, wrc, st_ne, st_eq, st_st, hM, mul8, mul8', mul4, mul4', nI_add, inT, nclN, ltT, ltF, leT, leF, eqT, eqF, nzF, m1F, m1T, shr, shg, bI0, bI1, bo_bI, bo_1, bo_0, eq10, eq00, frT1, frT2, frT3, fit0, fit1, fit2, fit3, true_and, and_true, ↓reduceIte, Nat.reduceAdd, Nat.reduceMul, and_self, not_false_eq_true, not_true_eq_false, Nat.zero_add, Nat.add_zero]
  · have hx' := Bool.eq_false_iff.mpr hx
    rw [if_neg hx]
    simp (discharger := omega) only [↓w296_0, ↓w296_1, ↓w296_2, ↓w296_5, ↓w296_6, ↓w296_7, ↓w296_10, ↓w296_13, ↓w296_14, ↓w296_15, ↓w296_16, ↓w296_17, ↓w296_18, ↓w296_20, ↓w296_21, ↓w296_24, ↓w296_25, ↓w296_26, ↓w296_29, ↓w296_30, ↓w296_31, ↓w296_33, ↓w296_34, ↓w296_37, ↓w296_40, ↓w296_41, ↓w296_42, ↓w296_43, ↓w296_46, ↓w296_47, ↓w296_50, ↓w296_51, ↓w296_52, ↓w296_53, ↓w296_56, ↓w296_57, ↓w296_58, ↓w296_59, ↓w296_62, ↓w296_65, ↓w296_66, ↓m_isReplica (mN' hN), hx', bI_f, ↓kc_i, ↓kc_l, ↓kc_r, ↓kc_n, rc420, g420_0, p420_0, g420_1, p420_1, g420_2, g420_3, p420_3, g420_4, p420_4, g420_5, p420_5, g420_6, p420_6, g420_7, p420_7, g420_8, p420_8, g420_9, p420_9, g420_10, g420_11, g420_12, g420_13, g420_14, g420_15, g420_16, g420_17, g420_18, g420_19, p420_19, g420_20, g420_21, g420_22, g420_23, g420_24, g420_25, g420_26, g420_27, g420_28, g420_29, g420_30, g420_31, g420_32, p420_32, g420_33, g420_34, g420_35, g420_36, g420_37, g420_38, g420_39, g420_40, g420_41, g420_42, g420_43, g420_44, g420_45, g420_46, g420_47, p420_47, g420_48, g420_49, p420_49, pm_eq, pm_ne, st_pm, st_pmne, rd1, rd2, rd3, rd4, rd5, rd6, rd2s, rd3s, rd4s, rd5s, rd7, rd8, rd9, rd10, rd11, rd0, rdc, wr1, wr2, wr3, wr4, wr5, wr6, wr2s, wr3s, wr4s, wr5s, wr7, wr8, wr9, wr10, wr11, wr0, wrc, st_ne, st_eq, st_st, mul8, mul8', mul4, mul4', nI_add, inT, nclN, ltT, ltF, leT, leF, eqT, eqF, nzF, m1F, m1T, shr, shg, bI0, bI1, bo_bI, bo_1, bo_0, eq10, eq00, frT1, frT2, frT3, fit0, fit1, fit2, fit3, true_and, and_true, ↓reduceIte, Nat.reduceAdd, Nat.reduceMul, and_self, not_false_eq_true, not_true_eq_false, Nat.zero_add, Nat.add_zero]
theorem m_level (hG : okG (mG I)) (hV : okV B (mG I) V) : Wp L xs (d+4) 297 0 [some (.ref (420)), some (.int (x))] [] (mk (pm I V) J R Z) P = P (some (.int (vLev (mG I) V x))) (mk (pm (st I 420 (upd (I 420) 0 (nI 0))) V) J R Z) := by
  have hN : I 422 0 = nI (gN (mG I)) := hG.1.1
  have hM : I 422 2 = nI (gM (mG I)) := hG.2.1.1
  have h5 := hG.1.2
  have h8 := hG.2.1.2
  unfold vLev
  by_cases hx : isR (gN (mG I)) x = true
  · rw [if_pos hx]
    obtain ⟨r, hr, rfl⟩ := isR_t hx (by omega)
    rw [nI_clamp (by omega), ← lvl_q h5 h8 hV.2.1.2.2.2.1]
    have h1 := fun P => m_levelOf (L := L) (xs := xs) (d := d) (I := st I 420 (upd (I 420) 0 (nI 0))) (J := J) (R := R) (Z := Z) (P := P) (V := V) (l := r) (show r < 5 by omega) (mT (by decide) hN) h5 (mT (by decide) hM) h8
    unfold lvf at h1
    rw [st_ne (by decide)] at h1
    simp (discharger := omega) only [↓w297_0, ↓w297_1, ↓w297_2, ↓w297_5, ↓w297_6, ↓w297_7, ↓w297_10, ↓w297_13, ↓w297_14, ↓w297_15, ↓w297_18, ↓w297_21, ↓w297_22, ↓m_isReplica (mN' hN), ↓h1, hx, bI_t, ↓kc_i, ↓kc_l, ↓kc_r, ↓kc_n, rc420, g420_0, p420_0, g420_1, p420_1, g420_2, g420_3, p420_3, g420_4, p420_4, g420_5, p420_5, g420_6, p420_6, g420_7, p420_7, g420_8, p420_8, g420_9, p420_9, g420_10, g420_11, g420_12, g420_13, g420_14, g420_15, g420_16, g420_17, g420_18, g420_19, p420_19, g420_20, g420_21, g420_22, g420_23, g420_24, g420_25, g420_26, g420_27, g420_28, g420_29, g420_30, g420_31, g420_32, p420_32, g420_33, g420_34, g420_35, g420_36, g420_37, g420_38, g420_39, g420_40, g420_41, g420_42, g420_43, g420_44, g420_45, g420_46, g420_47, p420_47, g420_48, g420_49, p420_49, pm_eq, pm_ne, st_pm, st_pmne, rd1, rd2, rd3, rd4, rd5, rd6, rd2s, rd3s, rd4s, rd5s, rd7, rd8, rd9, rd10, rd11, rd0, rdc, wr1, wr2, wr3, wr4, wr5, wr6, wr2s, wr3s, wr4s, wr5s, wr7, wr8, wr9, wr10, wr11, wr0, wrc, st_ne, st_eq, st_st, mul8, mul8', mul4, mul4', nI_add, inT, nclN, ltT, ltF, leT, leF, eqT, eqF, nzF, m1F, m1T, shr, shg, bI0, bI1, bo_bI, bo_1, bo_0, eq10, eq00, frT1, frT2, frT3, fit0, fit1, fit2, fit3, true_and, and_true, ↓reduceIte, Nat.reduceAdd, Nat.reduceMul, and_self, not_false_eq_true, not_true_eq_false, Nat.zero_add, Nat.add_zero]
    rfl
  · have hx' := Bool.eq_false_iff.mpr hx
    rw [if_neg hx]
    simp (discharger := omega) only [↓w297_0, ↓w297_1, ↓w297_2, ↓w297_5, ↓w297_6, ↓w297_7, ↓w297_10, ↓w297_13, ↓w297_14, ↓w297_15, ↓w297_18, ↓w297_21, ↓w297_22, ↓m_isReplica (mN' hN), hx', bI_f, ↓kc_i, ↓kc_l, ↓kc_r, ↓kc_n, rc420, g420_0, p420_0, g420_1, p420_1, g420_2, g420_3, p420_3, g420_4, p420_4, g420_5, p420_5, g420_6, p420_6, g420_7, p420_7, g420_8, p420_8, g420_9, p420_9, g420_10, g420_11, g420_12, g420_13, g420_14, g420_15, g420_16, g420_17, g420_18, g420_19, p420_19, g420_20, g420_21, g420_22, g420_23, g420_24, g420_25, g420_26, g420_27, g420_28, g420_29, g420_30, g420_31, g420_32, p420_32, g420_33, g420_34, g420_35, g420_36, g420_37, g420_38, g420_39, g420_40, g420_41, g420_42, g420_43, g420_44, g420_45, g420_46, g420_47, p420_47, g420_48, g420_49, p420_49, pm_eq, pm_ne, st_pm, st_pmne, rd1, rd2, rd3, rd4, rd5, rd6, rd2s, rd3s, rd4s, rd5s, rd7, rd8, rd9, rd10, rd11, rd0, rdc, wr1, wr2, wr3, wr4, wr5, wr6, wr2s, wr3s, wr4s, wr5s, wr7, wr8, wr9, wr10, wr11, wr0, wrc, st_ne, st_eq, st_st, mul8, mul8', mul4, mul4', nI_add, inT, nclN, ltT, ltF, leT, leF, eqT, eqF, nzF, m1F, m1T, shr, shg, bI0, bI1, bo_bI, bo_1, bo_0, eq10, eq00, frT1, frT2, frT3, fit0, fit1, fit2, fit3, true_and, and_true, ↓reduceIte, Nat.reduceAdd, Nat.reduceMul, and_self, not_false_eq_true, not_true_eq_false, Nat.zero_add, Nat.add_zero]
theorem stk_1 {e e' : Int32} : ∀ {n : Nat}, (stk n V e).1 = (stk n V e').1
  | 0 => rfl
  | n + 1 => by
    show (if tb (V 0 0) n = true then ((stk n V e).1 ||| _, _) else stk n V e).1 = (if tb (V 0 0) n = true then ((stk n V e').1 ||| _, _) else stk n V e').1
    have ih := stk_1 (e := e) (e' := e') (n := n)
    split
    · dsimp only; rw [ih]
    · exact ih
theorem stk_2 {e e' : Int32} (h : tb e k = tb e' k) : ∀ {n : Nat}, tb (stk n V e).2 k = tb (stk n V e').2 k
  | 0 => h
  | n + 1 => by
    show tb (if tb (V 0 0) n = true then (_, (stk n V e).2 &&& cAt (V 1) n (nI 3) (nI 4)) else stk n V e).2 k = tb (if tb (V 0 0) n = true then (_, (stk n V e').2 &&& cAt (V 1) n (nI 3) (nI 4)) else stk n V e').2 k
    have ih := stk_2 h (n := n)
    split
    · dsimp only; rw [tb_and, tb_and, ih]
    · exact ih
theorem stk_M {e : Int32} (hz : ∀ r c, r < 5 → M ≤ c → c < 8 → V 1 (8 * r + c) = nI 0) : ∀ {n : Nat}, n ≤ 5 → tb (stk n V e).1 k = true → k < M
  | 0, _, h => by change tb (nI 0) k = true at h; rw [tb_0] at h; cases h
  | n + 1, hn, h => by
    change tb (if tb (V 0 0) n = true then ((stk n V e).1 ||| cAt (V 1) n (nI 1) (nI 4), _) else stk n V e).1 k = true at h
    split at h
    · dsimp only at h
      rw [tb_or, Bool.or_eq_true] at h
      rcases h with h | h
      · exact stk_M hz (by omega) h
      · rw [tb_cAt] at h
        simp only [Bool.and_eq_true, decide_eq_true_eq] at h
        by_cases hk : k < M
        · exact hk
        · rw [hz n k (by omega) (by omega) h.1] at h
          exact absurd h.2 (by decide)
    · exact stk_M hz (by omega) h
theorem m_stuck (hG : okG (mG I)) (hV : okV B (mG I) V) : Wp L xs (d+2) 298 0 [some (.ref (420)), none, none, none] [] (mk (pm I V) J R Z) P = P (some (.int (vStu (mG I) V))) (mk (pm (st I 420 (upd (I 420) 0 (nI 0))) V) J R Z) := by
  have hN : I 422 0 = nI (gN (mG I)) := hG.1.1
  have hM : I 422 2 = nI (gM (mG I)) := hG.2.1.1
  have h5 := hG.1.2
  have h8 := hG.2.1.2
  have hp := pcn_le (x := V 0 0)
  have hms : mst (gN (mG I)) ≤ 5 := by unfold mst; omega
  have hmo := fun P => m_most (L := L) (xs := xs) (d := d + 1) (I := pm (st I 420 (upd (I 420) 0 (nI 0))) V) (J := J) (R := R) (Z := Z) (P := P) (mN' hN) h5
  unfold vStu
  by_cases h : mst (gN (mG I)) ≤ pcn (V 0 0)
  · rw [if_pos h]
    simp (discharger := omega) only [↓w298_0, ↓w298_1, ↓w298_2, ↓w298_5, ↓w298_6, ↓w298_9, ↓w298_12, ↓w298_13, ↓w298_16, ↓w298_17, ↓w298_20, ↓w298_23, ↓w298_24, ↓w298_25, ↓w298_26, ↓w298_27, ↓w298_30, ↓w298_31, ↓w298_32, ↓w298_34, ↓w298_35, ↓w298_38, ↓w298_39, ↓w298_40, ↓w298_43, ↓w298_44, ↓w298_45, ↓w298_48, ↓w298_51, ↓w298_54, ↓w298_55, ↓w298_56, ↓w298_57, ↓w298_58, ↓w298_59, ↓w298_62, ↓w298_63, ↓w298_64, ↓w298_65, ↓w298_66, ↓w298_67, ↓w298_68, ↓w298_69, ↓w298_72, ↓w298_73, ↓w298_74, ↓w298_77, ↓w298_80, ↓w298_81, ↓w298_82, ↓w298_83, ↓w298_84, ↓w298_85, ↓m_bits, ↓hmo, ↓kc_i, ↓kc_l, ↓kc_r, ↓kc_n, rc420, g420_0, p420_0, g420_1, p420_1, g420_2, g420_3, p420_3, g420_4, p420_4, g420_5, p420_5, g420_6, p420_6, g420_7, p420_7, g420_8, p420_8, g420_9, p420_9, g420_10, g420_11, g420_12, g420_13, g420_14, g420_15, g420_16, g420_17, g420_18, g420_19, p420_19, g420_20, g420_21, g420_22, g420_23, g420_24, g420_25, g420_26, g420_27, g420_28, g420_29, g420_30, g420_31, g420_32, p420_32, g420_33, g420_34, g420_35, g420_36, g420_37, g420_38, g420_39, g420_40, g420_41, g420_42, g420_43, g420_44, g420_45, g420_46, g420_47, p420_47, g420_48, g420_49, p420_49, gi451, si451, pm_eq, pm_ne, st_pm, st_pmne, rd1, rd2, rd3, rd4, rd5, rd6, rd2s, rd3s, rd4s, rd5s, rd7, rd8, rd9, rd10, rd11, rd0, rdc, wr1, wr2, wr3, wr4, wr5, wr6, wr2s, wr3s, wr4s, wr5s, wr7, wr8, wr9, wr10, wr11, wr0, wrc, st_ne, st_eq, st_st, mul8, mul8', mul4, mul4', nI_add, inT, nclN, ltT, ltF, leT, leF, eqT, eqF, nzF, m1F, m1T, shr, shg, bI0, bI1, bo_bI, bo_1, bo_0, eq10, eq00, frT1, frT2, frT3, fit0, fit1, fit2, fit3, true_and, and_true, ↓reduceIte, Nat.reduceAdd, Nat.reduceMul, and_self, not_false_eq_true, not_true_eq_false, Nat.zero_add, Nat.add_zero]
  · rw [if_neg h]
    have e : (fun q : Int32 × Int32 => q.1 &&& (q.2 ^^^ (-1))) (stk (gN (mG I)) V (sg (gM (mG I)) - nI 1)) = (fun q : Int32 × Int32 => q.1 &&& (q.2 ^^^ (-1))) (stk (gN (mG I)) V (nI 255)) := by
      apply tb_ext
      intro k hk
      dsimp only
      rw [tb_and, tb_and, tb_nx hk, tb_nx hk, stk_1 (e' := nI 255)]
      cases hq : tb (stk (gN (mG I)) V (nI 255)).1 k
      · rfl
      · have hkM := stk_M (M := gM (mG I)) hV.2.1.2.2.2.2.1 h5 hq
        rw [stk_2 (e' := nI 255) (by rw [tb_all _ (by omega) k hk, t_255 k (by omega)]; simp [hkM])]
    rw [e]
    simp (discharger := omega) only [↓w298_0, ↓w298_1, ↓w298_2, ↓w298_5, ↓w298_6, ↓w298_9, ↓w298_12, ↓w298_13, ↓w298_16, ↓w298_17, ↓w298_20, ↓w298_23, ↓w298_24, ↓w298_25, ↓w298_26, ↓w298_27, ↓w298_30, ↓w298_31, ↓w298_32, ↓w298_34, ↓w298_35, ↓w298_38, ↓w298_39, ↓w298_40, ↓w298_43, ↓w298_44, ↓w298_45, ↓w298_48, ↓w298_51, ↓w298_54, ↓w298_55, ↓w298_56, ↓w298_57, ↓w298_58, ↓w298_59, ↓w298_62, ↓w298_63, ↓w298_64, ↓w298_65, ↓w298_66, ↓w298_67, ↓w298_68, ↓w298_69, ↓w298_72, ↓w298_73, ↓w298_74, ↓w298_77, ↓w298_80, ↓w298_81, ↓w298_82, ↓w298_83, ↓w298_84, ↓w298_85, ↓m_bits, ↓hmo, ↓kc_i, ↓kc_l, ↓kc_r, ↓kc_n, rc420, g420_0, p420_0, g420_1, p420_1, g420_2, g420_3, p420_3, g420_4, p420_4, g420_5, p420_5, g420_6, p420_6, g420_7, p420_7, g420_8, p420_8, g420_9, p420_9, g420_10, g420_11, g420_12, g420_13, g420_14, g420_15, g420_16, g420_17, g420_18, g420_19, p420_19, g420_20, g420_21, g420_22, g420_23, g420_24, g420_25, g420_26, g420_27, g420_28, g420_29, g420_30, g420_31, g420_32, p420_32, g420_33, g420_34, g420_35, g420_36, g420_37, g420_38, g420_39, g420_40, g420_41, g420_42, g420_43, g420_44, g420_45, g420_46, g420_47, p420_47, g420_48, g420_49, p420_49, gi451, si451, pm_eq, pm_ne, st_pm, st_pmne, rd1, rd2, rd3, rd4, rd5, rd6, rd2s, rd3s, rd4s, rd5s, rd7, rd8, rd9, rd10, rd11, rd0, rdc, wr1, wr2, wr3, wr4, wr5, wr6, wr2s, wr3s, wr4s, wr5s, wr7, wr8, wr9, wr10, wr11, wr0, wrc, st_ne, st_eq, st_st, mul8, mul8', mul4, mul4', nI_add, inT, nclN, ltT, ltF, leT, leF, eqT, eqF, nzF, m1F, m1T, shr, shg, bI0, bI1, bo_bI, bo_1, bo_0, eq10, eq00, frT1, frT2, frT3, fit0, fit1, fit2, fit3, true_and, and_true, ↓reduceIte, Nat.reduceAdd, Nat.reduceMul, and_self, not_false_eq_true, not_true_eq_false, Nat.zero_add, Nat.add_zero]
    refine lp_any (T := Unit) (F := fun i (q : Int32 × Int32) _ => Wp L xs (d+2) 298 33 [some (.ref (420)), some (.int (q.1)), some (.int (q.2)), some (.int (nI i))] [] (mk (pm (st I 420 (upd (I 420) 0 (nI 0))) V) J R Z) P) (B := fun r q => if tb (V 0 0) r = true then (q.1 ||| cAt (V 1) r (nI 1) (nI 4), q.2 &&& cAt (V 1) r (nI 3) (nI 4)) else q) (G := fun q => P (some (.int (q.1 &&& (q.2 ^^^ (-1))))) (mk (pm (st I 420 (upd (I 420) 0 (nI 0))) V) J R Z)) (gN (mG I)) ?_ ?_ (nI 0, nI 255) ()
    · intro i q t hi
      refine ⟨(), w298_33.trans ?_⟩
      have hws := fun (a b : Int32) P => m_withStatus (L := L) (xs := xs) (d := d) (I := st I 420 (upd (I 420) 0 (nI 0))) (J := J) (R := R) (Z := Z) (P := P) (V := V) (x := a) (y := b) (show i < 5 by omega) (mT (by decide) hM) h8
      have ec := fun a b (h0 : inr (nI 0) a b = false) => wSt_cAt (f1 := V 1) (r := i) (p := a) (q := b) h8 h0 (fun c h1 h2 => hV.2.1.2.2.2.2.1 i c (by omega) h1 h2)
      simp (discharger := omega) only [↓w298_0, ↓w298_1, ↓w298_2, ↓w298_5, ↓w298_6, ↓w298_9, ↓w298_12, ↓w298_13, ↓w298_16, ↓w298_17, ↓w298_20, ↓w298_23, ↓w298_24, ↓w298_25, ↓w298_26, ↓w298_27, ↓w298_30, ↓w298_31, ↓w298_32, ↓w298_34, ↓w298_35, ↓w298_38, ↓w298_39, ↓w298_40, ↓w298_43, ↓w298_44, ↓w298_45, ↓w298_48, ↓w298_51, ↓w298_54, ↓w298_55, ↓w298_56, ↓w298_57, ↓w298_58, ↓w298_59, ↓w298_62, ↓w298_63, ↓w298_64, ↓w298_65, ↓w298_66, ↓w298_67, ↓w298_68, ↓w298_69, ↓w298_72, ↓w298_73, ↓w298_74, ↓w298_77, ↓w298_80, ↓w298_81, ↓w298_82, ↓w298_83, ↓w298_84, ↓w298_85, ↓m_isUp, ↓hws, ↓kc_i, ↓kc_l, ↓kc_r, ↓kc_n, rc420, g420_0, p420_0, g420_1, p420_1, g420_2, g420_3, p420_3, g420_4, p420_4, g420_5, p420_5, g420_6, p420_6, g420_7, p420_7, g420_8, p420_8, g420_9, p420_9, g420_10, g420_11, g420_12, g420_13, g420_14, g420_15, g420_16, g420_17, g420_18, g420_19, p420_19, g420_20, g420_21, g420_22, g420_23, g420_24, g420_25, g420_26, g420_27, g420_28, g420_29, g420_30, g420_31, g420_32, p420_32, g420_33, g420_34, g420_35, g420_36, g420_37, g420_38, g420_39, g420_40, g420_41, g420_42, g420_43, g420_44, g420_45, g420_46, g420_47, p420_47, g420_48, g420_49, p420_49, gi422, si422, pm_eq, pm_ne, st_pm, st_pmne, rd1, rd2, rd3, rd4, rd5, rd6, rd2s, rd3s, rd4s, rd5s, rd7, rd8, rd9, rd10, rd11, rd0, rdc, wr1, wr2, wr3, wr4, wr5, wr6, wr2s, wr3s, wr4s, wr5s, wr7, wr8, wr9, wr10, wr11, wr0, wrc, st_ne, st_eq, st_st, hN, mul8, mul8', mul4, mul4', nI_add, inT, nclN, ltT, ltF, leT, leF, eqT, eqF, nzF, m1F, m1T, shr, shg, bI0, bI1, bo_bI, bo_1, bo_0, eq10, eq00, frT1, frT2, frT3, fit0, fit1, fit2, fit3, true_and, and_true, ↓reduceIte, Nat.reduceAdd, Nat.reduceMul, and_self, not_false_eq_true, not_true_eq_false, Nat.zero_add, Nat.add_zero]
      rw [ec _ _ (by decide), ec _ _ (by decide)]
      by_cases hb : tb (V 0 0) i = true <;> simp [hb]
    · intro q t
      refine w298_33.trans ?_
      simp (discharger := omega) only [↓w298_0, ↓w298_1, ↓w298_2, ↓w298_5, ↓w298_6, ↓w298_9, ↓w298_12, ↓w298_13, ↓w298_16, ↓w298_17, ↓w298_20, ↓w298_23, ↓w298_24, ↓w298_25, ↓w298_26, ↓w298_27, ↓w298_30, ↓w298_31, ↓w298_32, ↓w298_34, ↓w298_35, ↓w298_38, ↓w298_39, ↓w298_40, ↓w298_43, ↓w298_44, ↓w298_45, ↓w298_48, ↓w298_51, ↓w298_54, ↓w298_55, ↓w298_56, ↓w298_57, ↓w298_58, ↓w298_59, ↓w298_62, ↓w298_63, ↓w298_64, ↓w298_65, ↓w298_66, ↓w298_67, ↓w298_68, ↓w298_69, ↓w298_72, ↓w298_73, ↓w298_74, ↓w298_77, ↓w298_80, ↓w298_81, ↓w298_82, ↓w298_83, ↓w298_84, ↓w298_85, rc420, g420_0, p420_0, g420_1, p420_1, g420_2, g420_3, p420_3, g420_4, p420_4, g420_5, p420_5, g420_6, p420_6, g420_7, p420_7, g420_8, p420_8, g420_9, p420_9, g420_10, g420_11, g420_12, g420_13, g420_14, g420_15, g420_16, g420_17, g420_18, g420_19, p420_19, g420_20, g420_21, g420_22, g420_23, g420_24, g420_25, g420_26, g420_27, g420_28, g420_29, g420_30, g420_31, g420_32, p420_32, g420_33, g420_34, g420_35, g420_36, g420_37, g420_38, g420_39, g420_40, g420_41, g420_42, g420_43, g420_44, g420_45, g420_46, g420_47, p420_47, g420_48, g420_49, p420_49, gi422, si422, pm_eq, pm_ne, st_pm, st_pmne, rd1, rd2, rd3, rd4, rd5, rd6, rd2s, rd3s, rd4s, rd5s, rd7, rd8, rd9, rd10, rd11, rd0, rdc, wr1, wr2, wr3, wr4, wr5, wr6, wr2s, wr3s, wr4s, wr5s, wr7, wr8, wr9, wr10, wr11, wr0, wrc, st_ne, st_eq, st_st, hN, mul8, mul8', mul4, mul4', nI_add, inT, nclN, ltT, ltF, leT, leF, eqT, eqF, nzF, m1F, m1T, shr, shg, bI0, bI1, bo_bI, bo_1, bo_0, eq10, eq00, frT1, frT2, frT3, fit0, fit1, fit2, fit3, true_and, and_true, ↓reduceIte, Nat.reduceAdd, Nat.reduceMul, and_self, not_false_eq_true, not_true_eq_false, Nat.zero_add, Nat.add_zero]
theorem mfo_eq : mfo N (V 0 0) (V 1) (V 2) (V 3) (V 4) l c = (mfd N M cl V l c).1 := by
  unfold mfo mfd
  cases fdn N (V 0 0) (V 1) c with
  | some t => rfl
  | none =>
    cases abst N (V 0 0) (V 1) (V 2) c with
    | some t => rfl
    | none =>
      cases alik N (V 0 0) (V 1) (V 3) (V 4) l c with
      | some t => rfl
      | none =>
        simp only [Option.isSome_none, Bool.false_eq_true, ↓reduceIte]
        split <;> rfl
theorem m_finds (hG : okG (mG I)) (hX : okX (mG I)) (hV : okV B (mG I) V) (hBl : B < 2147483648) : Wp L xs (d+5) 299 0 [some (.ref (420)), some (.int (x)), some (.int (y))] [] (mk (pm I V) J R Z) P = P (some (.int (vFin (mG I) V x y))) (mk (pm (st I 420 (upd (I 420) 0 (nI 0))) V) J R Z) := by
  have hN : I 422 0 = nI (gN (mG I)) := hG.1.1
  have hM : I 422 2 = nI (gM (mG I)) := hG.2.1.1
  have h5 := hG.1.2
  have h8 := hG.2.1.2
  unfold vFin
  by_cases hx : isR (gM (mG I)) x = true
  · by_cases hy : isR (gN (mG I)) y = true
    · obtain ⟨c, hc, rfl⟩ := isR_t hx (by omega)
      obtain ⟨r, hr, rfl⟩ := isR_t hy (by omega)
      rw [if_pos ⟨hx, hy⟩, nI_clamp (by omega), nI_clamp (by omega)]
      have hc8 : c < 8 := by omega
      have hl : I 427 c = nI (gL (mG I) c) := (hG.2.2.1 c hc).1
      have hl5 : gL (mG I) c < 5 := by have := (hG.2.2.1 c hc).2; omega
      have h1 := fun P => m_canRecover (L := L) (xs := xs) (d := d + 2) (I := st I 420 (upd (I 420) 0 (nI 0))) (J := J) (R := R) (Z := Z) (P := P) (V := V) hc8 (show r < 5 by omega) (mT (by decide) hN) h5
      have h2 := fun P => m_findsOf (L := L) (xs := xs) (d := d) (I := st I 420 (upd (I 420) 0 (nI 0))) (J := J) (R := R) (Z := Z) (P := P) (V := V) hc8 (mT (by decide) hN) h5 (mT (by decide) hl) hl5
      rw [mfo_eq (M := gM (mG I)) (cl := I 457), mfd_eq (cl := I 457) h5 h8 hc8 hl5 hV.2.1.2.2.1 hV.2.1.2.2.2.1 hV.2.2.1.2 hBl (hX.1 c hc)] at h2
      dsimp only
      by_cases hcr : canRec (gN (mG I)) (V 0 0) (V 1) r c = true
      · rw [if_pos hcr]
        simp (discharger := omega) only [↓w299_0, ↓w299_1, ↓w299_2, ↓w299_5, ↓w299_6, ↓w299_7, ↓w299_10, ↓w299_13, ↓w299_14, ↓w299_15, ↓w299_18, ↓w299_21, ↓w299_22, ↓w299_23, ↓w299_24, ↓w299_27, ↓w299_30, ↓w299_31, ↓w299_32, ↓w299_35, ↓w299_38, ↓w299_39, ↓m_isReplica (mN' hN), ↓m_isCommand (mM' hM), ↓h1, ↓h2, hx, hy, bI_t, hcr, ↓kc_i, ↓kc_l, ↓kc_r, ↓kc_n, rc420, g420_0, p420_0, g420_1, p420_1, g420_2, g420_3, p420_3, g420_4, p420_4, g420_5, p420_5, g420_6, p420_6, g420_7, p420_7, g420_8, p420_8, g420_9, p420_9, g420_10, g420_11, g420_12, g420_13, g420_14, g420_15, g420_16, g420_17, g420_18, g420_19, p420_19, g420_20, g420_21, g420_22, g420_23, g420_24, g420_25, g420_26, g420_27, g420_28, g420_29, g420_30, g420_31, g420_32, p420_32, g420_33, g420_34, g420_35, g420_36, g420_37, g420_38, g420_39, g420_40, g420_41, g420_42, g420_43, g420_44, g420_45, g420_46, g420_47, p420_47, g420_48, g420_49, p420_49, pm_eq, pm_ne, st_pm, st_pmne, rd1, rd2, rd3, rd4, rd5, rd6, rd2s, rd3s, rd4s, rd5s, rd7, rd8, rd9, rd10, rd11, rd0, rdc, wr1, wr2, wr3, wr4, wr5, wr6, wr2s, wr3s, wr4s, wr5s, wr7, wr8, wr9, wr10, wr11, wr0, wrc, st_ne, st_eq, st_st, mul8, mul8', mul4, mul4', nI_add, inT, nclN, ltT, ltF, leT, leF, eqT, eqF, nzF, m1F, m1T, shr, shg, bI0, bI1, bo_bI, bo_1, bo_0, eq10, eq00, frT1, frT2, frT3, fit0, fit1, fit2, fit3, true_and, and_true, ↓reduceIte, Nat.reduceAdd, Nat.reduceMul, and_self, not_false_eq_true, not_true_eq_false, Nat.zero_add, Nat.add_zero, Bool.true_eq_false]
        rfl
      · have hcr' := Bool.eq_false_iff.mpr hcr
        rw [if_neg hcr]
        simp (discharger := omega) only [↓w299_0, ↓w299_1, ↓w299_2, ↓w299_5, ↓w299_6, ↓w299_7, ↓w299_10, ↓w299_13, ↓w299_14, ↓w299_15, ↓w299_18, ↓w299_21, ↓w299_22, ↓w299_23, ↓w299_24, ↓w299_27, ↓w299_30, ↓w299_31, ↓w299_32, ↓w299_35, ↓w299_38, ↓w299_39, ↓m_isReplica (mN' hN), ↓m_isCommand (mM' hM), ↓h1, hx, hy, bI_t, bI_f, hcr', ↓kc_i, ↓kc_l, ↓kc_r, ↓kc_n, rc420, g420_0, p420_0, g420_1, p420_1, g420_2, g420_3, p420_3, g420_4, p420_4, g420_5, p420_5, g420_6, p420_6, g420_7, p420_7, g420_8, p420_8, g420_9, p420_9, g420_10, g420_11, g420_12, g420_13, g420_14, g420_15, g420_16, g420_17, g420_18, g420_19, p420_19, g420_20, g420_21, g420_22, g420_23, g420_24, g420_25, g420_26, g420_27, g420_28, g420_29, g420_30, g420_31, g420_32, p420_32, g420_33, g420_34, g420_35, g420_36, g420_37, g420_38, g420_39, g420_40, g420_41, g420_42, g420_43, g420_44, g420_45, g420_46, g420_47, p420_47, g420_48, g420_49, p420_49, pm_eq, pm_ne, st_pm, st_pmne, rd1, rd2, rd3, rd4, rd5, rd6, rd2s, rd3s, rd4s, rd5s, rd7, rd8, rd9, rd10, rd11, rd0, rdc, wr1, wr2, wr3, wr4, wr5, wr6, wr2s, wr3s, wr4s, wr5s, wr7, wr8, wr9, wr10, wr11, wr0, wrc, st_ne, st_eq, st_st, mul8, mul8', mul4, mul4', nI_add, inT, nclN, ltT, ltF, leT, leF, eqT, eqF, nzF, m1F, m1T, shr, shg, bI0, bI1, bo_bI, bo_1, bo_0, eq10, eq00, frT1, frT2, frT3, fit0, fit1, fit2, fit3, true_and, and_true, ↓reduceIte, Nat.reduceAdd, Nat.reduceMul, and_self, not_false_eq_true, not_true_eq_false, Nat.zero_add, Nat.add_zero]
    · have hy' := Bool.eq_false_iff.mpr hy
      rw [if_neg (fun q => hy q.2)]
      simp (discharger := omega) only [↓w299_0, ↓w299_1, ↓w299_2, ↓w299_5, ↓w299_6, ↓w299_7, ↓w299_10, ↓w299_13, ↓w299_14, ↓w299_15, ↓w299_18, ↓w299_21, ↓w299_22, ↓w299_23, ↓w299_24, ↓w299_27, ↓w299_30, ↓w299_31, ↓w299_32, ↓w299_35, ↓w299_38, ↓w299_39, ↓m_isReplica (mN' hN), ↓m_isCommand (mM' hM), hx, hy', bI_t, bI_f, ↓kc_i, ↓kc_l, ↓kc_r, ↓kc_n, rc420, g420_0, p420_0, g420_1, p420_1, g420_2, g420_3, p420_3, g420_4, p420_4, g420_5, p420_5, g420_6, p420_6, g420_7, p420_7, g420_8, p420_8, g420_9, p420_9, g420_10, g420_11, g420_12, g420_13, g420_14, g420_15, g420_16, g420_17, g420_18, g420_19, p420_19, g420_20, g420_21, g420_22, g420_23, g420_24, g420_25, g420_26, g420_27, g420_28, g420_29, g420_30, g420_31, g420_32, p420_32, g420_33, g420_34, g420_35, g420_36, g420_37, g420_38, g420_39, g420_40, g420_41, g420_42, g420_43, g420_44, g420_45, g420_46, g420_47, p420_47, g420_48, g420_49, p420_49, pm_eq, pm_ne, st_pm, st_pmne, rd1, rd2, rd3, rd4, rd5, rd6, rd2s, rd3s, rd4s, rd5s, rd7, rd8, rd9, rd10, rd11, rd0, rdc, wr1, wr2, wr3, wr4, wr5, wr6, wr2s, wr3s, wr4s, wr5s, wr7, wr8, wr9, wr10, wr11, wr0, wrc, st_ne, st_eq, st_st, mul8, mul8', mul4, mul4', nI_add, inT, nclN, ltT, ltF, leT, leF, eqT, eqF, nzF, m1F, m1T, shr, shg, bI0, bI1, bo_bI, bo_1, bo_0, eq10, eq00, frT1, frT2, frT3, fit0, fit1, fit2, fit3, true_and, and_true, ↓reduceIte, Nat.reduceAdd, Nat.reduceMul, and_self, not_false_eq_true, not_true_eq_false, Nat.zero_add, Nat.add_zero]
  · have hx' := Bool.eq_false_iff.mpr hx
    rw [if_neg (fun q => hx q.1)]
    simp (discharger := omega) only [↓w299_0, ↓w299_1, ↓w299_2, ↓w299_5, ↓w299_6, ↓w299_7, ↓w299_10, ↓w299_13, ↓w299_14, ↓w299_15, ↓w299_18, ↓w299_21, ↓w299_22, ↓w299_23, ↓w299_24, ↓w299_27, ↓w299_30, ↓w299_31, ↓w299_32, ↓w299_35, ↓w299_38, ↓w299_39, ↓m_isCommand (mM' hM), hx', bI_f, ↓kc_i, ↓kc_l, ↓kc_r, ↓kc_n, rc420, g420_0, p420_0, g420_1, p420_1, g420_2, g420_3, p420_3, g420_4, p420_4, g420_5, p420_5, g420_6, p420_6, g420_7, p420_7, g420_8, p420_8, g420_9, p420_9, g420_10, g420_11, g420_12, g420_13, g420_14, g420_15, g420_16, g420_17, g420_18, g420_19, p420_19, g420_20, g420_21, g420_22, g420_23, g420_24, g420_25, g420_26, g420_27, g420_28, g420_29, g420_30, g420_31, g420_32, p420_32, g420_33, g420_34, g420_35, g420_36, g420_37, g420_38, g420_39, g420_40, g420_41, g420_42, g420_43, g420_44, g420_45, g420_46, g420_47, p420_47, g420_48, g420_49, p420_49, pm_eq, pm_ne, st_pm, st_pmne, rd1, rd2, rd3, rd4, rd5, rd6, rd2s, rd3s, rd4s, rd5s, rd7, rd8, rd9, rd10, rd11, rd0, rdc, wr1, wr2, wr3, wr4, wr5, wr6, wr2s, wr3s, wr4s, wr5s, wr7, wr8, wr9, wr10, wr11, wr0, wrc, st_ne, st_eq, st_st, mul8, mul8', mul4, mul4', nI_add, inT, nclN, ltT, ltF, leT, leF, eqT, eqF, nzF, m1F, m1T, shr, shg, bI0, bI1, bo_bI, bo_1, bo_0, eq10, eq00, frT1, frT2, frT3, fit0, fit1, fit2, fit3, true_and, and_true, ↓reduceIte, Nat.reduceAdd, Nat.reduceMul, and_self, not_false_eq_true, not_true_eq_false, Nat.zero_add, Nat.add_zero]
def rIA (V : Vw) : Int32 := lp (fun r a => a + V 7 r) 5 (nI 0)
theorem m_ranInAll : Wp L xs d 279 0 [some (.ref (420)), none, none] [] (mk (pm I V) J R Z) P = P (some (.int (rIA V))) (mk (pm I V) J R Z) := by
  unfold rIA
  simp (discharger := omega) only [↓w279_0, ↓w279_1, ↓w279_2, ↓w279_3, ↓w279_5, ↓w279_6, ↓w279_9, ↓w279_10, ↓w279_11, ↓w279_14, ↓w279_17, ↓w279_18, ↓w279_19, ↓w279_20, ↓w279_21, ↓w279_22, ↓w279_25, ↓w279_28, ↓w279_29, mul8, mul8', mul4, mul4', nI_add, inT, nclN, ltT, ltF, leT, leF, eqT, eqF, nzF, m1F, m1T, shr, shg, bI0, bI1, bo_bI, bo_1, bo_0, eq10, eq00, frT1, frT2, frT3, fit0, fit1, fit2, fit3, true_and, and_true, ↓reduceIte, Nat.reduceAdd, Nat.reduceMul, and_self, not_false_eq_true, not_true_eq_false, Nat.zero_add, Nat.add_zero]
  refine lp_any (T := Unit) (F := fun i acc _ => Wp L xs d 279 4 [some (.ref (420)), some (.int (acc)), some (.int (nI i))] [] (mk (pm I V) J R Z) P) (G := fun q => P (some (.int q)) (mk (pm I V) J R Z)) 5 ?_ ?_ (nI 0) ()
  · intro i acc t hi
    refine ⟨(), w279_4.trans ?_⟩
    simp (discharger := omega) only [↓w279_0, ↓w279_1, ↓w279_2, ↓w279_3, ↓w279_5, ↓w279_6, ↓w279_9, ↓w279_10, ↓w279_11, ↓w279_14, ↓w279_17, ↓w279_18, ↓w279_19, ↓w279_20, ↓w279_21, ↓w279_22, ↓w279_25, ↓w279_28, ↓w279_29, rc420, g420_0, p420_0, g420_1, p420_1, g420_2, g420_3, p420_3, g420_4, p420_4, g420_5, p420_5, g420_6, p420_6, g420_7, p420_7, g420_8, p420_8, g420_9, p420_9, g420_10, g420_11, g420_12, g420_13, g420_14, g420_15, g420_16, g420_17, g420_18, g420_19, p420_19, g420_20, g420_21, g420_22, g420_23, g420_24, g420_25, g420_26, g420_27, g420_28, g420_29, g420_30, g420_31, g420_32, p420_32, g420_33, g420_34, g420_35, g420_36, g420_37, g420_38, g420_39, g420_40, g420_41, g420_42, g420_43, g420_44, g420_45, g420_46, g420_47, p420_47, g420_48, g420_49, p420_49, gi451, si451, pm_eq, pm_ne, st_pm, st_pmne, rd1, rd2, rd3, rd4, rd5, rd6, rd2s, rd3s, rd4s, rd5s, rd7, rd8, rd9, rd10, rd11, rd0, rdc, wr1, wr2, wr3, wr4, wr5, wr6, wr2s, wr3s, wr4s, wr5s, wr7, wr8, wr9, wr10, wr11, wr0, wrc, st_ne, st_eq, st_st, mul8, mul8', mul4, mul4', nI_add, inT, nclN, ltT, ltF, leT, leF, eqT, eqF, nzF, m1F, m1T, shr, shg, bI0, bI1, bo_bI, bo_1, bo_0, eq10, eq00, frT1, frT2, frT3, fit0, fit1, fit2, fit3, true_and, and_true, ↓reduceIte, Nat.reduceAdd, Nat.reduceMul, and_self, not_false_eq_true, not_true_eq_false, Nat.zero_add, Nat.add_zero]
  · intro acc t
    refine w279_4.trans ?_
    simp (discharger := omega) only [↓w279_0, ↓w279_1, ↓w279_2, ↓w279_3, ↓w279_5, ↓w279_6, ↓w279_9, ↓w279_10, ↓w279_11, ↓w279_14, ↓w279_17, ↓w279_18, ↓w279_19, ↓w279_20, ↓w279_21, ↓w279_22, ↓w279_25, ↓w279_28, ↓w279_29, mul8, mul8', mul4, mul4', nI_add, inT, nclN, ltT, ltF, leT, leF, eqT, eqF, nzF, m1F, m1T, shr, shg, bI0, bI1, bo_bI, bo_1, bo_0, eq10, eq00, frT1, frT2, frT3, fit0, fit1, fit2, fit3, true_and, and_true, ↓reduceIte, Nat.reduceAdd, Nat.reduceMul, and_self, not_false_eq_true, not_true_eq_false, Nat.zero_add, Nat.add_zero]
def vCou (G : Gv) (V : Vw) (w s h t y : Int32) : Int32 := if y = nI 0 then G 0 0 else if y = nI 1 then G 0 1 else if y = nI 2 then G 0 2 else if y = nI 3 then V 0 0 else if y = nI 4 then V 0 1 else if y = nI 5 then rIA V else if y = nI 6 then w else if y = nI 7 then s else if y = nI 8 then h else if y = nI 9 then t else -1
theorem k_count : Wp L xs (d+1) 159 0 [some (.ref (64)), some (.int (y))] [] (mk I J R Z) P = P (some (.int (vCou (gI I) (vw I 102) (I 90 0) (I 98 0) (I 129 2) (I 65 1) y))) (mk I J R Z) := by
  simp (discharger := omega) only [↓w159_0, ↓w159_1, ↓w159_56, ↓w159_57, ↓w159_60, ↓w159_63, ↓w159_64, ↓w159_65, ↓w159_68, ↓w159_71, ↓w159_72, ↓w159_73, ↓w159_76, ↓w159_79, ↓w159_80, ↓w159_81, ↓w159_84, ↓w159_87, ↓w159_88, ↓w159_89, ↓w159_92, ↓w159_95, ↓w159_96, ↓w159_97, ↓w159_100, ↓w159_103, ↓w159_104, ↓w159_105, ↓w159_108, ↓w159_111, ↓w159_112, ↓w159_113, ↓w159_116, ↓w159_119, ↓w159_120, ↓w159_121, ↓w159_124, ↓w159_127, ↓w159_128, ↓w159_129, ↓w159_132, ↓w159_135, ↓w159_136, ↓w159_137, ↓k_ranInAll isS_102, ↓kc_i, ↓kc_l, ↓kc_r, ↓kc_n, rc64, g64_0, g64_1, g64_2, g64_3, g64_4, g64_5, g64_6, g64_7, g64_8, g64_9, g64_10, g64_11, g64_12, rc76, g76_0, p76_0, g76_1, p76_1, g76_2, p76_2, g76_3, g76_4, g76_5, g76_6, g76_7, g76_8, rc102, g102_0, p102_0, g102_1, p102_1, g102_2, g102_3, g102_4, g102_5, g102_6, g102_7, g102_8, g102_9, g102_10, g102_11, g102_12, rc90, g90_0, p90_0, g90_1, g90_2, g90_3, rc98, g98_0, p98_0, g98_1, g98_2, g98_3, rc129, g129_0, g129_1, p129_1, g129_2, p129_2, rc65, g65_0, g65_1, p65_1, g65_2, g65_3, g65_4, g65_5, g65_6, g65_7, p65_7, mul8, mul8', mul4, mul4', nI_add, inT, nclN, ltT, ltF, leT, leF, eqT, eqF, nzF, m1F, m1T, shr, shg, bI0, bI1, bo_bI, bo_1, bo_0, eq10, eq00, frT1, frT2, frT3, fit0, fit1, fit2, fit3, true_and, and_true, ↓reduceIte, Nat.reduceAdd, Nat.reduceMul, and_self, not_false_eq_true, not_true_eq_false, Nat.zero_add, Nat.add_zero]
  show _ = P (some (.int (if y = nI 0 then I 76 0 else if y = nI 1 then I 76 1 else if y = nI 2 then I 76 2 else if y = nI 3 then I 102 0 else if y = nI 4 then I 102 1 else if y = nI 5 then rIA (vw I 102) else if y = nI 6 then I 90 0 else if y = nI 7 then I 98 0 else if y = nI 8 then I 129 2 else if y = nI 9 then I 65 1 else -1))) (mk I J R Z)
  repeat' (first | rfl | split)
theorem m_count : Wp L xs (d+1) 311 0 [some (.ref (420)), some (.int (y))] [] (mk (pm I V) J R Z) P = P (some (.int (vCou (mG I) V (I 443 0) (I 447 0) (I 420 47) (I 420 1) y))) (mk (pm (st I 420 (upd (I 420) 0 (nI 0))) V) J R Z) := by
  by_cases hy : inr y (nI 0) (nI 9) = true
  · obtain ⟨w, hw, rfl⟩ := inr_of hy (by omega)
    have hw' : w = 0 ∨ w = 1 ∨ w = 2 ∨ w = 3 ∨ w = 4 ∨ w = 5 ∨ w = 6 ∨ w = 7 ∨ w = 8 ∨ w = 9 := by omega
    unfold vCou
    rcases hw' with rfl | rfl | rfl | rfl | rfl | rfl | rfl | rfl | rfl | rfl <;> simp (discharger := omega) only [↓w311_0, ↓w311_1, ↓w311_2, ↓w311_5, ↓w311_6, ↓w311_7, ↓w311_9, ↓w311_12, ↓w311_15, ↓w311_16, ↓w311_17, ↓w311_18, ↓w311_19, ↓w311_22, ↓w311_23, ↓w311_26, ↓w311_27, ↓w311_28, ↓w311_29, ↓w311_30, ↓w311_32, ↓w311_35, ↓w311_36, ↓w311_37, ↓w311_40, ↓w311_41, ↓w311_44, ↓w311_47, ↓w311_48, ↓w311_51, ↓w311_52, ↓w311_53, ↓w311_56, ↓w311_57, ↓w311_60, ↓w311_63, ↓w311_64, ↓w311_67, ↓w311_68, ↓w311_71, ↓w311_72, ↓w311_73, ↓w311_75, ↓w311_78, ↓w311_79, ↓w311_81, ↓w311_84, ↓w311_85, ↓w311_88, ↓w311_89, ↓w311_90, ↓w311_93, ↓w311_94, ↓w311_97, ↓w311_98, ↓w311_99, ↓w311_100, ↓w311_101, ↓w311_103, ↓w311_106, ↓w311_107, ↓w311_110, ↓w311_113, ↓w311_114, ↓w311_117, ↓m_within, ↓m_ranInAll, hy, bI_t, ↓kc_i, ↓kc_l, ↓kc_r, ↓kc_n, rc420, g420_0, p420_0, g420_1, p420_1, g420_2, g420_3, p420_3, g420_4, p420_4, g420_5, p420_5, g420_6, p420_6, g420_7, p420_7, g420_8, p420_8, g420_9, p420_9, g420_10, g420_11, g420_12, g420_13, g420_14, g420_15, g420_16, g420_17, g420_18, g420_19, p420_19, g420_20, g420_21, g420_22, g420_23, g420_24, g420_25, g420_26, g420_27, g420_28, g420_29, g420_30, g420_31, g420_32, p420_32, g420_33, g420_34, g420_35, g420_36, g420_37, g420_38, g420_39, g420_40, g420_41, g420_42, g420_43, g420_44, g420_45, g420_46, g420_47, p420_47, g420_48, g420_49, p420_49, gi451, si451, gi422, si422, gi443, si443, gi447, si447, gi448, si448, gi449, si449, gi450, si450, pm_eq, pm_ne, st_pm, st_pmne, rd1, rd2, rd3, rd4, rd5, rd6, rd2s, rd3s, rd4s, rd5s, rd7, rd8, rd9, rd10, rd11, rd0, rdc, wr1, wr2, wr3, wr4, wr5, wr6, wr2s, wr3s, wr4s, wr5s, wr7, wr8, wr9, wr10, wr11, wr0, wrc, st_ne, st_eq, st_st, upd_ne, mul8, mul8', mul4, mul4', nI_add, inT, nclN, ltT, ltF, leT, leF, eqT, eqF, nzF, m1F, m1T, shr, shg, bI0, bI1, bo_bI, bo_1, bo_0, eq10, eq00, frT1, frT2, frT3, fit0, fit1, fit2, fit3, true_and, and_true, ↓reduceIte, Nat.reduceAdd, Nat.reduceMul, and_self, not_false_eq_true, not_true_eq_false, Nat.zero_add, Nat.add_zero] <;> rfl
  · have hy' := Bool.eq_false_iff.mpr hy
    have hn := fun k (hk : k ≤ 9) => inr_no hy' hk (by omega)
    unfold vCou
    simp (discharger := omega) only [↓w311_0, ↓w311_1, ↓w311_2, ↓w311_5, ↓w311_6, ↓w311_7, ↓w311_9, ↓w311_12, ↓w311_15, ↓w311_16, ↓w311_17, ↓w311_18, ↓w311_19, ↓w311_22, ↓w311_23, ↓w311_26, ↓w311_27, ↓w311_28, ↓w311_29, ↓w311_30, ↓w311_32, ↓w311_35, ↓w311_36, ↓w311_37, ↓w311_40, ↓w311_41, ↓w311_44, ↓w311_47, ↓w311_48, ↓w311_51, ↓w311_52, ↓w311_53, ↓w311_56, ↓w311_57, ↓w311_60, ↓w311_63, ↓w311_64, ↓w311_67, ↓w311_68, ↓w311_71, ↓w311_72, ↓w311_73, ↓w311_75, ↓w311_78, ↓w311_79, ↓w311_81, ↓w311_84, ↓w311_85, ↓w311_88, ↓w311_89, ↓w311_90, ↓w311_93, ↓w311_94, ↓w311_97, ↓w311_98, ↓w311_99, ↓w311_100, ↓w311_101, ↓w311_103, ↓w311_106, ↓w311_107, ↓w311_110, ↓w311_113, ↓w311_114, ↓w311_117, ↓m_within, hy', bI_f, ↓kc_i, ↓kc_l, ↓kc_r, ↓kc_n, rc420, g420_0, p420_0, g420_1, p420_1, g420_2, g420_3, p420_3, g420_4, p420_4, g420_5, p420_5, g420_6, p420_6, g420_7, p420_7, g420_8, p420_8, g420_9, p420_9, g420_10, g420_11, g420_12, g420_13, g420_14, g420_15, g420_16, g420_17, g420_18, g420_19, p420_19, g420_20, g420_21, g420_22, g420_23, g420_24, g420_25, g420_26, g420_27, g420_28, g420_29, g420_30, g420_31, g420_32, p420_32, g420_33, g420_34, g420_35, g420_36, g420_37, g420_38, g420_39, g420_40, g420_41, g420_42, g420_43, g420_44, g420_45, g420_46, g420_47, p420_47, g420_48, g420_49, p420_49, pm_eq, pm_ne, st_pm, st_pmne, rd1, rd2, rd3, rd4, rd5, rd6, rd2s, rd3s, rd4s, rd5s, rd7, rd8, rd9, rd10, rd11, rd0, rdc, wr1, wr2, wr3, wr4, wr5, wr6, wr2s, wr3s, wr4s, wr5s, wr7, wr8, wr9, wr10, wr11, wr0, wrc, st_ne, st_eq, st_st, mul8, mul8', mul4, mul4', nI_add, inT, nclN, ltT, ltF, leT, leF, eqT, eqF, nzF, m1F, m1T, shr, shg, bI0, bI1, bo_bI, bo_1, bo_0, eq10, eq00, frT1, frT2, frT3, fit0, fit1, fit2, fit3, true_and, and_true, ↓reduceIte, Nat.reduceAdd, Nat.reduceMul, and_self, not_false_eq_true, not_true_eq_false, Nat.zero_add, Nat.add_zero, hn]
end E4
