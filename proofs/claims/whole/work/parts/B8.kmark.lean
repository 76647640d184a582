/-! the class's marks -/
section F8
variable {L : Nat} {xs : Nat → Int32} {d : Nat} {P : Option Value → Hp → Prop} {I I' I0 : Mi} {J : Mj} {R : Mr} {Z : Mz} {r c r' c' k l N M o n m B a b t w nx mn s sd A j mw ms u : Nat} {x y z : Int32} {V V' V0 W0 W : Vw} {f f1 f4 g p q : Nat → Int32} {G G' : Gv} {U : Uq} {Q : Wq} {S : Sq} {h : Hp}
theorem gK0 {K : Value → Prop} (h : j < 4) : gf (ip_obj (mk I J R Z) (336 + 21 * j)) 3 0 K = K (.int (I (336 + 21 * j) 0)) := gf_mk (f := 0) (by omega) (mark_sh j h) rfl
theorem gK1 {K : Value → Prop} (h : j < 4) : gf (ip_obj (mk I J R Z) (336 + 21 * j)) 3 1 K = K (.ref (337 + 21 * j)) := (gf_mk (f := 337 + 21 * j) (by omega) (mark_sh j h) rfl).trans (by rw [show 337 + 21 * j = (334 + 21 * j) + 3 by omega]; rfl)
theorem gK2 {K : Value → Prop} (h : j < 4) : gf (ip_obj (mk I J R Z) (336 + 21 * j)) 3 2 K = K (.ref (349 + 21 * j)) := (gf_mk (f := 349 + 21 * j) (by omega) (mark_sh j h) rfl).trans (by rw [show 349 + 21 * j = (346 + 21 * j) + 3 by omega]; rfl)
theorem gK3 {K : Value → Prop} (h : j < 4) : gf (ip_obj (mk I J R Z) (336 + 21 * j)) 3 3 K = K (.ref (353 + 21 * j)) := (gf_mk (f := 353 + 21 * j) (by omega) (mark_sh j h) rfl).trans (by rw [show 353 + 21 * j = (350 + 21 * j) + 3 by omega]; rfl)
theorem pK0 {k : Nat} {x : Int32} {K : Hp → Prop} (h : j < 4) : sf (mk I J R Z) (336 + 21 * j) 3 0 k (.int x) K = (ip_fit k (.int x) = true ∧ K (mk (st I (336 + 21 * j) (upd (I (336 + 21 * j)) 0 x)) J R Z)) := sfI (by omega) (mark_sh j h) rfl
theorem rcK {l : List Value} (h : j < 4) : ip_rc (mk I J R Z) 3 (.ref (336 + 21 * j) :: l) = true := rcM (by omega) (mark_sh j h)
theorem tn (h : a < t ∨ t + 4 ≤ a) : trp I t m f g p a = I a := by
  unfold trp; rw [st_ne (by omega), st_ne (by omega), st_ne (by omega), st_ne (by omega)]
theorem t_0 : trp I t m f g p t 0 = nI m := by unfold trp; rw [st_eq, upd_eq]
theorem t_1 : trp I t m f g p (t + 1) = f := by unfold trp; rw [st_ne (by omega), st_ne (by omega), st_ne (by omega), st_eq]
theorem t_2 : trp I t m f g p (t + 2) = g := by unfold trp; rw [st_ne (by omega), st_ne (by omega), st_eq]
theorem t_3 : trp I t m f g p (t + 3) = p := by unfold trp; rw [st_ne (by omega), st_eq]
theorem mix_l (h : k < m) : mix f g m k = f k := by unfold mix; rw [if_pos h]
theorem WoC_cg (h : ∀ a, a < 4 → I' (t + a) = I (t + a)) (hW : WoC I t m Q) : WoC I' t m Q := by
  have h0 : I' t = I t := h 0 (by omega)
  unfold WoC at hW ⊢
  rw [h0, h 1 (by omega), h 2 (by omega), h 3 (by omega)]; exact hW
theorem SeC_cg (h : ∀ a, a < 4 → I' (t + a) = I (t + a)) (hS : SeC I t m S) : SeC I' t m S := by
  have h0 : I' t = I t := h 0 (by omega)
  unfold SeC at hS ⊢
  rw [h0, h 1 (by omega), h 2 (by omega), h 3 (by omega)]; exact hS
theorem WoC_t (hW : WoC I o m Q) : WoC (trp I t m (mix (I (o + 1)) f m) (mix (I (o + 2)) g m) (mix (I (o + 3)) p m)) t m Q := by
  refine ⟨t_0, fun k hk => ?_⟩
  obtain ⟨e1, e2, e3⟩ := hW.2 k hk
  rw [t_1, t_2, t_3, mix_l hk, mix_l hk, mix_l hk]
  exact ⟨e1, e2, e3⟩
theorem SeC_t (hS : SeC I o m S) : SeC (trp I t m (mix (I (o + 1)) f m) (mix (I (o + 2)) g m) (mix (I (o + 3)) p m)) t m S := by
  refine ⟨t_0, fun k hk => ?_⟩
  obtain ⟨e1, e2, e3⟩ := hS.2 k hk
  rw [t_1, t_2, t_3, mix_l hk, mix_l hk, mix_l hk]
  exact ⟨e1, e2, e3⟩
theorem k_hold (hj : j < 4) (h1 : cS (vw I 102)) (h2 : cS (vw I (337 + 21 * j))) (hW : WoC I 90 mw Q) (hw : mw ≤ 40) (hS : SeC I 98 ms S) (hs : ms ≤ 8) : ∃ I', ((∀ a, (a < 336 + 21 * j ∨ 357 + 21 * j ≤ a) → I' a = I a) ∧ I' (336 + 21 * j) 0 = nI 1 ∧ (∀ i, i < 12 → I' (337 + 21 * j + i) = I (102 + i)) ∧ WoC I' (349 + 21 * j) mw Q ∧ SeC I' (353 + 21 * j) ms S) ∧ ∀ P, Wp L xs (d+3) 158 0 [some (.ref (64)), some (.int (nI j)), some (.int (nI 0)), none] [] (mk I J R Z) P = P (some (.int (nI 1))) (mk I' J R Z) := by
  generalize hI1 : st I (336 + 21 * j) (upd (I (336 + 21 * j)) 0 (nI 1)) = I1
  have e1 : ∀ a, a ≠ 336 + 21 * j → I1 a = I a := fun a ha => by rw [← hI1, st_ne ha]
  have hcp := fun P => k_copyFrom (L := L) (xs := xs) (d := d) (I := I1) (J := J) (R := R) (Z := Z) (P := P) (s := 102) (t := 337 + 21 * j) isS_102 (isS_mk j hj) (by omega) (cS_cg (V := vw I 102) (fun i hi => (e1 (102 + i) (by omega)).symm) h1) (cS_cg (V := vw I (337 + 21 * j)) (fun i hi => (e1 (337 + 21 * j + i) (by omega)).symm) h2)
  generalize hI2 : putS I1 (337 + 21 * j) (vw I1 102) = I2 at *
  have e2 : ∀ a, (a < 336 + 21 * j ∨ 349 + 21 * j ≤ a) → I2 a = I a := fun a ha => by rw [← hI2, ps_ne (by omega), e1 a (by omega)]
  have w2 : WoC I2 90 mw Q := WoC_cg (fun a ha => e2 _ (by omega)) hW
  have s2 : SeC I2 98 ms S := SeC_cg (fun a ha => e2 _ (by omega)) hS
  have ht1 := fun P => k_tcopy (L := L) (xs := xs) (d := d) (I := I2) (J := J) (R := R) (Z := Z) (P := P) (t := 349 + 21 * j) (o := 90) (n := 40) (m := mw) (isT_mw j hj) isT_90 (by omega) w2.1 hw
  have w3 := WoC_t (I := I2) (t := 349 + 21 * j) (f := I2 (349 + 21 * j + 1)) (g := I2 (349 + 21 * j + 2)) (p := I2 (349 + 21 * j + 3)) w2
  generalize hI3 : trp I2 (349 + 21 * j) mw (mix (I2 (90 + 1)) (I2 (349 + 21 * j + 1)) mw) (mix (I2 (90 + 2)) (I2 (349 + 21 * j + 2)) mw) (mix (I2 (90 + 3)) (I2 (349 + 21 * j + 3)) mw) = I3 at *
  have e3 : ∀ a, (a < 349 + 21 * j ∨ 353 + 21 * j ≤ a) → I3 a = I2 a := fun a ha => by rw [← hI3, tn (by omega)]
  have s3 : SeC I3 98 ms S := SeC_cg (fun a ha => e3 _ (by omega)) s2
  have ht2 := fun P => k_tcopy (L := L) (xs := xs) (d := d) (I := I3) (J := J) (R := R) (Z := Z) (P := P) (t := 353 + 21 * j) (o := 98) (n := 8) (m := ms) (isT_ms j hj) isT_98 (by omega) s3.1 hs
  have s4 := SeC_t (I := I3) (t := 353 + 21 * j) (f := I3 (353 + 21 * j + 1)) (g := I3 (353 + 21 * j + 2)) (p := I3 (353 + 21 * j + 3)) s3
  generalize hI4 : trp I3 (353 + 21 * j) ms (mix (I3 (98 + 1)) (I3 (353 + 21 * j + 1)) ms) (mix (I3 (98 + 2)) (I3 (353 + 21 * j + 2)) ms) (mix (I3 (98 + 3)) (I3 (353 + 21 * j + 3)) ms) = I4 at *
  have e4 : ∀ a, (a < 353 + 21 * j ∨ 357 + 21 * j ≤ a) → I4 a = I3 a := fun a ha => by rw [← hI4, tn (by omega)]
  refine ⟨I4, ⟨fun a ha => by rw [e4 a (by omega), e3 a (by omega), e2 a (by omega)], ?_, fun i hi => ?_, WoC_cg (fun a ha => e4 _ (by omega)) w3, s4⟩, fun P => ?_⟩
  · rw [e4 _ (by omega), e3 _ (by omega), ← hI2, ps_ne (by omega), ← hI1, st_eq, upd_eq]
  · rw [e4 _ (by omega), e3 _ (by omega), ← hI2, ps_j hi]
    exact e1 _ (by omega)
  · simp (discharger := omega) only [↓w158_0, ↓w158_1, ↓w158_4, ↓w158_5, ↓w158_6, ↓w158_9, ↓w158_10, ↓w158_11, ↓w158_12, ↓w158_15, ↓w158_16, ↓w158_17, ↓w158_18, ↓w158_19, ↓w158_22, ↓w158_23, ↓w158_24, ↓w158_27, ↓w158_28, ↓w158_31, ↓w158_32, ↓w158_35, ↓w158_38, ↓w158_39, ↓w158_40, ↓w158_41, ↓w158_44, ↓w158_47, ↓w158_48, ↓w158_49, ↓w158_50, ↓w158_51, ↓w158_54, ↓w158_55, ↓w158_58, ↓w158_59, ↓w158_62, ↓w158_65, ↓w158_66, ↓w158_69, ↓w158_72, ↓w158_73, ↓w23_0, ↓w23_1, ↓w23_2, ↓w23_5, ↓w23_6, ↓w23_9, ↓w23_10, ↓w23_13, ↓w23_14, ↓w23_17, ↓w23_18, ↓w23_21, ↓w23_22, ↓w23_25, ↓w23_26, ↓w23_29, gr335 hj, gK1 hj, gK2 hj, gK3 hj, pK0 hj, rcK hj, rcS (isS_mk j hj), rcT (isT_mw j hj), rcT (isT_ms j hj), hI1, ↓hcp, ↓ht1, ↓ht2, ↓kc_i, ↓kc_l, ↓kc_r, ↓kc_n, rc64, g64_0, g64_1, g64_2, g64_3, g64_4, g64_5, g64_6, g64_7, g64_8, g64_9, g64_10, g64_11, g64_12, rc102, g102_0, p102_0, g102_1, p102_1, g102_2, g102_3, g102_4, g102_5, g102_6, g102_7, g102_8, g102_9, g102_10, g102_11, g102_12, rc90, g90_0, p90_0, g90_1, g90_2, g90_3, rc98, g98_0, p98_0, g98_1, g98_2, g98_3, mul8, mul8', mul4, mul4', nI_add, inT, nclN, ltT, ltF, leT, leF, eqT, eqF, nzF, m1F, m1T, shr, shg, bI0, bI1, bo_bI, bo_1, bo_0, eq10, eq00, frT1, frT2, frT3, fit0, fit1, fit2, fit3, true_and, and_true, ↓reduceIte, Nat.reduceAdd, Nat.reduceMul, and_self, not_false_eq_true, not_true_eq_false, Nat.zero_add, Nat.add_zero]
theorem k_giveBack (hj : j < 4) (hb : I (336 + 21 * j) 0 = nI 1) (h1 : cS (vw I 102)) (h2 : cS (vw I (337 + 21 * j))) (hW : WoC I (349 + 21 * j) mw Q) (hw : mw ≤ 40) (hS : SeC I (353 + 21 * j) ms S) (hs : ms ≤ 8) : ∃ I', ((∀ a, (a < 90 ∨ 114 ≤ a ∨ (94 ≤ a ∧ a < 98)) → a ≠ 129 → I' a = I a) ∧ I' 129 = upd (I 129) 2 (nI 0) ∧ (∀ i, i < 12 → I' (102 + i) = I (337 + 21 * j + i)) ∧ WoC I' 90 mw Q ∧ SeC I' 98 ms S) ∧ ∀ P, Wp L xs (d+3) 158 0 [some (.ref (64)), some (.int (nI j)), some (.int (nI 1)), none] [] (mk I J R Z) P = P (some (.int (nI 1))) (mk I' J R Z) := by
  have hcp := fun P => k_copyFrom (L := L) (xs := xs) (d := d) (I := I) (J := J) (R := R) (Z := Z) (P := P) (s := 337 + 21 * j) (t := 102) (isS_mk j hj) isS_102 (by omega) h2 h1
  generalize hI2 : putS I 102 (vw I (337 + 21 * j)) = I2 at *
  have e2 : ∀ a, (a < 102 ∨ 114 ≤ a) → I2 a = I a := fun a ha => by rw [← hI2, ps_ne (by omega)]
  have w2 : WoC I2 (349 + 21 * j) mw Q := WoC_cg (fun a ha => e2 _ (by omega)) hW
  have s2 : SeC I2 (353 + 21 * j) ms S := SeC_cg (fun a ha => e2 _ (by omega)) hS
  have ht1 := fun P => k_tcopy (L := L) (xs := xs) (d := d) (I := I2) (J := J) (R := R) (Z := Z) (P := P) (t := 90) (o := 349 + 21 * j) (n := 40) (m := mw) isT_90 (isT_mw j hj) (by omega) w2.1 hw
  have w3 := WoC_t (I := I2) (t := 90) (f := I2 (90 + 1)) (g := I2 (90 + 2)) (p := I2 (90 + 3)) w2
  generalize hI3 : trp I2 90 mw (mix (I2 (349 + 21 * j + 1)) (I2 (90 + 1)) mw) (mix (I2 (349 + 21 * j + 2)) (I2 (90 + 2)) mw) (mix (I2 (349 + 21 * j + 3)) (I2 (90 + 3)) mw) = I3 at *
  have e3 : ∀ a, (a < 90 ∨ 94 ≤ a) → I3 a = I2 a := fun a ha => by rw [← hI3, tn (by omega)]
  have s3 : SeC I3 (353 + 21 * j) ms S := SeC_cg (fun a ha => e3 _ (by omega)) s2
  have ht2 := fun P => k_tcopy (L := L) (xs := xs) (d := d) (I := I3) (J := J) (R := R) (Z := Z) (P := P) (t := 98) (o := 353 + 21 * j) (n := 8) (m := ms) isT_98 (isT_ms j hj) (by omega) s3.1 hs
  have s4 := SeC_t (I := I3) (t := 98) (f := I3 (98 + 1)) (g := I3 (98 + 2)) (p := I3 (98 + 3)) s3
  generalize hI4 : trp I3 98 ms (mix (I3 (353 + 21 * j + 1)) (I3 (98 + 1)) ms) (mix (I3 (353 + 21 * j + 2)) (I3 (98 + 2)) ms) (mix (I3 (353 + 21 * j + 3)) (I3 (98 + 3)) ms) = I4 at *
  have e4 : ∀ a, (a < 98 ∨ 102 ≤ a) → I4 a = I3 a := fun a ha => by rw [← hI4, tn (by omega)]
  have h129 : I4 129 = I 129 := by rw [e4 _ (by omega), e3 _ (by omega), e2 _ (by omega)]
  refine ⟨st I4 129 (upd (I 129) 2 (nI 0)), ⟨fun a ha hne => by rw [st_ne hne, e4 a (by omega), e3 a (by omega), e2 a (by omega)], st_eq, fun i hi => ?_, WoC_cg (fun a ha => by rw [st_ne (by omega)]; exact e4 _ (by omega)) w3, SeC_cg (fun a ha => st_ne (by omega)) s4⟩, fun P => ?_⟩
  · rw [st_ne (by omega), e4 _ (by omega), e3 _ (by omega), ← hI2, ps_j hi]
    exact Eq.refl _
  · simp (discharger := omega) only [↓w158_0, ↓w158_1, ↓w158_4, ↓w158_5, ↓w158_6, ↓w158_9, ↓w158_10, ↓w158_11, ↓w158_12, ↓w158_15, ↓w158_16, ↓w158_17, ↓w158_18, ↓w158_19, ↓w158_22, ↓w158_23, ↓w158_24, ↓w158_27, ↓w158_28, ↓w158_31, ↓w158_32, ↓w158_35, ↓w158_38, ↓w158_39, ↓w158_40, ↓w158_41, ↓w158_44, ↓w158_47, ↓w158_48, ↓w158_49, ↓w158_50, ↓w158_51, ↓w158_54, ↓w158_55, ↓w158_58, ↓w158_59, ↓w158_62, ↓w158_65, ↓w158_66, ↓w158_69, ↓w158_72, ↓w158_73, ↓w24_0, ↓w24_1, ↓w24_2, ↓w24_5, ↓w24_8, ↓w24_9, ↓w24_10, ↓w24_13, ↓w24_16, ↓w24_17, ↓w24_18, ↓w24_21, ↓w24_24, ↓w14_0, ↓w14_1, ↓w14_2, ↓w14_5, gr335 hj, gK0 hj, gK1 hj, gK2 hj, gK3 hj, hb, rcK hj, rcS (isS_mk j hj), ↓hcp, ↓ht1, ↓ht2, h129, ↓kc_i, ↓kc_l, ↓kc_r, ↓kc_n, rc64, g64_0, g64_1, g64_2, g64_3, g64_4, g64_5, g64_6, g64_7, g64_8, g64_9, g64_10, g64_11, g64_12, rc102, g102_0, p102_0, g102_1, p102_1, g102_2, g102_3, g102_4, g102_5, g102_6, g102_7, g102_8, g102_9, g102_10, g102_11, g102_12, rc90, g90_0, p90_0, g90_1, g90_2, g90_3, rc98, g98_0, p98_0, g98_1, g98_2, g98_3, rc129, g129_0, g129_1, p129_1, g129_2, p129_2, mul8, mul8', mul4, mul4', nI_add, inT, nclN, ltT, ltF, leT, leF, eqT, eqF, nzF, m1F, m1T, shr, shg, bI0, bI1, bo_bI, bo_1, bo_0, eq10, eq00, frT1, frT2, frT3, fit0, fit1, fit2, fit3, true_and, and_true, ↓reduceIte, Nat.reduceAdd, Nat.reduceMul, and_self, not_false_eq_true, not_true_eq_false, Nat.zero_add, Nat.add_zero]
theorem k_mark0 {bv : Bool} (hx : isR 4 x = false ∨ ∃ j, j < 4 ∧ x = nI j ∧ bv = true ∧ I (336 + 21 * j) 0 = nI 0) : Wp L xs (d+3) 158 0 [some (.ref (64)), some (.int (x)), some (.int (bI bv)), none] [] (mk I J R Z) P = P (some (.int (nI 0))) (mk I J R Z) := by
  rcases hx with h | ⟨j, hj, rfl, rfl, hb⟩
  · simp (discharger := omega) only [↓w158_0, ↓w158_1, ↓w158_4, ↓w158_5, ↓w158_6, ↓w158_9, ↓w158_10, ↓w158_11, ↓w158_12, ↓w158_15, ↓w158_16, ↓w158_17, ↓w158_18, ↓w158_19, ↓w158_22, ↓w158_23, ↓w158_24, ↓w158_27, ↓w158_28, ↓w158_31, ↓w158_32, ↓w158_35, ↓w158_38, ↓w158_39, ↓w158_40, ↓w158_41, ↓w158_44, ↓w158_47, ↓w158_48, ↓w158_49, ↓w158_50, ↓w158_51, ↓w158_54, ↓w158_55, ↓w158_58, ↓w158_59, ↓w158_62, ↓w158_65, ↓w158_66, ↓w158_69, ↓w158_72, ↓w158_73, mul8, mul8', mul4, mul4', nI_add, inT, nclN, ltT, ltF, leT, leF, eqT, eqF, nzF, m1F, m1T, shr, shg, bI0, bI1, bo_bI, bo_1, bo_0, eq10, eq00, frT1, frT2, frT3, fit0, fit1, fit2, fit3, true_and, and_true, ↓reduceIte, Nat.reduceAdd, Nat.reduceMul, and_self, not_false_eq_true, not_true_eq_false, Nat.zero_add, Nat.add_zero]
    by_cases h1 : x < nI 0
    · simp [h1]
    · by_cases h2 : x < nI 4
      · exfalso
        unfold isR at h
        simp [h1, h2] at h
      · simp [h1, h2]
  · rw [bI_t]
    simp (discharger := omega) only [↓w158_0, ↓w158_1, ↓w158_4, ↓w158_5, ↓w158_6, ↓w158_9, ↓w158_10, ↓w158_11, ↓w158_12, ↓w158_15, ↓w158_16, ↓w158_17, ↓w158_18, ↓w158_19, ↓w158_22, ↓w158_23, ↓w158_24, ↓w158_27, ↓w158_28, ↓w158_31, ↓w158_32, ↓w158_35, ↓w158_38, ↓w158_39, ↓w158_40, ↓w158_41, ↓w158_44, ↓w158_47, ↓w158_48, ↓w158_49, ↓w158_50, ↓w158_51, ↓w158_54, ↓w158_55, ↓w158_58, ↓w158_59, ↓w158_62, ↓w158_65, ↓w158_66, ↓w158_69, ↓w158_72, ↓w158_73, gr335 hj, gK0 hj, hb, ↓kc_i, ↓kc_l, ↓kc_r, ↓kc_n, rc64, g64_0, g64_1, g64_2, g64_3, g64_4, g64_5, g64_6, g64_7, g64_8, g64_9, g64_10, g64_11, g64_12, mul8, mul8', mul4, mul4', nI_add, inT, nclN, ltT, ltF, leT, leF, eqT, eqF, nzF, m1F, m1T, shr, shg, bI0, bI1, bo_bI, bo_1, bo_0, eq10, eq00, frT1, frT2, frT3, fit0, fit1, fit2, fit3, true_and, and_true, ↓reduceIte, Nat.reduceAdd, Nat.reduceMul, and_self, not_false_eq_true, not_true_eq_false, Nat.zero_add, Nat.add_zero]
end F8
