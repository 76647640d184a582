/-! both risks are alike -/
section FB
variable {I : Mi} {r c k l N M o n m B i r0 : Nat} {x y z : Int32} {V V' W : Vw} {G G' : Gv}
theorem rst_pc (h : N = 0 ∨ N = 3 ∨ N = 5) (hi : i < 2 ^ N) (hp : pcn (nI i) = N / 2) : N = 0 ∨ mst N ≤ pcn (allR N &&& (nI i ^^^ -1)) := by
  rcases h with rfl | rfl | rfl
  · exact Or.inl rfl
  · right; revert i; decide +kernel
  · right; revert i; decide +kernel
theorem fd_rk (hV : okV B G V) (hT : okT (V 1)) (hN : gN G ≤ 5) (hc : c < 8) : fdn (gN G) (nI 31) (V 1) c = ff 8 (tb (rkd V c)) := by
  have hZ : okN (gN G) (V 1) := hV.2.1.2.2.2.1
  have e : ∀ r, tb (rkd V c) r = (decide (r < 5) && inr (V 1 (8 * r + c)) (nI 3) (nI 4)) := fun r => by unfold rkd rW; rw [tb_bm (by decide)]
  rw [ff_cut (n := gN G) (M := 8) (p := tb (rkd V c)) (by omega) (fun i h1 h2 => by
    rw [e]
    by_cases h5 : i < 5
    · rw [hZ i c h1 h5 hc]; simp [inr]; intro _; decide
    · simp [h5])]
  unfold fdn
  refine ff_cg fun r hr => ?_
  rw [e]
  obtain ⟨s, hs, he⟩ := hT (8 * r + c) (by omega)
  rw [he]
  have h31 : ∀ r, r < 5 → tb (nI 31) r = true := by decide
  rw [h31 r (by omega)]
  have hs' : s = 0 ∨ s = 1 ∨ s = 2 ∨ s = 3 ∨ s = 4 := by omega
  have hr5 : r < 5 := by omega
  rcases hs' with rfl | rfl | rfl | rfl | rfl <;> simp [hr5, inr] <;> decide
theorem rk_at (hT : okT (V 1)) (hc : c < 8) (hr : r < 5) : tb (rkd V c) r = !decide (V 1 (8 * r + c) < nI 3) := by
  unfold rkd rW
  rw [tb_bm (by decide)]
  obtain ⟨s, hs, he⟩ := hT (8 * r + c) (by omega)
  rw [he]
  have hs' : s = 0 ∨ s = 1 ∨ s = 2 ∨ s = 3 ∨ s = 4 := by omega
  rcases hs' with rfl | rfl | rfl | rfl | rfl <;> simp [hr, inr] <;> decide
theorem riM2_eq (hG : okG G) (hX : okX G) (hV : okV B G V) (hB : B < 2147483648) (h35 : gN G = 0 ∨ gN G = 3 ∨ gN G = 5) (hc : c < gM G) (hi : i < 2 ^ gN G) : riM2 G V c r0 i = ris1 G V c r0 i := by
  have h5 := hG.1.2
  have h8 := hG.2.1.2
  obtain ⟨hl, hl5⟩ := hG.2.2.1 c hc
  have hT : okT (V 1) := hV.2.1.2.2.1
  unfold riM2 ris1
  by_cases hp : pcn (nI i) = gN G / 2
  · have hpc := rst_pc h35 hi hp
    congr 1
    have em : mfd (gN G) (gM G) (G 5) (Vup V (rst G i)) (gL G c) c = fdV G V (rst G i) c := by
      have uj : ∀ j, j ≠ 0 → Vup V (rst G i) j = V j := fun j hj => by unfold Vup; rw [st_ne hj]
      have u0 : Vup V (rst G i) 0 0 = rst G i := by unfold Vup; rw [st_eq, upd_eq]
      have u1 : Vup V (rst G i) 0 1 = V 0 1 := by unfold Vup; rw [st_eq, upd_ne (by decide)]
      rw [mfd_eq (B := B) h5 h8 (by omega) (by omega) (by rw [uj 1 (by decide)]; exact hT) (by rw [uj 1 (by decide)]; exact hV.2.1.2.2.2.1) (by rw [uj 2 (by decide)]; exact hV.2.2.1.2) hB (hX.1 c hc), uj 1 (by decide), uj 2 (by decide), uj 3 (by decide), uj 4 (by decide), u0, u1]
      unfold fdV
      exact Eq.refl _
    unfold riM1
    rw [em]
    cases hff : ff (gN G) (fun r => canRec (gN G) (rst G i) (V 1) r c) with
    | none =>
      have h0 : rst G i &&& (rkd V c ^^^ -1) = nI 0 := by
        refine tb_ext fun k hk => ?_
        rw [tb_0, tb_and, tb_nx hk]
        cases hb : tb (rst G i) k with
        | false => exact Eq.refl _
        | true =>
          have hkN : k < gN G := allR_lt h5 k (by unfold rst at hb; rw [tb_and, Bool.and_eq_true] at hb; exact hb.1)
          have hcr := ff_none.mp hff k hkN
          unfold canRec at hcr
          have hm : mst (gN G) ≤ pcn (rst G i) := by
            rcases hpc with h | h
            · omega
            · exact h
          rw [rk_at hT (by omega) (by omega)]
          simp only [hb, hm, decide_true, Bool.true_and, Bool.and_true, decide_eq_false_iff_not] at hcr
          simp [hcr]
      rw [decide_eq_true h0]; exact Eq.refl _
    | some j =>
      obtain ⟨hj, hcr, _⟩ := ff_some.mp hff
      unfold canRec at hcr
      simp only [Bool.and_eq_true, decide_eq_true_eq] at hcr
      have h0 : ¬ rst G i &&& (rkd V c ^^^ -1) = nI 0 := fun z => by
        have := congrArg (fun x => tb x j) z
        rw [tb_0, tb_and, tb_nx (by omega), rk_at hT (by omega) (by omega)] at this
        simp [hcr.1, hcr.2.1] at this
      rw [decide_eq_false h0]; exact (Bool.true_and _).symm
  · simp [hp]
theorem oth_sm (hs : smV G V W) {q : Nat} {z : Nat × Int32 × Int32} : oth W q z = oth V q z := by
  unfold oth; rw [hs.1 3 (by decide) (by decide), hs.1 4 (by decide) (by decide)]
theorem fdV_sm (hs : smV G V W) : fdV G W x c = fdV G V x c := by
  unfold fdV; rw [hs.1 0 (by decide) (by decide), hs.1 1 (by decide) (by decide), hs.1 2 (by decide) (by decide), hs.1 3 (by decide) (by decide), hs.1 4 (by decide) (by decide)]
theorem rkd_sm (hs : smV G V W) : rkd W c = rkd V c := by
  unfold rkd; rw [hs.1 1 (by decide) (by decide)]
theorem ris1_sm (hs : smV G V W) : ris1 G W c r0 i = ris1 G V c r0 i := by
  unfold ris1; rw [oth_sm hs, fdV_sm hs, rkd_sm hs]
theorem ris1_ag (hag : agG G G') (hc : c < gM G) : ris1 G' V c r0 i = ris1 G V c r0 i := by
  unfold ris1 rst fdV gL
  rw [← ag_N hag, ← ag_M hag, hag.2 5 c (by decide) (by decide) hc, hag.2 4 c (by decide) (by decide) hc]
theorem vRis_eq (hag : agG G G') (hG : okG G) (hX : okX G) (hV : okV B G V) (hs : smV G V W) (hB : B < 2147483648) (h35 : gN G = 0 ∨ gN G = 3 ∨ gN G = 5) : vRiM G' W x = vRis G V x := by
  have hG' := ag_okG hag hG
  have hX' := ag_okX hag hX
  have hW := sm_ok hs hV
  have hW' := ag_okV hag hW
  have h5 := hG.1.2
  have h8 := hG.2.1.2
  have h35' : gN G' = 0 ∨ gN G' = 3 ∨ gN G' = 5 := by rw [← ag_N hag]; exact h35
  unfold vRiM vRis
  rw [← ag_M hag]
  by_cases hx : isR (gM G) x = true
  · rw [if_pos hx, if_pos hx]
    obtain ⟨c, hc, rfl⟩ := isR_t hx (by omega)
    rw [nI_clamp (by omega), fd_rk hW' hW'.2.1.2.2.1 hG'.1.2 (by omega), rkd_sm hs]
    cases ff 8 (tb (rkd V c)) with
    | none => exact Eq.refl _
    | some r0 =>
      dsimp only
      have e : riM G' W c r0 = ris G V c r0 := by
        unfold riM ris
        rw [← ag_N hag]
        refine lp_cg fun i hi a => ?_
        rw [riM2_eq hG' hX' hW' hB h35' (by rw [← ag_M hag]; exact hc) (by rw [← ag_N hag]; exact hi), ris1_ag hag hc, ris1_sm hs]
      rw [e]
  · rw [if_neg hx, if_neg hx]
end FB
