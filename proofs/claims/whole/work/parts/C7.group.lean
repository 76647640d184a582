/-! what a statement without a fault says; the class's readGroup -/
def gR (g : Nat → Nat) (n F : Nat) : Nat → Dg → Nat → Dg × Rs
  | 0, D, i => (D, (i, 0))
  | k + 1, D, i => if kd g n i = 0 then (D, (i, 0)) else if (stmS g n F D i).2 ≠ 0 then (D, stmS g n F D i) else gR g n F k (stmD g n D i) (stmS g n F D i).1
section G7
variable {L : Nat} {xs : Nat → Int32} {d : Nat} {P : Option Value → Hp → Prop} {I I' : Mi} {J J' : Mj} {R R' : Mr} {Z : Mz} {k n i p w b m x T lv dep F M N K le gg c lo hi : Nat} {g : Nat → Nat} {s : Rs} {φ : Nat → Int32} {l : Lw} {r : Er} {Q : Nat → Er} {y : Int64} {D : Dg} {f f' : Bool}
theorem wr_n0 (hk : k ≠ 0) : (wr g n k s).2 ≠ 0 := by
  unfold wr; split
  · show k + 16 * bg g n s.1 ≠ 0; omega
  · assumption
theorem ad_2 : (ad g n s).2 = s.2 := by
  unfold ad; split
  · rename_i h; exact h.1.symm
  · rfl
theorem rs_0 (h : s.2 = 0) : s = (s.1, 0) := by rw [← h]
theorem tkS_i (h : (tkS g n c s).2 = 0) : s.2 = 0 ∧ isSgn g n c s.1 = true ∧ tkS g n c s = (s.1 + 1, 0) := by
  unfold tkS at h ⊢
  rw [ad_2] at h
  by_cases q : isSgn g n c s.1 = true
  · rw [if_pos q] at h ⊢
    refine ⟨h, q, ?_⟩
    rw [rs_0 h, ad_0 (by rw [(isSgn_k q).1]; decide)]
  · rw [if_neg q] at h; exact absurd h (wr_n0 (by decide))
theorem tkW_i (hw : w ≠ 29) (h : (tkW g n w s).2 = 0) : s.2 = 0 ∧ wd g n s.1 = w ∧ tkW g n w s = (s.1 + 1, 0) := by
  unfold tkW at h ⊢
  rw [ad_2] at h
  by_cases q : wd g n s.1 = w
  · rw [if_pos q] at h ⊢
    refine ⟨h, q, ?_⟩
    rw [rs_0 h, ad_0 (by show kd g n s.1 ≠ 0; rw [wd_kd (q ▸ hw)]; decide)]
  · rw [if_neg q] at h; exact absurd h (wr_n0 (by decide))
theorem tkN_i (h : (tkN g n lo hi s).2 = 0) : s.2 = 0 ∧ (kd g n s.1 = 2 ∧ lo ≤ vl g n s.1 ∧ vl g n s.1 < hi) ∧ tkN g n lo hi s = (s.1 + 1, 0) := by
  unfold tkN at h ⊢
  rw [ad_2] at h
  by_cases q : kd g n s.1 = 2
  · rw [if_pos q] at h ⊢
    by_cases q2 : lo ≤ vl g n s.1 ∧ vl g n s.1 < hi
    · rw [if_pos q2] at h ⊢
      refine ⟨h, ⟨q, q2⟩, ?_⟩
      rw [rs_0 h, ad_0 (by show kd g n s.1 ≠ 0; rw [q]; decide)]
    · rw [if_neg q2] at h; exact absurd h (wr_n0 (by decide))
  · rw [if_neg q] at h; exact absurd h (wr_n0 (by decide))
theorem tkK_i (h : (tkK g n s).2 = 0) : s.2 = 0 ∧ wSo (wd g n s.1) = nI 2 ∧ tkK g n s = (s.1 + 1, 0) := by
  unfold tkK at h ⊢
  rw [ad_2] at h
  by_cases q : wSo (wd g n s.1) = nI 2
  · rw [if_pos q] at h ⊢
    refine ⟨h, q, ?_⟩
    have hn : wd g n s.1 ≠ 29 := fun z => by rw [z] at q; exact absurd q (by decide)
    rw [rs_0 h, ad_0 (by show kd g n s.1 ≠ 0; rw [wd_kd hn]; decide)]
  · rw [if_neg q] at h; exact absurd h (wr_n0 (by decide))
theorem tkNN_i (h : (tkNN g n f s).2 = 0) : s.2 = 0 ∧ (isNm g n s.1 = true ∧ f = false) ∧ tkNN g n f s = (s.1 + 1, 0) := by
  unfold tkNN at h ⊢
  rw [ad_2] at h
  by_cases q : isNm g n s.1 = true
  · rw [if_pos q] at h ⊢
    cases f
    · rw [if_neg (by decide)] at h ⊢
      refine ⟨h, ⟨q, rfl⟩, ?_⟩
      rw [rs_0 h, ad_0 (by show kd g n s.1 ≠ 0; rw [isNm_k q]; decide)]
    · rw [if_pos rfl] at h; exact absurd h (wr_n0 (by decide))
  · rw [if_neg q] at h; exact absurd h (wr_n0 (by decide))
theorem tkNa_i (h : (tkNa g n f s).2 = 0) : s.2 = 0 ∧ (isNm g n s.1 = true ∧ f = true) ∧ tkNa g n f s = (s.1 + 1, 0) := by
  unfold tkNa at h ⊢
  rw [ad_2] at h
  by_cases q : isNm g n s.1 = true
  · rw [if_pos q] at h ⊢
    cases f
    · rw [if_neg (by decide)] at h; exact absurd h (wr_n0 (by decide))
    · rw [if_pos rfl] at h ⊢
      refine ⟨h, ⟨q, rfl⟩, ?_⟩
      rw [rs_0 h, ad_0 (by show kd g n s.1 ≠ 0; rw [isNm_k q]; decide)]
  · rw [if_neg q] at h; exact absurd h (wr_n0 (by decide))
theorem sA3_i {q : Prop} [Decidable q] (hk : kd g n i ≠ 0) (h : (sA3 g n q i).2 = 0) : ¬ q ∧ sA3 g n q i = (i + 1, 0) := by
  unfold sA3 at h ⊢
  rw [ad_2] at h
  by_cases hq : q
  · rw [if_pos hq] at h; exact absurd h (wr_n0 (by decide))
  · rw [if_neg hq] at h ⊢
    exact ⟨hq, ad_0 hk⟩
theorem sA4_i (h : (sA4 g n s).2 = 0) : s.2 = 0 ∧ ¬ (kd g n s.1 = 2 ∧ vl g n s.1 = 4) ∧ sA4 g n s = s := by
  unfold sA4 at h ⊢
  by_cases q : kd g n s.1 = 2 ∧ vl g n s.1 = 4
  · rw [if_pos q] at h; exact absurd h (wr_n0 (by decide))
  · rw [if_neg q] at h ⊢; exact ⟨h, q, rfl⟩
theorem sRep_i (hk : kd g n i ≠ 0) (h : (sRep g n N i).2 = 0) : N = 0 ∧ (sA3 g n (N ≠ 0) i).1 = i + 1 ∧ kd g n (i + 1) = 2 ∧ (vl g n (i + 1) = 3 ∨ vl g n (i + 1) = 5) ∧ sRep g n N i = (i + 3, 0) := by
  unfold sRep at h ⊢
  obtain ⟨a1, a2, a3⟩ := tkS_i h
  obtain ⟨b1, b2, b3⟩ := tkN_i a1
  obtain ⟨c1, c2, c3⟩ := sA4_i b1
  obtain ⟨e1, e2⟩ := sA3_i hk c1
  rw [a3, b3]
  rw [c3, e2] at b2 ⊢
  rw [e2] at c2
  refine ⟨by simpa using e1, rfl, b2.1, ?_, rfl⟩
  have h4 : vl g n (i + 1) ≠ 4 := fun z => c2 ⟨b2.1, z⟩
  have h5 : 3 ≤ vl g n (i + 1) := b2.2.1
  have h6 : vl g n (i + 1) < 6 := b2.2.2
  omega
theorem sKey_i (hk : kd g n i ≠ 0) (h : (sKey g n K i).2 = 0) : K = 0 ∧ (sA3 g n (K ≠ 0) i).1 = i + 1 ∧ kd g n (i + 1) = 2 ∧ (1 ≤ vl g n (i + 1) ∧ vl g n (i + 1) < 5) ∧ sKey g n K i = (i + 3, 0) := by
  unfold sKey at h ⊢
  obtain ⟨a1, a2, a3⟩ := tkS_i h
  obtain ⟨b1, b2, b3⟩ := tkN_i a1
  obtain ⟨e1, e2⟩ := sA3_i hk b1
  rw [a3, b3]
  rw [e2] at b2 ⊢
  exact ⟨by simpa using e1, rfl, b2.1, b2.2, rfl⟩
/-- a command told at i -/
def okCm (g : Nat → Nat) (n N K i : Nat) : Prop := isNm g n (i + 1) = true ∧ wSo (wd g n (i + 2)) = nI 2 ∧ wd g n (i + 3) = 3 ∧ (kd g n (i + 4) = 2 ∧ vl g n (i + 4) < K) ∧ wd g n (i + 5) = 4 ∧ (kd g n (i + 6) = 2 ∧ vl g n (i + 6) < 100) ∧ wd g n (i + 7) = 5 ∧ (kd g n (i + 8) = 2 ∧ vl g n (i + 8) < N)
theorem sCmd_i (hk : kd g n i ≠ 0) (h : (sCmd g n N K M f i).2 = 0) : M < 8 ∧ f = false ∧ okCm g n N K i ∧ ((sC1 g n i).1 = i + 1 ∧ (sC2 g n f i).1 = i + 2 ∧ (sC4 g n f i).1 = i + 4 ∧ (sC6 g n K f i).1 = i + 6 ∧ (sC8 g n K f i).1 = i + 8) ∧ sCmd g n N K M f i = (i + 10, 0) := by
  unfold sCmd at h ⊢
  by_cases h8 : 8 ≤ M
  · rw [if_pos h8] at h; exact absurd h (wr_n0 (by decide))
  · rw [if_neg h8] at h ⊢
    obtain ⟨a1, a2, a3⟩ := tkS_i h
    obtain ⟨b1, b2, b3⟩ := tkN_i a1
    obtain ⟨c1, c2, c3⟩ := tkW_i (by decide) b1
    obtain ⟨d1, d2, d3⟩ := tkN_i c1
    obtain ⟨e1, e2, e3⟩ := tkW_i (by decide) d1
    obtain ⟨f1, f2, f3⟩ := tkN_i e1
    obtain ⟨g1, g2, g3⟩ := tkW_i (by decide) f1
    obtain ⟨h1, h2, h3⟩ := tkK_i g1
    obtain ⟨i1, i2, i3⟩ := tkNN_i h1
    have j0 : sC1 g n i = (i + 1, 0) := ad_0 hk
    change tkNN g n f (sC1 g n i) = _ at i3
    rw [j0] at i2 i3
    have k2 : sC2 g n f i = (i + 2, 0) := by unfold sC2; rw [j0]; exact i3
    rw [k2] at h2 h3 g2 g3
    rw [h3] at g2 g3
    have k4 : sC4 g n f i = (i + 4, 0) := by unfold sC4; rw [k2, h3]; exact g3
    rw [k4] at f2 f3 e2 e3
    rw [f3] at e2 e3
    have k6 : sC6 g n K f i = (i + 6, 0) := by unfold sC6; rw [k4, f3]; exact e3
    rw [k6] at d2 d3 c2 c3
    rw [d3] at c2 c3
    have k8 : sC8 g n K f i = (i + 8, 0) := by unfold sC8; rw [k6, d3]; exact c3
    rw [k8] at b2 b3 a3
    rw [b3] at a3
    refine ⟨by omega, i2.2, ⟨i2.1, h2, g2, ⟨f2.1, f2.2.2⟩, e2, ⟨d2.1, d2.2.2⟩, c2, b2.1, b2.2.2⟩, ⟨by rw [j0], by rw [k2], by rw [k4], by rw [k6], by rw [k8]⟩, ?_⟩
    rw [k8, b3]; exact a3
theorem sLaw_i (hk : kd g n i ≠ 0) (h : (sLaw g n F le i).2 = 0) : le = 0 ∧ (pE g n F 0 0 (i + 1)).2.1 = 0 ∧ isSgn g n 59 (pE g n F 0 0 (i + 1)).1 = true ∧ sLaw g n F le i = ((pE g n F 0 0 (i + 1)).1 + 1, 0) := by
  unfold sLaw at h ⊢
  obtain ⟨a1, a2, a3⟩ := tkS_i h
  have b0 : (sA3 g n (le ≠ 0) i).2 = 0 := by
    by_cases q : (sA3 g n (le ≠ 0) i).2 = 0
    · exact q
    · unfold sLv at a1; rw [if_neg q] at a1; exact absurd a1 q
  obtain ⟨b1, b2⟩ := sA3_i hk b0
  rw [a3]
  have e : sLv g n F (sA3 g n (le ≠ 0) i) = er (pE g n F 0 0 (i + 1)) := by unfold sLv; rw [if_pos b0, b2]
  rw [e] at a1 a2 ⊢
  exact ⟨by simpa using b1, a1, a2, rfl⟩
theorem sC2_f (h : isNm g n (sC1 g n i).1 = false) : sC2 g n f i = sC2 g n f' i := by
  unfold sC2 tkNN; rw [h, if_neg (by decide), if_neg (by decide)]
theorem sCmd_f (h : sC2 g n f i = sC2 g n f' i) : sCmd g n N K M f i = sCmd g n N K M f' i := by
  unfold sCmd sC8 sC6 sC4; rw [h]
theorem fnd_cg {A B : Nat → Int64} (h : ∀ c, c < M → A c = B c) : fndN A M y = fndN B M y := by
  unfold fndN; rw [ff_cg (fun c hc => by rw [h c hc])]
theorem lw_72 {ψ : Nat → Int32} (h : I = lw I l) : st I 72 ψ = lw (st I 72 ψ) l := by
  unfold lw
  rw [st_ne (by decide)]
  conv => lhs; rw [h]
  unfold lw
  rw [st_cm (a := 74) (b := 72) (by decide), st_cm (a := 73) (b := 72) (by decide)]
theorem lw_st {a : Nat} {ψ : Nat → Int32} (h73 : a ≠ 73) (h74 : a ≠ 74) (h : I = lw I l) : st I a ψ = lw (st I a ψ) l := by
  unfold lw
  rw [st_ne (fun z => h73 z.symm)]
  conv => lhs; rw [h]
  unfold lw
  rw [st_cm (a := 74) (b := a) (fun z => h74 z.symm), st_cm (a := 73) (b := a) (fun z => h73 z.symm)]
theorem lw_lw {l' : Lw} : lw (lw I l) l' = lw I l' := by
  unfold lw
  funext q
  by_cases h2 : q = 74
  · subst h2; rw [st_eq, st_eq]
  · rw [st_ne h2, st_ne h2]
    by_cases h1 : q = 73
    · subst h1; rw [st_eq, st_eq, st_ne (by decide), st_eq, upd_upd]
    · rw [st_ne h1, st_ne h1, st_ne h2, st_ne h1]
theorem k_readClashes (hT : cutT I J R g n T) (hn : n ≤ 1000) (hg : ∀ k, k < n → g k < 256) (hi : i ≤ T) (hk : kd g n i ≠ 0) (h2 : I 72 2 = bI (decide (le ≠ 0))) (hl : I = lw I l) (hl1 : l.1 ≤ 1000) (hF : 29 < F) : Wp L xs (d+2*F+5) 34 0 [some (.ref (72))] [] (mk (rd I (i, 0)) J (rr R g n i) Z) P = P none (mk (rd (lw (st I 72 (upd (I 72) 2 (nI 1))) (adds l (if le = 0 then (pE g n F 0 0 (i + 1)).2.2.1 else []))) (sLaw g n F le i)) J (rr R g n (sLaw g n F le i).1) Z) := by
  have ok0 : okRs T (i, 0) := ⟨hi, by show 0 < 100000; omega⟩
  have hT1 : cutT (st I 72 (upd (I 72) 2 (nI 1))) J R g n T := cutT_st (by decide) hT
  have hl' : st I 72 (upd (I 72) 2 (nI 1)) = lw (st I 72 (upd (I 72) 2 (nI 1))) l := lw_72 hl
  have r2 : ∀ s : Rs, rd I s 72 2 = bI (decide (le ≠ 0)) := fun s => by rw [rd72_2, h2]
  have rw2 : ∀ s : Rs, st (rd I s) 72 (upd (rd I s 72) 2 (nI 1)) = rd (st I 72 (upd (I 72) 2 (nI 1))) s := fun s => rd_w2
  generalize st I 72 (upd (I 72) 2 (nI 1)) = I1 at *
  by_cases hz : le = 0
  · have e3 : sA3 g n (le ≠ 0) i = (i + 1, 0) := by unfold sA3; rw [if_neg (by simp [hz]), ad_0 hk]
    have hlt : i < T := (cutT_lt hT hi).mp hk
    have av := fun P => k_advance (L := L) (xs := xs) (d := d + 2 * F + 4) (P := P) (Z := Z) (s := (i, 0)) hT1 hn ok0
    rw [ad_0 hk] at av
    have lv := fun P => ((k_levels (L := L) (xs := xs) (Z := Z) hT1 hn hg F).1 d 0 0 (i + 1) l P (by decide) (by decide) (by omega) hl1 (by omega))
    rw [← hl'] at lv
    have okE := pE_ok hT hn F 0 0 (i + 1) (by omega)
    have ts := fun P => k_takeSign (L := L) (xs := xs) (d := d + 2 * F + 3) (P := P) (Z := Z) (c := 59) (cutT_lw (l := adds l (pE g n F 0 0 (i + 1)).2.2.1) hT1) hn okE (by decide) hg
    have eL : sLaw g n F le i = tkS g n 59 (er (pE g n F 0 0 (i + 1))) := by unfold sLaw sLv; rw [e3, if_pos rfl]
    rw [eL, if_pos hz]
    have b0 : decide (le ≠ 0) = false := by simp [hz]
    rw [b0] at r2
    simp (discharger := omega) only [↓w34_0, ↓w34_1, ↓w34_4, ↓w34_7, ↓w34_8, ↓w34_9, ↓w34_12, ↓w34_13, ↓w34_14, ↓w34_17, ↓w34_18, ↓w34_21, ↓w34_22, ↓w34_23, ↓w34_24, ↓w34_27, ↓w34_28, ↓w34_30, ↓w34_33, rc72, g72_0, g72_1, g72_2, p72_2, g72_3, p72_3, g72_4, p72_4, g72_5, p72_5, r2, rw2, bI_f, ↓av, ↓kc_i, ↓kc_l, ↓kc_r, ↓kc_n, mul8, mul8', mul4, mul4', nI_add, inT, nclN, ltT, ltF, leT, leF, eqT, eqF, nzF, m1F, m1T, shr, shg, bI0, bI1, bo_bI, bo_1, bo_0, eq10, eq00, frT1, frT2, frT3, fit0, fit1, fit2, fit3, true_and, and_true, ↓reduceIte, Nat.reduceAdd, Nat.reduceMul, and_self, not_false_eq_true, not_true_eq_false, Nat.zero_add, Nat.add_zero]
    refine (lv _).trans ?_
    simp (discharger := omega) only [↓w34_0, ↓w34_1, ↓w34_4, ↓w34_7, ↓w34_8, ↓w34_9, ↓w34_12, ↓w34_13, ↓w34_14, ↓w34_17, ↓w34_18, ↓w34_21, ↓w34_22, ↓w34_23, ↓w34_24, ↓w34_27, ↓w34_28, ↓w34_30, ↓w34_33, rc72, g72_0, g72_1, g72_2, p72_2, g72_3, p72_3, g72_4, p72_4, g72_5, p72_5, ↓kc_i, ↓kc_l, ↓kc_r, ↓kc_n, mul8, mul8', mul4, mul4', nI_add, inT, nclN, ltT, ltF, leT, leF, eqT, eqF, nzF, m1F, m1T, shr, shg, bI0, bI1, bo_bI, bo_1, bo_0, eq10, eq00, frT1, frT2, frT3, fit0, fit1, fit2, fit3, true_and, and_true, ↓reduceIte, Nat.reduceAdd, Nat.reduceMul, and_self, not_false_eq_true, not_true_eq_false, Nat.zero_add, Nat.add_zero]
    refine (ts _).trans ?_
    simp (discharger := omega) only [↓w34_0, ↓w34_1, ↓w34_4, ↓w34_7, ↓w34_8, ↓w34_9, ↓w34_12, ↓w34_13, ↓w34_14, ↓w34_17, ↓w34_18, ↓w34_21, ↓w34_22, ↓w34_23, ↓w34_24, ↓w34_27, ↓w34_28, ↓w34_30, ↓w34_33, ↓kc_i, ↓kc_l, ↓kc_r, ↓kc_n]
  · have hw : (wr g n 3 (i, 0)).2 ≠ 0 := wr_n0 (by decide)
    have okw : okRs T (wr g n 3 (i, 0)) := wr_ok hn (by decide) ok0
    have e3 : sA3 g n (le ≠ 0) i = wr g n 3 (i, 0) := by unfold sA3; rw [if_pos (by simp [hz]), ad_f hw]
    have w3 := fun P => k_wrong (L := L) (xs := xs) (d := d + 2 * F + 4) (P := P) (Z := Z) (k := 3) (s := (i, 0)) hT hn ok0 (by decide)
    have av := fun P => k_advance (L := L) (xs := xs) (d := d + 2 * F + 4) (P := P) (Z := Z) (s := wr g n 3 (i, 0)) hT1 hn okw
    rw [ad_f hw] at av
    have lv := fun P => k_levelF (L := L) (xs := xs) (Z := Z) hT1 hn hg okw hw 4 0 (d + 2 * F - 2) P rfl
    rw [show d + 2 * F - 2 + 4 + 2 = d + 2 * F + 4 by omega] at lv
    have ts := fun P => k_takeSign (L := L) (xs := xs) (d := d + 2 * F + 3) (P := P) (Z := Z) (c := 59) hT1 hn okw (by decide) hg
    have eL : sLaw g n F le i = tkS g n 59 (wr g n 3 (i, 0)) := by unfold sLaw sLv; rw [e3, if_neg hw]
    rw [eL, if_neg hz]
    have b0 : decide (le ≠ 0) = true := by simp [hz]
    rw [b0] at r2
    have ea : adds l [] = l := rfl
    rw [ea, ← hl']
    generalize wr g n 3 (i, 0) = s' at *
    simp (discharger := omega) only [↓w34_0, ↓w34_1, ↓w34_4, ↓w34_7, ↓w34_8, ↓w34_9, ↓w34_12, ↓w34_13, ↓w34_14, ↓w34_17, ↓w34_18, ↓w34_21, ↓w34_22, ↓w34_23, ↓w34_24, ↓w34_27, ↓w34_28, ↓w34_30, ↓w34_33, rc72, g72_0, g72_1, g72_2, p72_2, g72_3, p72_3, g72_4, p72_4, g72_5, p72_5, r2, rw2, bI_t, ↓w3, ↓av, ↓ts, ↓kc_i, ↓kc_l, ↓kc_r, ↓kc_n, mul8, mul8', mul4, mul4', nI_add, inT, nclN, ltT, ltF, leT, leF, eqT, eqF, nzF, m1F, m1T, shr, shg, bI0, bI1, bo_bI, bo_1, bo_0, eq10, eq00, frT1, frT2, frT3, fit0, fit1, fit2, fit3, true_and, and_true, ↓reduceIte, Nat.reduceAdd, Nat.reduceMul, and_self, not_false_eq_true, not_true_eq_false, Nat.zero_add, Nat.add_zero]
    refine (lv _).trans ?_
    simp (discharger := omega) only [↓w34_0, ↓w34_1, ↓w34_4, ↓w34_7, ↓w34_8, ↓w34_9, ↓w34_12, ↓w34_13, ↓w34_14, ↓w34_17, ↓w34_18, ↓w34_21, ↓w34_22, ↓w34_23, ↓w34_24, ↓w34_27, ↓w34_28, ↓w34_30, ↓w34_33, rc72, g72_0, g72_1, g72_2, p72_2, g72_3, p72_3, g72_4, p72_4, g72_5, p72_5, ↓ts, ↓kc_i, ↓kc_l, ↓kc_r, ↓kc_n, mul8, mul8', mul4, mul4', nI_add, inT, nclN, ltT, ltF, leT, leF, eqT, eqF, nzF, m1F, m1T, shr, shg, bI0, bI1, bo_bI, bo_1, bo_0, eq10, eq00, frT1, frT2, frT3, fit0, fit1, fit2, fit3, true_and, and_true, ↓reduceIte, Nat.reduceAdd, Nat.reduceMul, and_self, not_false_eq_true, not_true_eq_false, Nat.zero_add, Nat.add_zero]
end G7
