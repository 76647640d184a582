/-! THE CLASS'S work() -/
def lnW (g : Nat → Nat) (n i : Nat) : Nat := wd g n i - 10
def wthR (w : Nat) : Bool := !(decide (w = 0) || (decide (w = 2) || (decide (w = 4) || decide (w = 10))))
def lnF (g : Nat → Nat) (n : Nat) (A : Nat → Int64) (M i : Nat) : Option Nat := ff M (fun c => decide (A c = lN (w32 g n (i + 1))))
def lne1 (g : Nat → Nat) (n i : Nat) : Rs := ad g n (i, 0)
def ln2 (g : Nat → Nat) (n : Nat) (b : Bool) (i : Nat) : Rs := if lnW g n i < 7 then tkNa g n b (lne1 g n i) else lne1 g n i
def ln3 (g : Nat → Nat) (n N : Nat) (b : Bool) (i : Nat) : Rs := if wthR (lnW g n i) = true then tkN g n 0 N (ln2 g n b i) else ln2 g n b i
def lnS (g : Nat → Nat) (n N : Nat) (b : Bool) (m i : Nat) : Rs := if wSo (wd g n i) = nI 1 then (if 40 ≤ m then wr g n 5 (i, 0) else tkS g n 59 (ln3 g n N b i)) else wr g n 1 (i, 0)
def lnR (g : Nat → Nat) (n i : Nat) : Nat := vl g n (if lnW g n i < 7 then i + 2 else i + 1)
def lnQ (g : Nat → Nat) (n : Nat) (A : Nat → Int64) (M : Nat) (Q : Wq) (m i : Nat) : Wq := fun k => if k = m then (lnW g n i, (lnF g n A M i).getD 0, lnR g n i) else Q k
def wkR (g : Nat → Nat) (n N : Nat) (A : Nat → Int64) (M : Nat) : Nat → Nat → Wq → Nat → (Nat × Wq) × Rs
  | 0, m, Q, i => ((m, Q), (i, 0))
  | k + 1, m, Q, i => if kd g n i = 0 then ((m, Q), (i, 0)) else if (lnS g n N (lnF g n A M i).isSome m i).2 ≠ 0 then ((m, Q), lnS g n N (lnF g n A M i).isSome m i) else wkR g n N A M k (m + 1) (lnQ g n A M Q m i) (lnS g n N (lnF g n A M i).isSome m i).1
section H4
variable {L : Nat} {xs : Nat → Int32} {d : Nat} {P : Option Value → Hp → Prop} {I I' I2 : Mi} {J J' J2 : Mj} {R R' : Mr} {Z : Mz} {k n i p w b m x T F M N K c o lo hi K1 : Nat} {g : Nat → Nat} {s : Rs} {φ : Nat → Int32} {A : Nat → Int64} {bb bb' : Bool} {Q : Wq} {y : Int64}
theorem st_wd (h : wSo (wd g n i) = nI 1) : 10 ≤ wd g n i ∧ wd g n i ≤ 20 ∧ wNu (wd g n i) = nI (lnW g n i) ∧ kd g n i = 1 := by
  have h2 := wd_lt (g := g) (n := n) (i := i)
  have key : ∀ w, w < 30 → wSo w = nI 1 → 10 ≤ w ∧ w ≤ 20 ∧ wNu w = nI (w - 10) ∧ w ≠ 29 := by decide +kernel
  obtain ⟨a, b, c, e⟩ := key _ h2 h
  exact ⟨a, b, c, wd_kd e⟩
theorem k_takeName (hT : cutT I J R g n T) (hn : n ≤ 1000) (hs : okRs T s) (hM : I 76 2 = nI M) (hM8 : M ≤ 8) : Wp L xs (d+1) 40 0 [some (.ref (72)), some (.ref (76)), none] [] (mk (rd I s) J (rr R g n s.1) Z) P = P (some (.int (if isNm g n s.1 = true then oN (ff M (fun c => decide (J 82 c = J 70 s.1))) else -1))) (mk (rd I (tkNa g n (ff M (fun c => decide (J 82 c = J 70 s.1))).isSome s)) J (rr R g n (tkNa g n (ff M (fun c => decide (J 82 c = J 70 s.1))).isSome s).1) Z) := by
  have hTn := cutT_T hT
  have h1 := hs.1
  have nm := fun P => k_isName (L := L) (xs := xs) (d := d) (P := P) (Z := Z) hT hn hs
  have cn := fun P => k_commandNamed (L := L) (xs := xs) (d := d) (P := P) (I := rd I s) (J := J) (R := rr R g n s.1) (Z := Z) (y := J 70 s.1) isG_76 (show rd I s 76 2 = nI M by rw [rdo (by decide), hM]) hM8
  have w1 := fun P => k_wrong (L := L) (xs := xs) (d := d) (P := P) (Z := Z) (k := 1) hT hn hs (by decide)
  have w2 := fun P => k_wrong (L := L) (xs := xs) (d := d) (P := P) (Z := Z) (k := 2) hT hn hs (by decide)
  have a1 := fun P => k_advance (L := L) (xs := xs) (d := d) (P := P) (Z := Z) hT hn (wr_ok (g := g) (k := 1) hn (by decide) hs)
  have a2 := fun P => k_advance (L := L) (xs := xs) (d := d) (P := P) (Z := Z) hT hn (wr_ok (g := g) (k := 2) hn (by decide) hs)
  have a0 := fun P => k_advance (L := L) (xs := xs) (d := d) (P := P) (Z := Z) hT hn hs
  have hff : ∀ j, ff M (fun c => decide (J 82 c = J 70 s.1)) = some j → j < 8 := fun j h => by have := (ff_some.mp h).1; omega
  have om := oN_mi hff
  change ∀ P : Option Value → Hp → Prop, _ = P (some (.int (oN (ff M (fun c => decide (J 82 c = J 70 s.1)))))) _ at cn
  generalize ff M (fun c => decide (J 82 c = J 70 s.1)) = ff1 at *
  unfold tkNa
  cases hq : isNm g n s.1
  · rw [if_neg (by decide), if_neg (by decide)]
    simp (discharger := omega) only [↓w40_0, ↓w40_1, ↓w40_4, ↓w40_7, ↓w40_8, ↓w40_9, ↓w40_12, ↓w40_15, ↓w40_16, ↓w40_19, ↓w40_20, ↓w40_23, ↓w40_26, ↓w40_27, ↓w40_28, ↓w40_29, ↓w40_30, ↓w40_33, ↓w40_34, ↓w40_35, ↓w40_38, ↓w40_41, ↓w40_42, ↓w40_45, ↓w40_46, ↓w40_49, ↓w40_50, ↓w40_53, ↓w40_54, rc72, g72_0, g72_1, g72_2, p72_2, g72_3, p72_3, g72_4, p72_4, g72_5, p72_5, rc65, g65_0, g65_1, p65_1, g65_2, g65_3, g65_4, g65_5, g65_6, g65_7, p65_7, gl70, sl70, rc76, g76_0, p76_0, g76_1, p76_1, g76_2, p76_2, g76_3, g76_4, g76_5, g76_6, g76_7, g76_8, rd72_3, ↓nm, hq, bI_f, ↓w1, ↓a1, ↓kc_i, ↓kc_l, ↓kc_r, ↓kc_n, mul8, mul8', mul4, mul4', nI_add, inT, nclN, ltT, ltF, leT, leF, eqT, eqF, nzF, m1F, m1T, shr, shg, bI0, bI1, bo_bI, bo_1, bo_0, eq10, eq00, frT1, frT2, frT3, fit0, fit1, fit2, fit3, true_and, and_true, ↓reduceIte, Nat.reduceAdd, Nat.reduceMul, and_self, not_false_eq_true, not_true_eq_false, Nat.zero_add, Nat.add_zero]
  · rw [if_pos rfl, if_pos rfl]
    cases hf : ff1.isSome
    · rw [hf] at om
      rw [if_neg (by decide)]
      simp (discharger := omega) only [↓w40_0, ↓w40_1, ↓w40_4, ↓w40_7, ↓w40_8, ↓w40_9, ↓w40_12, ↓w40_15, ↓w40_16, ↓w40_19, ↓w40_20, ↓w40_23, ↓w40_26, ↓w40_27, ↓w40_28, ↓w40_29, ↓w40_30, ↓w40_33, ↓w40_34, ↓w40_35, ↓w40_38, ↓w40_41, ↓w40_42, ↓w40_45, ↓w40_46, ↓w40_49, ↓w40_50, ↓w40_53, ↓w40_54, rc72, g72_0, g72_1, g72_2, p72_2, g72_3, p72_3, g72_4, p72_4, g72_5, p72_5, rc65, g65_0, g65_1, p65_1, g65_2, g65_3, g65_4, g65_5, g65_6, g65_7, p65_7, gl70, sl70, rc76, g76_0, p76_0, g76_1, p76_1, g76_2, p76_2, g76_3, g76_4, g76_5, g76_6, g76_7, g76_8, rd72_3, ↓nm, hq, bI_t, ↓cn, om, ↓w2, ↓a2, ↓kc_i, ↓kc_l, ↓kc_r, ↓kc_n, mul8, mul8', mul4, mul4', nI_add, inT, nclN, ltT, ltF, leT, leF, eqT, eqF, nzF, m1F, m1T, shr, shg, bI0, bI1, bo_bI, bo_1, bo_0, eq10, eq00, frT1, frT2, frT3, fit0, fit1, fit2, fit3, true_and, and_true, ↓reduceIte, Nat.reduceAdd, Nat.reduceMul, and_self, not_false_eq_true, not_true_eq_false, Nat.zero_add, Nat.add_zero]
    · rw [hf] at om
      rw [if_pos rfl]
      simp (discharger := omega) only [↓w40_0, ↓w40_1, ↓w40_4, ↓w40_7, ↓w40_8, ↓w40_9, ↓w40_12, ↓w40_15, ↓w40_16, ↓w40_19, ↓w40_20, ↓w40_23, ↓w40_26, ↓w40_27, ↓w40_28, ↓w40_29, ↓w40_30, ↓w40_33, ↓w40_34, ↓w40_35, ↓w40_38, ↓w40_41, ↓w40_42, ↓w40_45, ↓w40_46, ↓w40_49, ↓w40_50, ↓w40_53, ↓w40_54, rc72, g72_0, g72_1, g72_2, p72_2, g72_3, p72_3, g72_4, p72_4, g72_5, p72_5, rc65, g65_0, g65_1, p65_1, g65_2, g65_3, g65_4, g65_5, g65_6, g65_7, p65_7, gl70, sl70, rc76, g76_0, p76_0, g76_1, p76_1, g76_2, p76_2, g76_3, g76_4, g76_5, g76_6, g76_7, g76_8, rd72_3, ↓nm, hq, bI_t, ↓cn, om, ↓a0, reduceCtorEq, ↓kc_i, ↓kc_l, ↓kc_r, ↓kc_n, mul8, mul8', mul4, mul4', nI_add, inT, nclN, ltT, ltF, leT, leF, eqT, eqF, nzF, m1F, m1T, shr, shg, bI0, bI1, bo_bI, bo_1, bo_0, eq10, eq00, frT1, frT2, frT3, fit0, fit1, fit2, fit3, true_and, and_true, ↓reduceIte, Nat.reduceAdd, Nat.reduceMul, and_self, not_false_eq_true, not_true_eq_false, Nat.zero_add, Nat.add_zero]
theorem trp_rd {t : Nat} {f1 f2 f3 : Nat → Int32} (h : t + 3 < 72 ∨ 72 < t) : trp (rd I s) t m f1 f2 f3 = rd (trp I t m f1 f2 f3) s := by
  unfold trp
  rw [rdo (by omega), rd_st (by omega), rd_st (by omega), rd_st (by omega), rd_st (by omega)]
theorem lne1_ok (hT : cutT I J R g n T) (hi : i ≤ T) : okRs T (lne1 g n i) := ad_ok hT ⟨hi, by show 0 < 100000; omega⟩
theorem ln2_ok (hT : cutT I J R g n T) (hn : n ≤ 1000) (hi : i ≤ T) : okRs T (ln2 g n bb i) := ite_ok (tkNa_ok hT hn (lne1_ok hT hi)) (lne1_ok hT hi)
theorem ln3_ok (hT : cutT I J R g n T) (hn : n ≤ 1000) (hi : i ≤ T) : okRs T (ln3 g n N bb i) := ite_ok (tkN_ok hT hn (ln2_ok hT hn hi)) (ln2_ok hT hn hi)
theorem lnS_ok (hT : cutT I J R g n T) (hn : n ≤ 1000) (hi : i ≤ T) : okRs T (lnS g n N bb m i) := ite_ok (ite_ok (wr_ok hn (by decide) ⟨hi, by show 0 < 100000; omega⟩) (tkS_ok hT hn (ln3_ok hT hn hi))) (wr_ok hn (by decide) ⟨hi, by show 0 < 100000; omega⟩)
theorem lnS_i (h : (lnS g n N bb m i).2 = 0) : wSo (wd g n i) = nI 1 ∧ m < 40 ∧ (lnW g n i < 7 → isNm g n (i + 1) = true ∧ bb = true) ∧ (wthR (lnW g n i) = true → kd g n (if lnW g n i < 7 then i + 2 else i + 1) = 2 ∧ lnR g n i < N) ∧ (ln2 g n bb i).1 = (if lnW g n i < 7 then i + 2 else i + 1) ∧ (lne1 g n i).1 = i + 1 ∧ i < (lnS g n N bb m i).1 := by
  unfold lnS at h ⊢
  by_cases q1 : wSo (wd g n i) = nI 1
  · rw [if_pos q1] at h ⊢
    by_cases q2 : 40 ≤ m
    · rw [if_pos q2] at h; exact absurd h (wr_n0 (by decide))
    · rw [if_neg q2] at h ⊢
      obtain ⟨a1, a2, a3⟩ := tkS_i h
      have hk : kd g n i ≠ 0 := by rw [(st_wd q1).2.2.2]; decide
      have e1 : lne1 g n i = (i + 1, 0) := ad_0 hk
      have b0 : (ln2 g n bb i).2 = 0 ∧ (wthR (lnW g n i) = true → (kd g n (ln2 g n bb i).1 = 2 ∧ 0 ≤ vl g n (ln2 g n bb i).1 ∧ vl g n (ln2 g n bb i).1 < N)) ∧ (ln2 g n bb i).1 ≤ (ln3 g n N bb i).1 := by
        unfold ln3 at a1 ⊢
        by_cases qw : wthR (lnW g n i) = true
        · rw [if_pos qw] at a1 ⊢
          obtain ⟨b1, b2, b3⟩ := tkN_i a1
          exact ⟨b1, fun _ => b2, by rw [b3]; show _ ≤ _ + 1; omega⟩
        · rw [if_neg qw] at a1 ⊢
          exact ⟨a1, fun z => absurd z qw, Nat.le_refl _⟩
      obtain ⟨b1, b2, b3⟩ := b0
      have c0 : (lnW g n i < 7 → isNm g n (i + 1) = true ∧ bb = true) ∧ (ln2 g n bb i).1 = (if lnW g n i < 7 then i + 2 else i + 1) := by
        unfold ln2 at b1 ⊢
        by_cases q7 : lnW g n i < 7
        · rw [if_pos q7] at b1 ⊢
          obtain ⟨c1, c2, c3⟩ := tkNa_i b1
          rw [e1] at c2 c3
          exact ⟨fun _ => c2, by rw [e1, c3, if_pos q7]⟩
        · rw [if_neg q7, if_neg q7, e1]
          exact ⟨fun z => absurd z q7, rfl⟩
      refine ⟨q1, by omega, c0.1, fun z => ?_, c0.2, by rw [e1], ?_⟩
      · have := b2 z
        rw [c0.2] at this
        exact ⟨this.1, this.2.2⟩
      · rw [a3]
        have : i + 1 ≤ (ln2 g n bb i).1 := by rw [c0.2]; split <;> omega
        show i < (ln3 g n N bb i).1 + 1
        omega
  · rw [if_neg q1] at h; exact absurd h (wr_n0 (by decide))
theorem lnS_b (h : isNm g n (lne1 g n i).1 = false ∨ bb = bb' ∨ 7 ≤ lnW g n i) : ln2 g n bb i = ln2 g n bb' i := by
  unfold ln2
  rcases h with h | h | h
  · by_cases q : lnW g n i < 7
    · rw [if_pos q, if_pos q]; unfold tkNa; rw [h, if_neg (by decide), if_neg (by decide)]
    · rw [if_neg q, if_neg q]
  · rw [h]
  · rw [if_neg (by omega), if_neg (by omega)]
theorem k_readLine (hT : cutT I J R g n T) (hn : n ≤ 1000) (hg : ∀ k, k < n → g k < 256) (hi : i ≤ T) (hk : kd g n i ≠ 0) (hN : I 76 0 = nI N) (hN9 : N < 10) (hM : I 76 2 = nI M) (hM8 : M ≤ 8) (hm : I 94 0 = nI m) (hm40 : m ≤ 40) : ∃ c r : Int32, (wthR (lnW g n i) = true → r = I 69 (ln2 g n (ff M (fun c => decide (J 82 c = J 70 (lne1 g n i).1))).isSome i).1) ∧ (lnW g n i < 7 → c = if isNm g n (lne1 g n i).1 = true then oN (ff M (fun c => decide (J 82 c = J 70 (lne1 g n i).1))) else -1) ∧ ∀ P, Wp L xs (d+2) 38 0 [some (.ref (72)), some (.ref (94)), some (.ref (76)), none, none, none, none] [] (mk (rd I (i, 0)) J (rr R g n i) Z) P = P none (mk (rd (if wSo (wd g n i) = nI 1 ∧ m < 40 then trp I 94 (m + 1) (upd (I 95) m (nI (lnW g n i))) (upd (I 96) m c) (upd (I 97) m r) else I) (lnS g n N (ff M (fun c => decide (J 82 c = J 70 (lne1 g n i).1))).isSome m i)) J (rr R g n (lnS g n N (ff M (fun c => decide (J 82 c = J 70 (lne1 g n i).1))).isSome m i).1) Z) := by
  have hTn := cutT_T hT
  have ok0 : okRs T (i, 0) := ⟨hi, by show 0 < 100000; omega⟩
  have hw := wd_lt (g := g) (n := n) (i := i)
  have gd : (rr R g n i 72 4).getD 29 = wd g n i := by rw [rr72]; rfl
  have r4 := fun l0 l1 l2 l3 l4 l5 l6 P => w38_4 (L := L) (xs := xs) (d := d + 2) (h := mk (rd I (i, 0)) J (rr R g n i) Z) (P := P) (l0 := l0) (l1 := l1) (l2 := l2) (l3 := l3) (l4 := l4) (l5 := l5) (l6 := l6) (wdA hw) hw
  have r36 := fun l0 l1 l2 l3 l4 l5 l6 P => w38_36 (L := L) (xs := xs) (d := d + 2) (h := mk (rd I (i, 0)) J (rr R g n i) Z) (P := P) (l0 := l0) (l1 := l1) (l2 := l2) (l3 := l3) (l4 := l4) (l5 := l5) (l6 := l6) (wdA hw) hw
  have ew1 : (wdv (wd g n i)).2.1 = wSo (wd g n i) := rfl
  have ew2 : (wdv (wd g n i)).2.2 = wNu (wd g n i) := rfl
  have hm' : ∀ s : Rs, rd I s 94 0 = nI m := fun s => by rw [rdo (by decide), hm]
  generalize hbb : (ff M (fun c => decide (J 82 c = J 70 (lne1 g n i).1))).isSome = bb
  by_cases q1 : wSo (wd g n i) = nI 1
  · obtain ⟨q10, q20, qn, qk⟩ := st_wd q1
    have hW11 : lnW g n i ≤ 10 := by unfold lnW; omega
    by_cases q2 : m < 40
    · have eS : lnS g n N bb m i = tkS g n 59 (ln3 g n N bb i) := by unfold lnS; rw [if_pos q1, if_neg (by omega)]
      rw [eS]
      have av := fun P => k_advance (L := L) (xs := xs) (d := d + 1) (P := P) (Z := Z) (s := (i, 0)) hT hn ok0
      change ∀ P : Option Value → Hp → Prop, _ = P none (mk (rd I (lne1 g n i)) J (rr R g n (lne1 g n i).1) Z) at av
      have ok1 : okRs T (lne1 g n i) := lne1_ok hT hi
      have ok2 : okRs T (ln2 g n bb i) := ln2_ok hT hn hi
      have ok3 : okRs T (ln3 g n N bb i) := ln3_ok hT hn hi
      have tn := fun P => k_takeName (L := L) (xs := xs) (d := d) (P := P) (Z := Z) hT hn ok1 hM hM8
      rw [hbb] at tn
      generalize hcv : (if isNm g n (lne1 g n i).1 = true then oN (ff M (fun c => decide (J 82 c = J 70 (lne1 g n i).1))) else -1) = cv at *
      have nu := fun P => k_takeNumber (L := L) (xs := xs) (d := d) (P := P) (Z := Z) (lo := 0) (hi := N) (v := nI N - nI 1) hT hn ok2 (by decide) (by omega) rfl
      have ts := fun P => k_takeSign (L := L) (xs := xs) (d := d) (P := P) (Z := Z) (c := 59) hT hn ok3 (by decide) hg
      have ta := fun (s : Rs) x y z P => k_tadd (L := L) (xs := xs) (d := d + 1) (I := rd I s) (J := J) (R := rr R g n s.1) (Z := Z) (P := P) (x := x) (y := y) (z := z) isT_94 (hm' s) (show m ≤ 40 by omega)
      -- the command
      have h1 : ∃ c : Int32, (lnW g n i < 7 → c = cv) ∧ ∀ P, Wp L xs (d+2) 38 0 [some (.ref (72)), some (.ref (94)), some (.ref (76)), none, none, none, none] [] (mk (rd I (i, 0)) J (rr R g n i) Z) P = Wp L xs (d+2) 38 61 [some (.ref (72)), some (.ref (94)), some (.ref (76)), some (.int (nI (lnW g n i))), some (.int (c)), none, none] [] (mk (rd I (ln2 g n bb i)) J (rr R g n (ln2 g n bb i).1) Z) P := by
        by_cases q7 : lnW g n i < 7
        · have e2 : ln2 g n bb i = tkNa g n bb (lne1 g n i) := if_pos q7
          refine ⟨cv, fun _ => rfl, fun P => ?_⟩
          rw [e2]
          simp (discharger := omega) only [↓w38_0, ↓w38_1, ↓w38_7, ↓w38_8, ↓w38_11, ↓w38_12, ↓w38_13, ↓w38_16, ↓w38_17, ↓w38_18, ↓w38_21, ↓w38_23, ↓w38_26, ↓w38_27, ↓w38_28, ↓w38_31, ↓w38_32, ↓w38_33, ↓w38_39, ↓w38_40, ↓w38_41, ↓w38_44, ↓w38_45, ↓w38_47, ↓w38_50, ↓w38_51, ↓w38_52, ↓w38_55, ↓w38_58, ↓w38_59, ↓w38_62, ↓w38_65, ↓w38_66, ↓w38_67, ↓w38_70, ↓w38_71, ↓w38_72, ↓w38_75, ↓w38_76, ↓w38_78, ↓w38_81, ↓w38_82, ↓w38_85, ↓w38_86, ↓w38_88, ↓w38_90, ↓w38_93, ↓w38_94, ↓w38_95, ↓w38_96, ↓w38_99, ↓w38_100, ↓w38_101, ↓w38_104, ↓w38_107, ↓w38_108, ↓w38_110, ↓w38_111, ↓w38_113, ↓w38_116, ↓w38_117, ↓w38_118, ↓w38_120, ↓w38_122, ↓w38_125, ↓w38_126, rc72, g72_0, g72_1, g72_2, p72_2, g72_3, p72_3, g72_4, p72_4, g72_5, p72_5, rc94, g94_0, p94_0, g94_1, g94_2, g94_3, gd, ↓r4, ↓r36, wv1, wv2, ew1, ew2, q1, qn, gT0 isT_94, hm', ↓av, rcG isG_76, ↓tn, ↓kc_i, ↓kc_l, ↓kc_r, ↓kc_n, mul8, mul8', mul4, mul4', nI_add, inT, nclN, ltT, ltF, leT, leF, eqT, eqF, nzF, m1F, m1T, shr, shg, bI0, bI1, bo_bI, bo_1, bo_0, eq10, eq00, frT1, frT2, frT3, fit0, fit1, fit2, fit3, true_and, and_true, ↓reduceIte, Nat.reduceAdd, Nat.reduceMul, and_self, not_false_eq_true, not_true_eq_false, Nat.zero_add, Nat.add_zero]
        · have e2 : ln2 g n bb i = lne1 g n i := if_neg q7
          refine ⟨nI 0, fun z => absurd z q7, fun P => ?_⟩
          rw [e2]
          simp (discharger := omega) only [↓w38_0, ↓w38_1, ↓w38_7, ↓w38_8, ↓w38_11, ↓w38_12, ↓w38_13, ↓w38_16, ↓w38_17, ↓w38_18, ↓w38_21, ↓w38_23, ↓w38_26, ↓w38_27, ↓w38_28, ↓w38_31, ↓w38_32, ↓w38_33, ↓w38_39, ↓w38_40, ↓w38_41, ↓w38_44, ↓w38_45, ↓w38_47, ↓w38_50, ↓w38_51, ↓w38_52, ↓w38_55, ↓w38_58, ↓w38_59, ↓w38_62, ↓w38_65, ↓w38_66, ↓w38_67, ↓w38_70, ↓w38_71, ↓w38_72, ↓w38_75, ↓w38_76, ↓w38_78, ↓w38_81, ↓w38_82, ↓w38_85, ↓w38_86, ↓w38_88, ↓w38_90, ↓w38_93, ↓w38_94, ↓w38_95, ↓w38_96, ↓w38_99, ↓w38_100, ↓w38_101, ↓w38_104, ↓w38_107, ↓w38_108, ↓w38_110, ↓w38_111, ↓w38_113, ↓w38_116, ↓w38_117, ↓w38_118, ↓w38_120, ↓w38_122, ↓w38_125, ↓w38_126, rc72, g72_0, g72_1, g72_2, p72_2, g72_3, p72_3, g72_4, p72_4, g72_5, p72_5, rc94, g94_0, p94_0, g94_1, g94_2, g94_3, gd, ↓r4, ↓r36, wv1, wv2, ew1, ew2, q1, qn, gT0 isT_94, hm', ↓av, ↓kc_i, ↓kc_l, ↓kc_r, ↓kc_n, mul8, mul8', mul4, mul4', nI_add, inT, nclN, ltT, ltF, leT, leF, eqT, eqF, nzF, m1F, m1T, shr, shg, bI0, bI1, bo_bI, bo_1, bo_0, eq10, eq00, frT1, frT2, frT3, fit0, fit1, fit2, fit3, true_and, and_true, ↓reduceIte, Nat.reduceAdd, Nat.reduceMul, and_self, not_false_eq_true, not_true_eq_false, Nat.zero_add, Nat.add_zero]
      obtain ⟨c, hc, e61⟩ := h1
      have h2 : ∃ r : Int32, (wthR (lnW g n i) = true → r = I 69 (ln2 g n bb i).1) ∧ ∃ t5, ∀ P, Wp L xs (d+2) 38 61 [some (.ref (72)), some (.ref (94)), some (.ref (76)), some (.int (nI (lnW g n i))), some (.int (c)), none, none] [] (mk (rd I (ln2 g n bb i)) J (rr R g n (ln2 g n bb i).1) Z) P = Wp L xs (d+2) 38 110 [some (.ref (72)), some (.ref (94)), some (.ref (76)), some (.int (nI (lnW g n i))), some (.int (c)), some (.int (t5)), some (.int (r))] [] (mk (rd I (ln3 g n N bb i)) J (rr R g n (ln3 g n N bb i).1) Z) P := by
        cases qw : wthR (lnW g n i)
        · have e3 : ln3 g n N bb i = ln2 g n bb i := by unfold ln3; rw [qw, if_neg (by decide)]
          refine ⟨nI 0, fun z => absurd z (by decide), nI 0, fun P => ?_⟩
          rw [e3]
          have hor : lnW g n i = 0 ∨ lnW g n i = 2 ∨ lnW g n i = 4 ∨ lnW g n i = 10 := by unfold wthR at qw; simp at qw; omega
          rcases hor with h | h | h | h <;> rw [h] <;> simp (discharger := omega) only [↓w38_1, ↓w38_7, ↓w38_8, ↓w38_11, ↓w38_12, ↓w38_13, ↓w38_16, ↓w38_17, ↓w38_18, ↓w38_21, ↓w38_23, ↓w38_26, ↓w38_27, ↓w38_28, ↓w38_31, ↓w38_32, ↓w38_33, ↓w38_39, ↓w38_40, ↓w38_41, ↓w38_44, ↓w38_45, ↓w38_47, ↓w38_50, ↓w38_51, ↓w38_52, ↓w38_55, ↓w38_58, ↓w38_59, ↓w38_61, ↓w38_62, ↓w38_65, ↓w38_66, ↓w38_67, ↓w38_70, ↓w38_71, ↓w38_72, ↓w38_75, ↓w38_76, ↓w38_78, ↓w38_81, ↓w38_82, ↓w38_85, ↓w38_86, ↓w38_88, ↓w38_90, ↓w38_93, ↓w38_94, ↓w38_95, ↓w38_96, ↓w38_99, ↓w38_100, ↓w38_101, ↓w38_104, ↓w38_107, ↓w38_108, ↓w38_111, ↓w38_113, ↓w38_116, ↓w38_117, ↓w38_118, ↓w38_120, ↓w38_122, ↓w38_125, ↓w38_126, ↓kc_i, ↓kc_l, ↓kc_r, ↓kc_n, mul8, mul8', mul4, mul4', nI_add, inT, nclN, ltT, ltF, leT, leF, eqT, eqF, nzF, m1F, m1T, shr, shg, bI0, bI1, bo_bI, bo_1, bo_0, eq10, eq00, frT1, frT2, frT3, fit0, fit1, fit2, fit3, true_and, and_true, ↓reduceIte, Nat.reduceAdd, Nat.reduceMul, and_self, not_false_eq_true, not_true_eq_false, Nat.zero_add, Nat.add_zero]
        · have e3 : ln3 g n N bb i = tkN g n 0 N (ln2 g n bb i) := by unfold ln3; rw [if_pos qw]
          refine ⟨I 69 (ln2 g n bb i).1, fun _ => rfl, nI 1, fun P => ?_⟩
          rw [e3]
          have hno : lnW g n i ≠ 0 ∧ lnW g n i ≠ 2 ∧ lnW g n i ≠ 4 ∧ lnW g n i ≠ 10 := by unfold wthR at qw; simp at qw; omega
          simp (discharger := omega) only [↓w38_1, ↓w38_7, ↓w38_8, ↓w38_11, ↓w38_12, ↓w38_13, ↓w38_16, ↓w38_17, ↓w38_18, ↓w38_21, ↓w38_23, ↓w38_26, ↓w38_27, ↓w38_28, ↓w38_31, ↓w38_32, ↓w38_33, ↓w38_39, ↓w38_40, ↓w38_41, ↓w38_44, ↓w38_45, ↓w38_47, ↓w38_50, ↓w38_51, ↓w38_52, ↓w38_55, ↓w38_58, ↓w38_59, ↓w38_61, ↓w38_62, ↓w38_65, ↓w38_66, ↓w38_67, ↓w38_70, ↓w38_71, ↓w38_72, ↓w38_75, ↓w38_76, ↓w38_78, ↓w38_81, ↓w38_82, ↓w38_85, ↓w38_86, ↓w38_88, ↓w38_90, ↓w38_93, ↓w38_94, ↓w38_95, ↓w38_96, ↓w38_99, ↓w38_100, ↓w38_101, ↓w38_104, ↓w38_107, ↓w38_108, ↓w38_111, ↓w38_113, ↓w38_116, ↓w38_117, ↓w38_118, ↓w38_120, ↓w38_122, ↓w38_125, ↓w38_126, rc72, g72_0, g72_1, g72_2, p72_2, g72_3, p72_3, g72_4, p72_4, g72_5, p72_5, rc76, g76_0, p76_0, g76_1, p76_1, g76_2, p76_2, g76_3, g76_4, g76_5, g76_6, g76_7, g76_8, rdo, hN, ↓nu, ↓kc_i, ↓kc_l, ↓kc_r, ↓kc_n, mul8, mul8', mul4, mul4', nI_add, inT, nclN, ltT, ltF, leT, leF, eqT, eqF, nzF, m1F, m1T, shr, shg, bI0, bI1, bo_bI, bo_1, bo_0, eq10, eq00, frT1, frT2, frT3, fit0, fit1, fit2, fit3, true_and, and_true, ↓reduceIte, Nat.reduceAdd, Nat.reduceMul, and_self, not_false_eq_true, not_true_eq_false, Nat.zero_add, Nat.add_zero]
      obtain ⟨r, hr, t5, e110⟩ := h2
      refine ⟨c, r, hr, hc, fun P => ?_⟩
      rw [e61, e110, if_pos ⟨q1, q2⟩]
      simp (discharger := omega) only [↓w38_1, ↓w38_7, ↓w38_8, ↓w38_11, ↓w38_12, ↓w38_13, ↓w38_16, ↓w38_17, ↓w38_18, ↓w38_21, ↓w38_23, ↓w38_26, ↓w38_27, ↓w38_28, ↓w38_31, ↓w38_32, ↓w38_33, ↓w38_39, ↓w38_40, ↓w38_41, ↓w38_44, ↓w38_45, ↓w38_47, ↓w38_50, ↓w38_51, ↓w38_52, ↓w38_55, ↓w38_58, ↓w38_59, ↓w38_61, ↓w38_62, ↓w38_65, ↓w38_66, ↓w38_67, ↓w38_70, ↓w38_71, ↓w38_72, ↓w38_75, ↓w38_76, ↓w38_78, ↓w38_81, ↓w38_82, ↓w38_85, ↓w38_86, ↓w38_88, ↓w38_90, ↓w38_93, ↓w38_94, ↓w38_95, ↓w38_96, ↓w38_99, ↓w38_100, ↓w38_101, ↓w38_104, ↓w38_107, ↓w38_108, ↓w38_110, ↓w38_111, ↓w38_113, ↓w38_116, ↓w38_117, ↓w38_118, ↓w38_120, ↓w38_122, ↓w38_125, ↓w38_126, rc72, g72_0, g72_1, g72_2, p72_2, g72_3, p72_3, g72_4, p72_4, g72_5, p72_5, ↓ts, rcT isT_94, ↓ta, q2, trp_rd, rdo, ↓kc_i, ↓kc_l, ↓kc_r, ↓kc_n, mul8, mul8', mul4, mul4', nI_add, inT, nclN, ltT, ltF, leT, leF, eqT, eqF, nzF, m1F, m1T, shr, shg, bI0, bI1, bo_bI, bo_1, bo_0, eq10, eq00, frT1, frT2, frT3, fit0, fit1, fit2, fit3, true_and, and_true, ↓reduceIte, Nat.reduceAdd, Nat.reduceMul, and_self, not_false_eq_true, not_true_eq_false, Nat.zero_add, Nat.add_zero]
    · have q2' : m = 40 := by omega
      have eS : lnS g n N bb m i = wr g n 5 (i, 0) := by unfold lnS; rw [if_pos q1, if_pos (by omega)]
      have w5 := fun P => k_wrong (L := L) (xs := xs) (d := d + 1) (P := P) (Z := Z) (k := 5) (s := (i, 0)) hT hn ok0 (by decide)
      refine ⟨_, _, fun _ => rfl, fun _ => rfl, fun P => ?_⟩
      rw [eS, if_neg (fun z => q2 z.2)]
      simp (discharger := omega) only [↓w38_0, ↓w38_1, ↓w38_7, ↓w38_8, ↓w38_11, ↓w38_12, ↓w38_13, ↓w38_16, ↓w38_17, ↓w38_18, ↓w38_21, ↓w38_23, ↓w38_26, ↓w38_27, ↓w38_28, ↓w38_31, ↓w38_32, ↓w38_33, ↓w38_39, ↓w38_40, ↓w38_41, ↓w38_44, ↓w38_45, ↓w38_47, ↓w38_50, ↓w38_51, ↓w38_52, ↓w38_55, ↓w38_58, ↓w38_59, ↓w38_61, ↓w38_62, ↓w38_65, ↓w38_66, ↓w38_67, ↓w38_70, ↓w38_71, ↓w38_72, ↓w38_75, ↓w38_76, ↓w38_78, ↓w38_81, ↓w38_82, ↓w38_85, ↓w38_86, ↓w38_88, ↓w38_90, ↓w38_93, ↓w38_94, ↓w38_95, ↓w38_96, ↓w38_99, ↓w38_100, ↓w38_101, ↓w38_104, ↓w38_107, ↓w38_108, ↓w38_110, ↓w38_111, ↓w38_113, ↓w38_116, ↓w38_117, ↓w38_118, ↓w38_120, ↓w38_122, ↓w38_125, ↓w38_126, rc72, g72_0, g72_1, g72_2, p72_2, g72_3, p72_3, g72_4, p72_4, g72_5, p72_5, rc94, g94_0, p94_0, g94_1, g94_2, g94_3, gd, ↓r4, ↓r36, wv1, wv2, ew1, q1, gT0 isT_94, hm', ↓w5, ↓kc_i, ↓kc_l, ↓kc_r, ↓kc_n, mul8, mul8', mul4, mul4', nI_add, inT, nclN, ltT, ltF, leT, leF, eqT, eqF, nzF, m1F, m1T, shr, shg, bI0, bI1, bo_bI, bo_1, bo_0, eq10, eq00, frT1, frT2, frT3, fit0, fit1, fit2, fit3, true_and, and_true, ↓reduceIte, Nat.reduceAdd, Nat.reduceMul, and_self, not_false_eq_true, not_true_eq_false, Nat.zero_add, Nat.add_zero]
  · have eS : lnS g n N bb m i = wr g n 1 (i, 0) := by unfold lnS; rw [if_neg q1]
    have w1 := fun P => k_wrong (L := L) (xs := xs) (d := d + 1) (P := P) (Z := Z) (k := 1) (s := (i, 0)) hT hn ok0 (by decide)
    refine ⟨_, _, fun _ => rfl, fun _ => rfl, fun P => ?_⟩
    rw [eS, if_neg (fun z => q1 z.1)]
    simp (discharger := omega) only [↓w38_0, ↓w38_1, ↓w38_7, ↓w38_8, ↓w38_11, ↓w38_12, ↓w38_13, ↓w38_16, ↓w38_17, ↓w38_18, ↓w38_21, ↓w38_23, ↓w38_26, ↓w38_27, ↓w38_28, ↓w38_31, ↓w38_32, ↓w38_33, ↓w38_39, ↓w38_40, ↓w38_41, ↓w38_44, ↓w38_45, ↓w38_47, ↓w38_50, ↓w38_51, ↓w38_52, ↓w38_55, ↓w38_58, ↓w38_59, ↓w38_61, ↓w38_62, ↓w38_65, ↓w38_66, ↓w38_67, ↓w38_70, ↓w38_71, ↓w38_72, ↓w38_75, ↓w38_76, ↓w38_78, ↓w38_81, ↓w38_82, ↓w38_85, ↓w38_86, ↓w38_88, ↓w38_90, ↓w38_93, ↓w38_94, ↓w38_95, ↓w38_96, ↓w38_99, ↓w38_100, ↓w38_101, ↓w38_104, ↓w38_107, ↓w38_108, ↓w38_110, ↓w38_111, ↓w38_113, ↓w38_116, ↓w38_117, ↓w38_118, ↓w38_120, ↓w38_122, ↓w38_125, ↓w38_126, rc72, g72_0, g72_1, g72_2, p72_2, g72_3, p72_3, g72_4, p72_4, g72_5, p72_5, rc94, g94_0, p94_0, g94_1, g94_2, g94_3, gd, ↓r4, ↓r36, wv1, wv2, ew1, q1, ↓w1, ↓kc_i, ↓kc_l, ↓kc_r, ↓kc_n, mul8, mul8', mul4, mul4', nI_add, inT, nclN, ltT, ltF, leT, leF, eqT, eqF, nzF, m1F, m1T, shr, shg, bI0, bI1, bo_bI, bo_1, bo_0, eq10, eq00, frT1, frT2, frT3, fit0, fit1, fit2, fit3, true_and, and_true, ↓reduceIte, Nat.reduceAdd, Nat.reduceMul, and_self, not_false_eq_true, not_true_eq_false, Nat.zero_add, Nat.add_zero]
end H4
