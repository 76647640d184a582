/-! AFTER group() BOTH GROUPS SAY THE SAME -/
section P1
variable {I I' IM : Mi} {J J' JM : Mj} {k n i j c o F K1 a b : Nat} {g : Nat → Nat} {D : Dg} {x y : Int32} {G G' : Gv}
theorem mx_cm (x y : Int32) : mx x y = mx y x := by
  unfold mx
  by_cases h1 : x < y
  · have h2 : ¬ y < x := fun z => Int32.lt_irrefl (Int32.lt_trans h1 z)
    rw [if_pos h1, if_neg h2]
  · by_cases h2 : y < x
    · rw [if_neg h1, if_pos h2]
    · rw [if_neg h1, if_neg h2]
      exact Int32.le_antisymm (Int32.not_lt.mp h2) (Int32.not_lt.mp h1)
theorem mn_cm (x y : Int32) : mn x y = mn y x := by
  unfold mn
  by_cases h1 : x < y
  · have h2 : ¬ y < x := fun z => Int32.lt_irrefl (Int32.lt_trans h1 z)
    rw [if_pos h1, if_neg h2]
  · by_cases h2 : y < x
    · rw [if_neg h1, if_pos h2]
    · rw [if_neg h1, if_neg h2]
      exact Int32.le_antisymm (Int32.not_lt.mp h2) (Int32.not_lt.mp h1)
theorem ab_cm (ha : a < 4) (hb : b < 4) : ab (nI a - nI b) = ab (nI b - nI a) := by
  have key : ∀ a, a < 4 → ∀ b, b < 4 → ab (nI a - nI b) = ab (nI b - nI a) := by decide +kernel
  exact key a ha b hb
theorem ckd_cm {f e : Nat → Int32} : ckd f e c o = ckd f e o c := by
  unfold ckd
  have e1 : decide (f c = f o) = decide (f o = f c) := decide_eq_decide.mpr eq_comm
  have e2 : decide (e c = e o) = decide (e o = e c) := decide_eq_decide.mpr eq_comm
  rw [e1, e2]
  by_cases h : f o = f c
  · rw [h]
  · have : decide (f o = f c) = false := decide_eq_false h
    rw [this, Bool.false_and, Bool.false_and, Bool.or_comm (decide (f c = nI 3))]
theorem clD_cm (hW : WD g n F D) (hc : c < D.2.2.1) (ho : o < D.2.2.1) : clD g n F D c o = clD g n F D o c := by
  have h1 := hW.2.2.2.1 c hc
  have h2 := hW.2.2.2.1 o ho
  have hK := hW.2.1
  have ha := h1.2.2.2.1.2
  have hb := h2.2.2.2.1.2
  have ep : phD g n D c o = phD g n D o c := by
    funext k
    unfold phD
    have e3 : decide (lD g n D c = lD g n D o) = decide (lD g n D o = lD g n D c) := decide_eq_decide.mpr eq_comm
    rw [e3, mx_cm (vD g n D c), mn_cm (vD g n D c)]
    have : ab (eD g n D c - eD g n D o) = ab (eD g n D o - eD g n D c) := ab_cm (by omega) (by omega)
    rw [this]
  unfold clD VD
  rw [ep, ckd_cm]
theorem clS_D (hW : WD g n F D) (hc : c < D.2.2.1) (hk : k < D.2.2.1) : clS (clD g n F D) c k = (decide (c ≠ k) && clD g n F D c k) := by
  unfold clS
  by_cases h1 : k < c
  · rw [if_pos h1, decide_eq_true (show c ≠ k by omega), Bool.true_and]
  · rw [if_neg h1]
    by_cases h2 : c < k
    · rw [if_pos h2, decide_eq_true (show c ≠ k by omega), Bool.true_and, clD_cm hW hc hk]
    · have : c = k := by omega
      rw [if_neg h2, decide_eq_false (by omega), Bool.false_and]
/-- the class's group after group() -/
theorem gI_D (h : GDt I J g n F D 76) (hW : WD g n F D) : okG (gI I) ∧ gM (gI I) = D.2.2.1 ∧ gN (gI I) = D.1 ∧ okX (gI I) := by
  obtain ⟨⟨g0, g1, g2⟩, g3⟩ := h
  have hM8 := hW.2.2.1
  have hN5 : D.1 ≤ 5 := by have := hW.1; omega
  have eN : gN (gI I) = D.1 := by unfold gN; show (I 76 0).toNatClampNeg = D.1; rw [g0, nI_clamp (by omega)]
  have eM : gM (gI I) = D.2.2.1 := by unfold gM; show (I 76 2).toNatClampNeg = D.2.2.1; rw [g2, nI_clamp (by omega)]
  refine ⟨⟨⟨by rw [eN]; exact g0, by rw [eN]; exact hN5⟩, ⟨by rw [eM]; exact g2, by rw [eM]; exact hM8⟩, fun c hc' => ?_, fun c hc' => ?_⟩, eM, eN, fun c hc' o ho => ?_, fun c hc' => ?_⟩
  · rw [eM] at hc'
    have hw := hW.2.2.2.1 c hc'
    have hv := vl_lt hw.2.2.2.2.2.2.2.1
    have e : I 80 c = nI (vl g n (D.2.2.2.1 c + 8)) := (g3 c hc').2.2.2.1
    have eL : gL (gI I) c = vl g n (D.2.2.2.1 c + 8) := by unfold gL; show (I 80 c).toNatClampNeg = _; rw [e, nI_clamp (by omega)]
    rw [eL, eN]
    exact ⟨e, hw.2.2.2.2.2.2.2.2⟩
  · rw [eM] at hc'
    have hw := hW.2.2.2.1 c hc'
    have hv := vl_lt hw.2.2.2.1.1
    have hK := hW.2.1
    have e : I 78 c = nI (vl g n (D.2.2.2.1 c + 4)) := (g3 c hc').2.1
    have eK : gK (gI I) c = vl g n (D.2.2.2.1 c + 4) := by unfold gK; show (I 78 c).toNatClampNeg = _; rw [e, nI_clamp (by omega)]
    rw [eK]
    exact ⟨e, by have := hw.2.2.2.1.2; omega⟩
  · rw [eM] at hc' ⊢
    have e := (g3 c hc').2.2.2.2.1 o
    have ho' : tb (I (76 + 5) c) o = true := ho
    rw [e] at ho'
    by_cases q : o < D.2.2.1
    · exact q
    · rw [decide_eq_false q, Bool.false_and] at ho'; cases ho'
  · rw [eM] at hc'
    have hw := (hW.2.2.2.1 c hc').2.1
    have e : I 77 c = wNu (wd g n (D.2.2.2.1 c + 2)) := (g3 c hc').1
    have e' : gI I 1 c = wNu (wd g n (D.2.2.2.1 c + 2)) := e
    rw [e']
    rcases kd_word hw with q | q | q | q <;> rw [q]
    · exact ⟨0, by decide, by decide⟩
    · exact ⟨1, by decide, by decide⟩
    · exact ⟨2, by decide, by decide⟩
    · exact ⟨3, by decide, by decide⟩
/-- the model's beside the class's -/
theorem agG_D (h : GDt I J g n F D 76) (h' : MGt IM JM g n F D) (hW : WD g n F D) : agG (gI I) (mG IM) ∧ ∀ c, c < D.2.2.1 → NmP (J 82 c) (JM 423 c) := by
  obtain ⟨-, eM, -, -⟩ := gI_D h hW
  have hM8 := hW.2.2.1
  obtain ⟨⟨g0, g1, g2⟩, g3⟩ := h
  obtain ⟨⟨m0, m1, m2⟩, m3⟩ := h'
  refine ⟨⟨fun k hk => ?_, fun j c h1 h5 hc => ?_⟩, fun c hc => ?_⟩
  · show I 76 k = IM 422 k
    have : k = 0 ∨ k = 1 ∨ k = 2 := by omega
    rcases this with q | q | q <;> rw [q]
    · rw [g0, m0]
    · rw [g1, m1]
    · rw [g2, m2]
  · rw [eM] at hc
    obtain ⟨x1, x2, x3, x4, x5, -⟩ := g3 c hc
    obtain ⟨y1, y2, y3, y4, y5, -⟩ := m3 c hc
    have hj : j = 1 ∨ j = 2 ∨ j = 3 ∨ j = 4 ∨ j = 5 := by omega
    rcases hj with q | q | q | q | q <;> subst q
    · exact x1.trans y1.symm
    · exact x2.trans y2.symm
    · exact x3.trans y3.symm
    · exact x4.trans y4.symm
    · show I (76 + 5) c = IM 457 c
      refine tb_ext fun k _ => ?_
      rw [x5, y5]
      by_cases q : k < D.2.2.1
      · rw [clS_D hW hc q]
      · rw [decide_eq_false q, Bool.false_and, Bool.false_and]
  · have hw := (hW.2.2.2.1 c hc).1
    have x6 : J 82 c = lN (w32 g n (D.2.2.2.1 c + 1)) := (g3 c hc).2.2.2.2.2
    have y6 : JM 423 c = lN (w27 g n (D.2.2.2.1 c + 1)) := (m3 c hc).2.2.2.2.2
    rw [x6, y6]
    exact NmP_t (isNm_k hw)
/-- the new state -/
theorem fr_D (h : GDt I J g n F D 76) (h' : MGt IM JM g n F D) (hW : WD g n F D) (h80 : ∀ k, 8 ≤ k → I 80 k = nI 0) : okV 0 (gI I) (frs D.1 (I 80)) ∧ smV (gI I) (frs D.1 (I 80)) (frM (mG IM)) := by
  obtain ⟨ok, eM, eN, -⟩ := gI_D h hW
  obtain ⟨ag, -⟩ := agG_D h h' hW
  have f1 := frs_ok ok (show can 8 (gI I 4) from h80)
  have f2 := fr_sm ok
  rw [eN] at f1 f2
  rw [← frM_ag ag]
  exact ⟨f1, f2⟩
theorem okV_vw {V : Vw} {B : Nat} (h : okV B G V) (hV : ∀ j, j < 12 → I (102 + j) = V j) : okV B G (vw I 102) := by
  have e : ∀ j, j < 12 → vw I 102 j = V j := hV
  unfold okV at h ⊢
  rw [e 0 (by decide), e 1 (by decide), e 2 (by decide), e 3 (by decide), e 4 (by decide), e 5 (by decide), e 6 (by decide), e 7 (by decide), e 8 (by decide), e 9 (by decide), e 10 (by decide), e 11 (by decide)]
  exact h
end P1
