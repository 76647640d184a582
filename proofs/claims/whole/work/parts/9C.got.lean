/-! GOT: the model keeps -1 where the class answers NONE; both keep the same else -/
def GR (G : Gv) (V : Vw) (g : Nat → Int32) : Prop := ∀ r c, r < 5 → c < gM G → g (8 * r + c) = if G 1 c = nI 2 ∧ V 1 (8 * r + c) = nI 4 ∧ ¬ V 3 (8 * r + c) = nI 0 then V 5 (8 * r + c) else -1
section GO
variable {G G' : Gv} {V W : Vw} {f g : Nat → Int32} {r c o a b k l n N M B B' q s w : Nat} {x y z : Int32}
theorem GR_keep (h : GR G V g) (h5 : W 5 = V 5) (hq : ∀ q, q < 40 → (W 1 q = V 1 q ∧ W 3 q = V 3 q) ∨ (¬ V 1 q = nI 4 ∧ ¬ W 1 q = nI 4)) (hG : gM G ≤ 8) : GR G W g := by
  intro r c hr hc
  rw [h r c hr hc, h5]
  rcases hq (8 * r + c) (by omega) with h1 | h1
  · rw [h1.1, h1.2]
  · rw [if_neg (fun z => h1.1 z.2.1), if_neg (fun z => h1.2 z.2.1)]
theorem st5 (h : k ≠ 5) : st (st V 5 g) k f = st (st V k f) 5 g := st_cm (Ne.symm h)
theorem s3_5 : s3 (st V 5 g) q x y z = st (s3 V q x y z) 5 g := s3_st (by decide) (by decide) (by decide)
theorem upd_q {q' : Nat} (h : ¬ q' = q) : upd f q x q' = f q' := upd_ne h
theorem s3_cell (hq : ¬ V 1 q = nI 4) (hs : s ≤ 3) : ∀ q', q' < 40 → (s3 V q (nI s) y z 1 q' = V 1 q' ∧ s3 V q (nI s) y z 3 q' = V 3 q') ∨ (¬ V 1 q' = nI 4 ∧ ¬ s3 V q (nI s) y z 1 q' = nI 4) := by
  intro q' _
  rw [s3_1, s3_3]
  by_cases h : q' = q
  · subst h; rw [upd_eq]; exact Or.inr ⟨hq, nI_ne4 hs⟩
  · rw [upd_ne h, upd_ne h]; exact Or.inl ⟨rfl, rfl⟩
theorem u1_cell (hq : ¬ V 1 q = nI 4) (hs : s ≤ 3) : ∀ q', q' < 40 → (st V 1 (upd (V 1) q (nI s)) 1 q' = V 1 q' ∧ st V 1 (upd (V 1) q (nI s)) 3 q' = V 3 q') ∨ (¬ V 1 q' = nI 4 ∧ ¬ st V 1 (upd (V 1) q (nI s)) 1 q' = nI 4) := by
  intro q' _
  rw [st_eq, st_ne (by decide)]
  by_cases h : q' = q
  · subst h; rw [upd_eq]; exact Or.inr ⟨hq, nI_ne4 hs⟩
  · rw [upd_ne h]; exact Or.inl ⟨rfl, rfl⟩
theorem GR_u (h : GR G V g) (hq : ¬ V 1 q = nI 4) (hs : s ≤ 3) (h1 : W 1 = upd (V 1) q (nI s)) (h3 : ∀ q', ¬ q' = q → W 3 q' = V 3 q') (h5 : W 5 = V 5) (g8 : gM G ≤ 8) : GR G W g := by
  refine GR_keep h h5 (fun q' _ => ?_) g8
  rw [h1]
  by_cases hh : q' = q
  · subst hh; rw [upd_eq]; exact Or.inr ⟨hq, nI_ne4 hs⟩
  · rw [upd_ne hh]; exact Or.inl ⟨rfl, h3 q' hh⟩
theorem GR_same (h : GR G V g) (h1 : W 1 = V 1) (h3 : W 3 = V 3) (h5 : W 5 = V 5) : GR G W g := by
  intro r c hr hc
  rw [h r c hr hc, h1, h3, h5]
/-- one run, beside the other got -/
def gr1 (kd : Int32) (k r c : Nat) (V : Vw) (g : Nat → Int32) : Nat → Int32 := if ¬ V 3 (8 * r + c) = nI 0 ∧ kd = nI 2 then upd g (8 * r + c) (V 8 (4 * r + k)) else g
theorem eff_5 {kd va : Int32} (hV : V 8 = W 8) : effV kd va k r c (st W 5 g) = st (effV kd va k r c W) 5 (if kd = nI 2 then upd g (8 * r + c) (W 8 (4 * r + k)) else g) := by
  unfold effV
  by_cases h0 : kd = nI 0
  · have : ¬ nI 0 = nI 2 := by decide
    rw [if_pos h0, if_pos h0, h0, if_neg this, st_ne (by decide), st5 (by decide)]
  · by_cases h1 : kd = nI 1
    · have : ¬ nI 1 = nI 2 := by decide
      rw [if_neg h0, if_pos h1, if_neg h0, if_pos h1, h1, if_neg this, st_ne (by decide), st5 (by decide)]
    · by_cases h2 : kd = nI 2
      · rw [if_neg h0, if_neg h1, if_pos h2, if_neg h0, if_neg h1, if_pos h2, if_pos h2, st_st, st_st, st_eq, st_ne (by decide)]
      · rw [if_neg h0, if_neg h1, if_neg h2, if_neg h0, if_neg h1, if_neg h2, if_neg h2, st_ne (by decide), st5 (by decide)]
theorem r1_5 {kd va : Int32} (hn : n < 8) : r1V n kd va k r c (st V 5 g) = st (r1V n kd va k r c V) 5 (gr1 kd k r c V g) := by
  unfold r1V gr1
  rw [if_neg (by omega), if_neg (by omega)]
  dsimp only
  simp (discharger := omega) only [st_ne, st5]
  by_cases h3 : V 3 (8 * r + c) = nI 0
  · simp [h3]
  · rw [if_neg h3, if_neg h3, eff_5 (V := V) (by rw [st_ne (by decide), st_ne (by decide), st_ne (by decide)])]
    simp (discharger := omega) only [st_ne]
    by_cases h2 : kd = nI 2
    · simp [h2, h3]
    · simp [h2]
theorem r1_got {va : Int32} (hn : n < 8) (h8 : gM G ≤ 8) (hc : c < gM G) (hr : r < 5) (hcm : ¬ V 1 (8 * r + c) = nI 4) (h : GR G V g) : GR G (r1V n (G 1 c) va k r c V) (gr1 (G 1 c) k r c V g) := by
  have e1 := r1V_1 (V := V) (k := k) (r := r) (c := c) hn (a := G 1 c) (b := va)
  have e3 : r1V n (G 1 c) va k r c V 3 = V 3 := r1V_ne (by decide) (by decide) (by decide) (by decide) (by decide)
  intro r' c' hr' hc'
  rw [e1, e3]
  have hg := h r' c' hr' hc'
  by_cases hq : 8 * r' + c' = 8 * r + c
  · have hrr : r' = r := by omega
    have hcc : c' = c := by omega
    subst hrr; subst hcc
    rw [upd_eq]
    rw [if_neg (fun z => hcm z.2.1)] at hg
    unfold gr1
    by_cases h3 : V 3 (8 * r' + c') = nI 0
    · rw [if_neg (fun z => z.1 h3), if_neg (fun z => z.2.2 h3), hg]
    · by_cases h2 : G 1 c' = nI 2
      · rw [if_pos ⟨h3, h2⟩, if_pos ⟨h2, rfl, h3⟩, upd_eq]
        unfold r1V
        rw [if_neg (by omega)]
        dsimp only
        rw [if_neg h3]
        unfold effV
        have n0 : ¬ G 1 c' = nI 0 := by rw [h2]; decide
        have n1 : ¬ G 1 c' = nI 1 := by rw [h2]; decide
        rw [if_neg n0, if_neg n1, if_pos h2, st_eq, upd_eq, st_ne (by decide), st_ne (by decide), st_ne (by decide)]
      · rw [if_neg (fun z => h2 z.2), if_neg (fun z => h2 z.1), hg]
  · rw [upd_ne hq]
    have e5 : r1V n (G 1 c) va k r c V 5 (8 * r' + c') = V 5 (8 * r' + c') := by
      unfold r1V
      rw [if_neg (by omega)]
      dsimp only
      split
      · rw [st_ne (by decide), st_ne (by decide), st_ne (by decide)]
      · unfold effV
        split
        · rw [st_ne (by decide), st_ne (by decide), st_ne (by decide), st_ne (by decide)]
        · split
          · rw [st_ne (by decide), st_ne (by decide), st_ne (by decide), st_ne (by decide)]
          · split
            · rw [st_eq, upd_ne hq, st_ne (by decide), st_ne (by decide), st_ne (by decide)]
            · rw [st_ne (by decide), st_ne (by decide), st_ne (by decide), st_ne (by decide)]
    rw [e5]
    unfold gr1
    split
    · rw [upd_ne hq]; exact hg
    · exact hg
theorem gr1_can (h : can 40 g) (hq : 8 * r + c < 40) : can 40 (gr1 x k r c V g) := by
  unfold gr1; split
  · exact can_upd h hq
  · exact h
theorem okR_5 (h : okR M r V) : okR M r (st V 5 g) := by
  unfold okR at h ⊢
  simp (discharger := omega) only [st_ne]
  exact h
theorem rp_5 {va : Nat → Int32} {ky : Nat → Nat} (hr : r < 5) (h8 : gM G ≤ 8) : ∀ (k : Nat) (left : Int32) (V : Vw) (g : Nat → Int32), (∀ o, tb left o = true → o < gM G ∧ cm (V 1) r o) → okR (gM G) r V → GR G V g → can 40 g → ∃ g', rpV (G 1) va ky (gM G) r k left (st V 5 g) = st (rpV (G 1) va ky (gM G) r k left V) 5 g' ∧ GR G (rpV (G 1) va ky (gM G) r k left V) g' ∧ can 40 g' ∧ okR (gM G) r (rpV (G 1) va ky (gM G) r k left V)
  | 0, _, V, g, _, hR, hg, hcn => ⟨g, rfl, hg, hcn, hR⟩
  | k + 1, left, V, g, hl, hR, hg, hcn => by
    rw [rpV_s, rpV_s]
    by_cases h0 : left = nI 0
    · rw [if_pos h0, if_pos h0]; exact ⟨g, rfl, hg, hcn, hR⟩
    · rw [if_neg h0, if_neg h0]
      simp (discharger := omega) only [st_ne]
      cases hc : lst (tb left) (V 3) r (gM G) with
      | none => exact ⟨g, rfl, hg, hcn, hR⟩
      | some c =>
        have hcl := lst_p hc
        have hcM := (hl c hcl).1
        have hcm := (hl c hcl).2
        obtain ⟨hlt, hR1, -⟩ := okR_1 (a := G 1 c) (b := va c) (k := ky c) hcM h8 hR hcm
        have hn : (V 7 r).toNatClampNeg = pcn (rn (V 1) r) := by rw [hR.2, nI_clamp (by have := pcn_le (x := rn (V 1) r); omega)]
        dsimp only
        rw [hn, r1_5 hlt]
        have hne : ¬ V 1 (8 * r + c) = nI 4 := by rw [(cm_iff.mp hcm).2]; decide
        refine rp_5 hr h8 k _ _ _ ?_ hR1 (r1_got hlt h8 hcM hr hne hg) (gr1_can hcn (by omega))
        intro o ho
        rw [tb_out (by omega)] at ho
        have ho' : tb left o = true ∧ ¬ o = c := by simpa using ho
        refine ⟨(hl o ho'.1).1, ?_⟩
        show tb (cAt (r1V (pcn (rn (V 1) r)) (G 1 c) (va c) (ky c) r c V 1) r (nI 3) (nI 3)) o = true
        rw [r1V_1 hlt, cm_set (by omega), (hl o ho'.1).2]
        simp [ho'.2]
theorem rps_5 {va : Nat → Int32} {ky : Nat → Nat} (hr : r < 5) (h8 : gM G ≤ 8) : ∀ (k : Nat) (V : Vw) (g : Nat → Int32), okR (gM G) r V → GR G V g → can 40 g → ∃ g', (rps (G 1) va ky (gM G) r k (st V 5 g, nI 0, z0)).1 = st (rps (G 1) va ky (gM G) r k (V, nI 0, z0)).1 5 g' ∧ GR G (rps (G 1) va ky (gM G) r k (V, nI 0, z0)).1 g' ∧ can 40 g'
  | 0, V, g, hR, hg, hcn => ⟨g, rfl, hg, hcn⟩
  | k + 1, V, g, hR, hg, hcn => by
    rw [rps_s, rps_s]
    dsimp only
    simp (discharger := omega) only [st_ne]
    cases hc : lst (free (cAt (V 1) r (nI 3) (nI 3)) (lns (V 1) (V 4) r z0)) (V 3) r (gM G) with
    | none => exact ⟨g, rfl, hg, hcn⟩
    | some c =>
      have hcm : cm (V 1) r c := free_cm (lst_p hc)
      dsimp only
      obtain ⟨g1, e1, hg1, hcn1, hR1⟩ := rp_5 (va := va) (ky := ky) hr h8 8 (prt (lns (V 1) (V 4) r z0) c) V g (fun o ho => prt_cm hR.1 hcm ho) hR hg hcn
      have hz := (lns_can (r := r) (f1 := V 1) (f4 := V 4) (f := z0) (fun _ _ => rfl)).2
      have e2 := fun X : Vw => (rps_can (kd := G 1) (va := va) (ky := ky) (M := gM G) (r := r) k (X, cAt (V 1) r (nI 3) (nI 3), lns (V 1) (V 4) r z0) hz).1
      dsimp only at e2
      rw [e1, e2, e2]
      exact rps_5 hr h8 k _ g1 hR1 hg1 hcn1
theorem run_5 (hG : okG G) (h : okV B G V) (hr : r < gN G) (hg : GR G V g) (hcn : can 40 g) : ∃ g', runV G (st V 5 g) r = st (runV G V r) 5 g' ∧ GR G (runV G V r) g' ∧ can 40 g' := by
  have := hG.1.2
  exact rps_5 (show r < 5 by omega) hG.2.1.2 8 V g (okV_R h (by omega)) hg hcn
/-- a step beside the other got -/
theorem stp_5 (hw : w < 11) (h : okV B G V) (hG : okG G) (hX : okX G) (hc : w < 7 → c < gM G) (hr : (w % 2 = 1 ∨ w = 6 ∨ w = 8) → r < gN G) (hg : GR G V g) (hcn : can 40 g) : ∃ g', stp G (st V 5 g) w c r = ((stp G V w c r).1, st (stp G V w c r).2 5 g') ∧ GR G (stp G V w c r).2 g' ∧ can 40 g' := by
  have g8 := hG.2.1.2
  have g5 := hG.1.2
  match w, hw with
  | 0, _ =>
    refine ⟨g, ?_, ?_, hcn⟩
    · show stP G (st V 5 g) c = ((stP G V c).1, st (stP G V c).2 5 g)
      unfold stP
      simp (discharger := omega) only [st_ne, s3_5, st5]
      split <;> rfl
    · show GR G (stP G V c).2 g
      unfold stP
      dsimp only
      split
      · rename_i hcond
        have hun : V 1 (8 * gL G c + c) = nI 0 := by
          rw [Bool.and_eq_true] at hcond; unfold unt at hcond; simp at hcond; exact hcond.2.1
        refine GR_u (s := 1) (q := 8 * gL G c + c) hg (by rw [hun]; decide) (by omega) ?_ (fun q' hq' => ?_) ?_ g8
        · simp (discharger := omega) only [st_ne, st_eq, s3_ne, s3_1]
        · simp (discharger := omega) only [st_ne, s3_ne, s3_3, upd_q hq']
        · simp (discharger := omega) only [st_ne, s3_ne]
      · exact hg
  | 1, _ =>
    refine ⟨g, ?_, ?_, hcn⟩
    · show stA G (st V 5 g) c r = ((stA G V c r).1, st (stA G V c r).2 5 g)
      unfold stA
      simp (discharger := omega) only [st_ne, s3_5, st5]
      split <;> rfl
    · show GR G (stA G V c r).2 g
      unfold stA
      dsimp only
      split
      · rename_i hcond
        have hun : V 1 (8 * r + c) = nI 0 := by
          simp only [Bool.and_eq_true] at hcond; unfold unt at hcond; simp at hcond; exact hcond.2.2.2.1
        refine GR_u (s := 1) (q := 8 * r + c) hg (by rw [hun]; decide) (by omega) ?_ (fun q' hq' => ?_) ?_ g8
        · simp (discharger := omega) only [st_ne, st_eq, s3_ne, s3_1]
        · simp (discharger := omega) only [st_ne, s3_ne, s3_3, upd_q hq']
        · simp (discharger := omega) only [st_ne, s3_ne]
      · exact hg
  | 2, _ =>
    refine ⟨g, ?_, ?_, hcn⟩
    · show stD G (st V 5 g) c = ((stD G V c).1, st (stD G V c).2 5 g)
      unfold stD
      simp (discharger := omega) only [st_ne, s3_5, st5]
      split
      · split <;> rfl
      · rfl
    · show GR G (stD G V c).2 g
      unfold stD
      dsimp only
      split
      · rename_i hcond
        have hun : V 1 (8 * gL G c + c) = nI 1 := by
          rw [Bool.and_eq_true] at hcond; unfold askd at hcond; simp at hcond; exact hcond.1.2.1
        have hne : ¬ V 1 (8 * gL G c + c) = nI 4 := by rw [hun]; decide
        split
        · refine GR_u (s := 3) (q := 8 * gL G c + c) hg (hne) (by omega) ?_ (fun q' hq' => ?_) ?_ g8
          · simp (discharger := omega) only [st_ne, st_eq, s3_ne, s3_1]
          · simp (discharger := omega) only [st_ne, s3_ne, s3_3, upd_q hq']
          · simp (discharger := omega) only [st_ne, s3_ne]
        · refine GR_u (s := 2) (q := 8 * gL G c + c) hg (hne) (by omega) ?_ (fun q' hq' => ?_) ?_ g8
          · simp (discharger := omega) only [st_ne, st_eq, s3_ne, s3_1]
          · simp (discharger := omega) only [st_ne, s3_ne, s3_3, upd_q hq']
          · simp (discharger := omega) only [st_ne, s3_ne]
      · exact hg
  | 3, _ =>
    refine ⟨g, ?_, ?_, hcn⟩
    · show stC (st V 5 g) c r = ((stC V c r).1, st (stC V c r).2 5 g)
      unfold stC hst
      simp (discharger := omega) only [st_ne, s3_5, st5]
      split <;> rfl
    · show GR G (stC V c r).2 g
      unfold stC
      dsimp only
      split
      · rename_i hcond
        have hlt : V 1 (8 * r + c) < nI 3 := by
          simp only [Bool.and_eq_true, decide_eq_true_eq] at hcond; exact hcond.2.2.1
        have hne := st_T h (by have := hc (by decide); have := hr (by decide); omega) hlt
        refine GR_u (s := 2) (q := 8 * r + c) hg (hne) (by omega) ?_ (fun q' hq' => ?_) ?_ g8
        · simp (discharger := omega) only [st_ne, st_eq, s3_ne, s3_1]
        · simp (discharger := omega) only [st_ne, s3_ne, s3_3, upd_q hq']
        · simp (discharger := omega) only [st_ne, s3_ne]
      · exact hg
  | 4, _ =>
    refine ⟨g, ?_, ?_, hcn⟩
    · show stS G (st V 5 g) c = ((stS G V c).1, st (stS G V c).2 5 g)
      unfold stS hst
      simp (discharger := omega) only [st_ne, s3_5, st5]
      split <;> rfl
    · show GR G (stS G V c).2 g
      unfold stS
      dsimp only
      split
      · rename_i hcond
        have hun : V 1 (8 * hst V c + c) = nI 2 := by
          rw [Bool.and_eq_true] at hcond; unfold accd at hcond; simp at hcond; exact hcond.1.2
        refine GR_u (s := 3) (q := 8 * hst V c + c) hg (by rw [hun]; decide) (by omega) ?_ (fun q' hq' => ?_) ?_ g8
        · simp (discharger := omega) only [st_ne, st_eq, s3_ne, s3_1]
        · simp (discharger := omega) only [st_ne, s3_ne, s3_3, upd_q hq']
        · simp (discharger := omega) only [st_ne, s3_ne]
      · exact hg
  | 5, _ =>
    refine ⟨g, ?_, ?_, hcn⟩
    · show stT (st V 5 g) c r = ((stT V c r).1, st (stT V c r).2 5 g)
      unfold stT
      simp (discharger := omega) only [st_ne, s3_5, st5]
      cases ff 8 (tb (rW (V 1) c (nI 3) (nI 4) &&& V 0 0)) with
      | none => rfl
      | some t => dsimp only; split <;> rfl
    · show GR G (stT V c r).2 g
      unfold stT
      cases ff 8 (tb (rW (V 1) c (nI 3) (nI 4) &&& V 0 0)) with
      | none => exact hg
      | some t =>
        dsimp only
        split
        · rename_i hcond
          have hlt : V 1 (8 * r + c) < nI 3 := by
            simp only [Bool.and_eq_true, decide_eq_true_eq] at hcond; exact hcond.2
          have hne := st_T h (by have := hc (by decide); have := hr (by decide); omega) hlt
          refine GR_u (s := 3) (q := 8 * r + c) hg (hne) (by omega) ?_ (fun q' hq' => ?_) ?_ g8
          · simp (discharger := omega) only [st_ne, st_eq, s3_ne, s3_1]
          · simp (discharger := omega) only [st_ne, s3_ne, s3_3, upd_q hq']
          · simp (discharger := omega) only [st_ne, s3_ne]
        · exact hg
  | 6, _ =>
    refine ⟨g, ?_, ?_, hcn⟩
    · show stR G (st V 5 g) c r = ((stR G V c r).1, st (stR G V c r).2 5 g)
      unfold stR fdV
      simp (discharger := omega) only [st_ne, s3_5, st5]
      split <;> rfl
    · show GR G (stR G V c r).2 g
      unfold stR
      split
      · rename_i hcond
        have hlt : V 1 (8 * r + c) < nI 3 := by
          unfold canRec at hcond; simp only [Bool.and_eq_true, decide_eq_true_eq] at hcond; exact hcond.2.1
        have hne := st_T h (by have := hc (by decide); have := hr (by decide); omega) hlt
        generalize fdV G V (V 0 0) c = zz
        dsimp only
        simp (discharger := omega) only [s3_st]
        have key : ∀ s, s ≤ 3 → GR G (st (st (st (st (s3 V (8 * r + c) (nI s) zz.2.1 zz.2.2) 2 (stb (gN G) (V 0 0) (mxb (gN G) (V 0 0) (V 2) c + nI 1) c (V 2))) 9 (upd (V 9) c (nI r))) 10 (upd (V 10) c (nI 0))) 11 (upd (V 11) c (if zz.1 = 4 then nI 0 else sg r))) g := fun s hs => by
          refine GR_u (s := s) (q := 8 * r + c) hg (hne) (by omega) ?_ (fun q' hq' => ?_) ?_ g8
          · simp (discharger := omega) only [st_ne, st_eq, s3_ne, s3_1]
          · simp (discharger := omega) only [st_ne, s3_ne, s3_3, upd_q hq']
          · simp (discharger := omega) only [st_ne, s3_ne]
        by_cases hz : zz.1 = 4
        · rw [if_pos hz]; exact key 3 (by decide)
        · rw [if_neg hz]; exact key 2 (by decide)
      · exact hg
  | 7, _ =>
    have hr := hr (by decide)
    obtain ⟨g', e, hg', hcn'⟩ := run_5 hG h hr hg hcn
    by_cases ht : tb (V 0 0) r = true
    · refine ⟨g', ?_, ?_, hcn'⟩
      · show stX G (st V 5 g) r = ((stX G V r).1, st (stX G V r).2 5 g')
        unfold stX
        rw [e]
        simp (discharger := omega) only [st_ne]
        rw [if_pos ht, if_pos ht]
      · show GR G (stX G V r).2 g'
        unfold stX
        rw [if_pos ht]; exact hg'
    · refine ⟨g, ?_, ?_, hcn⟩
      · show stX G (st V 5 g) r = ((stX G V r).1, st (stX G V r).2 5 g)
        unfold stX
        simp (discharger := omega) only [st_ne]
        rw [if_neg ht, if_neg ht]
      · show GR G (stX G V r).2 g
        unfold stX
        rw [if_neg ht]; exact hg
  | 8, _ =>
    refine ⟨g, ?_, ?_, hcn⟩
    · show stU (st V 5 g) r true = ((stU V r true).1, st (stU V r true).2 5 g)
      unfold stU
      simp (discharger := omega) only [st_ne, st5]
      split <;> rfl
    · show GR G (stU V r true).2 g
      unfold stU
      split
      · refine GR_same hg ?_ ?_ ?_ <;> simp (discharger := omega) only [st_ne]
      · exact hg
  | 9, _ =>
    refine ⟨g, ?_, ?_, hcn⟩
    · show stU (st V 5 g) r false = ((stU V r false).1, st (stU V r false).2 5 g)
      unfold stU
      simp (discharger := omega) only [st_ne, st5]
      split <;> rfl
    · show GR G (stU V r false).2 g
      unfold stU
      split
      · refine GR_same hg ?_ ?_ ?_ <;> simp (discharger := omega) only [st_ne]
      · exact hg
  | 10, _ =>
    refine ⟨g, ?_, ?_, hcn⟩
    · show stL G (st V 5 g) = ((stL G V).1, st (stL G V).2 5 g)
      unfold stL
      simp (discharger := omega) only [st_ne, st5]
    · show GR G (stL G V).2 g
      unfold stL
      dsimp only
      refine GR_same hg ?_ ?_ ?_ <;> simp (discharger := omega) only [st_ne]
theorem okV_5 (h : okV B G V) (hcn : can 40 g) : okV B G (st V 5 g) := by
  unfold okV at h ⊢
  simp (discharger := omega) only [st_ne, st_eq]
  exact ⟨h.1, h.2.1, h.2.2.1, h.2.2.2.1, h.2.2.2.2.1, hcn, h.2.2.2.2.2.2⟩
theorem cnd_5 : cnd G (st V 5 g) w c r = cnd G V w c r := by
  unfold cnd hst
  split <;> simp (discharger := omega) only [st_ne]
end GO
