/-! THE MODEL'S STATE BESIDE THE CLASS'S: all rows are the same, but GOT (the model keeps -1) and what stands behind the commands in HOST -/
def smV (G : Gv) (V W : Vw) : Prop := (∀ j, j ≠ 5 → j ≠ 9 → W j = V j) ∧ GR G V (W 5) ∧ can 40 (W 5) ∧ (∀ c, c < gM G → W 9 c = V 9 c) ∧ can 8 (W 9)
section SM
variable {G G' : Gv} {V W V' : Vw} {f g h : Nat → Int32} {r c o a b k l n N M B B' q s w : Nat} {x y z : Int32}
theorem sm_eq' (h : smV G V W) : W = st (st V 5 (W 5)) 9 (W 9) := by
  funext j
  by_cases h9 : j = 9
  · subst h9; rw [st_eq]
  · rw [st_ne h9]
    by_cases h5 : j = 5
    · subst h5; rw [st_eq]
    · rw [st_ne h5]; exact h.1 j h5 h9
theorem sm_of' (h1 : W = st (st V 5 g) 9 h) (h2 : GR G V g) (h3 : can 40 g) (h4 : ∀ c, c < gM G → h c = V 9 c) (h5 : can 8 h) : smV G V W := by
  subst h1
  refine ⟨fun j h5 h9 => by rw [st_ne h9, st_ne h5], ?_, ?_, ?_, ?_⟩
  · rw [st_ne (by decide), st_eq]; exact h2
  · rw [st_ne (by decide), st_eq]; exact h3
  · rw [st_eq]; exact h4
  · rw [st_eq]; exact h5
theorem okV_9' (h : okV B G V) (h9 : A9 G f) : okV B G (st V 9 f) := by
  unfold okV at h ⊢
  simp (discharger := omega) only [st_ne, st_eq]
  exact ⟨h.1, h.2.1, h.2.2.1, h.2.2.2.1, h.2.2.2.2.1, h.2.2.2.2.2.1, h.2.2.2.2.2.2.1, h.2.2.2.2.2.2.2.1, h9, h.2.2.2.2.2.2.2.2.2⟩
theorem A9_sm (h : A9 G f) (h1 : ∀ c, c < gM G → g c = f c) (h2 : can 8 g) : A9 G g := ⟨h2, fun c hc => by rw [h1 c hc]; exact h.2 c hc⟩
theorem sm_ok (h : smV G V W) (hV : okV B G V) : okV B G W := by
  rw [sm_eq' h]
  exact okV_9' (okV_5 hV h.2.2.1) (A9_sm hV.2.2.2.2.2.2.2.2.1 h.2.2.2.1 h.2.2.2.2)
theorem st9 (h : k ≠ 9) : st (st V 9 g) k f = st (st V k f) 9 g := st_cm (Ne.symm h)
theorem s3_9 : s3 (st V 9 g) q x y z = st (s3 V q x y z) 9 g := s3_st (by decide) (by decide) (by decide)
theorem eff_9 {kd va : Int32} : effV kd va k r c (st V 9 g) = st (effV kd va k r c V) 9 g := by
  unfold effV
  simp (discharger := omega) only [st_ne, st9]
  split
  · rfl
  · split
    · rfl
    · split <;> rfl
theorem r1_9 {kd va : Int32} : r1V n kd va k r c (st V 9 g) = st (r1V n kd va k r c V) 9 g := by
  unfold r1V
  split
  · rfl
  · simp (discharger := omega) only [st_ne, st9, eff_9]
    split <;> rfl
theorem rp_9 {kd va : Nat → Int32} {ky : Nat → Nat} : ∀ (k : Nat) (left : Int32) (V : Vw), rpV kd va ky M r k left (st V 9 g) = st (rpV kd va ky M r k left V) 9 g
  | 0, _, _ => rfl
  | k + 1, left, V => by
    rw [rpV_s, rpV_s]
    simp (discharger := omega) only [st_ne, r1_9]
    split
    · rfl
    · cases lst (tb left) (V 3) r M with
      | none => rfl
      | some c => exact rp_9 k _ _
theorem rps_9 {kd va : Nat → Int32} {ky : Nat → Nat} : ∀ (k : Nat) (V : Vw), (rps kd va ky M r k (st V 9 g, nI 0, z0)).1 = st (rps kd va ky M r k (V, nI 0, z0)).1 9 g
  | 0, _ => rfl
  | k + 1, V => by
    rw [rps_s, rps_s]
    dsimp only
    simp (discharger := omega) only [st_ne, rp_9]
    cases lst (free (cAt (V 1) r (nI 3) (nI 3)) (lns (V 1) (V 4) r z0)) (V 3) r M with
    | none => rfl
    | some c =>
      dsimp only
      have hz := (lns_can (r := r) (f1 := V 1) (f4 := V 4) (f := z0) (fun _ _ => rfl)).2
      have e2 := fun X : Vw => (rps_can (kd := kd) (va := va) (ky := ky) (M := M) (r := r) k (X, cAt (V 1) r (nI 3) (nI 3), lns (V 1) (V 4) r z0) hz).1
      dsimp only at e2
      rw [e2, e2]
      exact rps_9 k _
theorem run_9 : runV G (st V 9 g) r = st (runV G V r) 9 g := rps_9 8 V
theorem hst_9 (h1 : ∀ c, c < gM G → g c = V 9 c) (hc : c < gM G) : hst (st V 9 g) c = hst V c := by
  unfold hst; rw [st_eq, h1 c hc]
/-- a step beside the other HOST -/
theorem stp_9 (hw : w < 11) (hc : w < 7 → c < gM G) (h1 : ∀ c, c < gM G → g c = V 9 c) (h2 : can 8 g) (h8 : gM G ≤ 8) : ∃ g', stp G (st V 9 g) w c r = ((stp G V w c r).1, st (stp G V w c r).2 9 g') ∧ (∀ c', c' < gM G → g' c' = (stp G V w c r).2 9 c') ∧ can 8 g' := by
  match w, hw with
  | 0, _ =>
    refine ⟨g, ?_, ?_, h2⟩
    · show stP G (st V 9 g) c = ((stP G V c).1, st (stP G V c).2 9 g)
      unfold stP
      simp (discharger := omega) only [st_ne, s3_9, st9]
      split <;> rfl
    · show ∀ c', c' < gM G → g c' = (stP G V c).2 9 c'
      unfold stP
      dsimp only
      split
      · simp (discharger := omega) only [st_ne, s3_ne]; exact h1
      · exact h1
  | 1, _ =>
    refine ⟨g, ?_, ?_, h2⟩
    · show stA G (st V 9 g) c r = ((stA G V c r).1, st (stA G V c r).2 9 g)
      unfold stA
      simp (discharger := omega) only [st_ne, s3_9, st9]
      split <;> rfl
    · show ∀ c', c' < gM G → g c' = (stA G V c r).2 9 c'
      unfold stA
      dsimp only
      split
      · simp (discharger := omega) only [st_ne, s3_ne]; exact h1
      · exact h1
  | 2, _ =>
    refine ⟨g, ?_, ?_, h2⟩
    · show stD G (st V 9 g) c = ((stD G V c).1, st (stD G V c).2 9 g)
      unfold stD
      simp (discharger := omega) only [st_ne, s3_9, st9]
      split
      · split <;> rfl
      · rfl
    · show ∀ c', c' < gM G → g c' = (stD G V c).2 9 c'
      unfold stD
      dsimp only
      split
      · split
        · simp (discharger := omega) only [st_ne]; exact h1
        · simp (discharger := omega) only [st_ne, s3_ne]; exact h1
      · exact h1
  | 3, _ =>
    refine ⟨g, ?_, ?_, h2⟩
    · show stC (st V 9 g) c r = ((stC V c r).1, st (stC V c r).2 9 g)
      unfold stC
      rw [hst_9 h1 (hc (by decide))]
      simp (discharger := omega) only [st_ne, s3_9, st9]
      split <;> rfl
    · show ∀ c', c' < gM G → g c' = (stC V c r).2 9 c'
      unfold stC
      dsimp only
      split
      · simp (discharger := omega) only [st_ne, s3_ne]; exact h1
      · exact h1
  | 4, _ =>
    refine ⟨g, ?_, ?_, h2⟩
    · show stS G (st V 9 g) c = ((stS G V c).1, st (stS G V c).2 9 g)
      unfold stS
      rw [hst_9 h1 (hc (by decide))]
      simp (discharger := omega) only [st_ne, st9]
      split <;> rfl
    · show ∀ c', c' < gM G → g c' = (stS G V c).2 9 c'
      unfold stS
      dsimp only
      split
      · simp (discharger := omega) only [st_ne]; exact h1
      · exact h1
  | 5, _ =>
    refine ⟨g, ?_, ?_, h2⟩
    · show stT (st V 9 g) c r = ((stT V c r).1, st (stT V c r).2 9 g)
      unfold stT
      simp (discharger := omega) only [st_ne, s3_9]
      cases ff 8 (tb (rW (V 1) c (nI 3) (nI 4) &&& V 0 0)) with
      | none => rfl
      | some t => dsimp only; split <;> rfl
    · show ∀ c', c' < gM G → g c' = (stT V c r).2 9 c'
      unfold stT
      cases ff 8 (tb (rW (V 1) c (nI 3) (nI 4) &&& V 0 0)) with
      | none => exact h1
      | some t =>
        dsimp only
        split
        · simp (discharger := omega) only [s3_ne]; exact h1
        · exact h1
  | 6, _ =>
    have hc := hc (by decide)
    by_cases hcond : canRec (gN G) (V 0 0) (V 1) r c = true
    · refine ⟨upd g c (nI r), ?_, ?_, can_upd h2 (by omega)⟩
      · show stR G (st V 9 g) c r = ((stR G V c r).1, st (stR G V c r).2 9 (upd g c (nI r)))
        unfold stR fdV
        simp (discharger := omega) only [st_ne, st_eq, s3_st, st9, st_st, hcond, ↓reduceIte]
      · show ∀ c', c' < gM G → upd g c (nI r) c' = (stR G V c r).2 9 c'
        unfold stR
        simp (discharger := omega) only [s3_ne, st_ne, st_eq, hcond, ↓reduceIte]
        intro c' hc'
        by_cases he : c' = c
        · subst he; rw [upd_eq, upd_eq]
        · rw [upd_ne he, upd_ne he]; exact h1 c' hc'
    · have hcf := Bool.eq_false_iff.mpr hcond
      refine ⟨g, ?_, ?_, h2⟩
      · show stR G (st V 9 g) c r = ((stR G V c r).1, st (stR G V c r).2 9 g)
        unfold stR
        simp (discharger := omega) only [st_ne, hcf, ↓reduceIte, Bool.false_eq_true]
      · show ∀ c', c' < gM G → g c' = (stR G V c r).2 9 c'
        unfold stR
        simp only [hcf, ↓reduceIte, Bool.false_eq_true]; exact h1
  | 7, _ =>
    refine ⟨g, ?_, ?_, h2⟩
    · show stX G (st V 9 g) r = ((stX G V r).1, st (stX G V r).2 9 g)
      unfold stX
      rw [run_9]
      simp (discharger := omega) only [st_ne]
      split <;> rfl
    · show ∀ c', c' < gM G → g c' = (stX G V r).2 9 c'
      unfold stX
      split
      · have : runV G V r 9 = V 9 := by
          have h := run_9 (G := G) (V := V) (g := V 9) (r := r)
          rw [st_id] at h
          have := congrFun h 9
          rw [st_eq] at this; exact this
        dsimp only
        rw [this]; exact h1
      · exact h1
  | 8, _ =>
    refine ⟨g, ?_, ?_, h2⟩
    · show stU (st V 9 g) r true = ((stU V r true).1, st (stU V r true).2 9 g)
      unfold stU
      simp (discharger := omega) only [st_ne, st9]
      split <;> rfl
    · show ∀ c', c' < gM G → g c' = (stU V r true).2 9 c'
      unfold stU
      split
      · simp (discharger := omega) only [st_ne]; exact h1
      · exact h1
  | 9, _ =>
    refine ⟨g, ?_, ?_, h2⟩
    · show stU (st V 9 g) r false = ((stU V r false).1, st (stU V r false).2 9 g)
      unfold stU
      simp (discharger := omega) only [st_ne, st9]
      split <;> rfl
    · show ∀ c', c' < gM G → g c' = (stU V r false).2 9 c'
      unfold stU
      split
      · simp (discharger := omega) only [st_ne]; exact h1
      · exact h1
  | 10, _ =>
    refine ⟨g, ?_, ?_, h2⟩
    · show stL G (st V 9 g) = ((stL G V).1, st (stL G V).2 9 g)
      unfold stL
      simp (discharger := omega) only [st_ne, st9]
    · show ∀ c', c' < gM G → g c' = (stL G V).2 9 c'
      unfold stL
      dsimp only
      simp (discharger := omega) only [st_ne]; exact h1
theorem cnd_9 (hw : w < 11) (hc : w < 7 → c < gM G) (h1 : ∀ c, c < gM G → g c = V 9 c) : cnd G (st V 9 g) w c r = cnd G V w c r := by
  match w, hw with
  | 0, _ => simp (discharger := omega) only [cnd, st_ne]
  | 1, _ => simp (discharger := omega) only [cnd, st_ne]
  | 2, _ => simp (discharger := omega) only [cnd, st_ne]
  | 3, _ =>
    have := hst_9 h1 (hc (by decide))
    simp (discharger := omega) only [cnd, st_ne, this]
  | 4, _ =>
    have := hst_9 h1 (hc (by decide))
    simp (discharger := omega) only [cnd, st_ne, this]
  | 5, _ => simp (discharger := omega) only [cnd, st_ne]
  | 6, _ => simp (discharger := omega) only [cnd, st_ne]
  | 7, _ => simp (discharger := omega) only [cnd, st_ne]
  | 8, _ => simp (discharger := omega) only [cnd, st_ne]
  | 9, _ => simp (discharger := omega) only [cnd, st_ne]
  | 10, _ => simp only [cnd]
theorem stp_sm (hw : w < 11) (hs : smV G V W) (hV : okV B G V) (hG : okG G) (hX : okX G) (hc : w < 7 → c < gM G) (hr : (w % 2 = 1 ∨ w = 6 ∨ w = 8) → r < gN G) : (stp G W w c r).1 = (stp G V w c r).1 ∧ smV G (stp G V w c r).2 (stp G W w c r).2 ∧ cnd G W w c r = cnd G V w c r := by
  obtain ⟨g5, e5, hg5, hc5⟩ := stp_5 hw hV hG hX hc hr hs.2.1 hs.2.2.1
  have hV5 : ∀ c, c < gM G → W 9 c = st V 5 (W 5) 9 c := fun c hc => by rw [st_ne (by decide)]; exact hs.2.2.2.1 c hc
  obtain ⟨g9, e9, hg9, hc9⟩ := stp_9 (V := st V 5 (W 5)) (c := c) (r := r) hw hc hV5 hs.2.2.2.2 hG.2.1.2
  have hW := sm_eq' hs
  rw [← hW, e5] at e9
  have e9' : stp G W w c r = ((stp G V w c r).1, st (st (stp G V w c r).2 5 g5) 9 g9) := e9
  refine ⟨by rw [e9'], ?_, ?_⟩
  · refine sm_of' (g := g5) (h := g9) (by rw [e9']) hg5 hc5 (fun c' hc' => ?_) hc9
    have := hg9 c' hc'
    rw [e5] at this
    dsimp only at this
    rw [st_ne (by decide)] at this
    exact this
  · rw [hW, cnd_9 hw hc hV5, cnd_5]
theorem run_sm (hs : smV G V W) (hV : okV B G V) (hG : okG G) (hr : r < gN G) : smV G (runV G V r) (runV G W r) := by
  obtain ⟨g', e, hg', hcn'⟩ := run_5 hG hV hr hs.2.1 hs.2.2.1
  have h9 : runV G V r 9 = V 9 := by
    have h := run_9 (G := G) (V := V) (g := V 9) (r := r)
    rw [st_id] at h
    have := congrFun h 9
    rw [st_eq] at this; exact this
  refine sm_of' (g := g') (h := W 9) ?_ hg' hcn' (fun c hc => by rw [h9]; exact hs.2.2.2.1 c hc) hs.2.2.2.2
  have := sm_eq' hs
  rw [this, run_9, e, st_eq]
theorem sm_cg (h : ∀ j, j < 12 → V j = V' j) (hs : smV G V W) : ∃ W', (∀ j, j < 12 → W' j = W j) ∧ smV G V' W' := by
  refine ⟨fun j => if j = 5 then W 5 else if j = 9 then W 9 else V' j, fun j hj => ?_, fun j h5 h9 => ?_, ?_, ?_, ?_, ?_⟩
  · dsimp only
    by_cases h5 : j = 5
    · rw [if_pos h5, h5]
    · rw [if_neg h5]
      by_cases h9 : j = 9
      · rw [if_pos h9, h9]
      · rw [if_neg h9, hs.1 j h5 h9, h j hj]
  · dsimp only; rw [if_neg h5, if_neg h9]
  · show GR G V' (W 5)
    have := hs.2.1
    unfold GR at this ⊢
    rw [← h 1 (by decide), ← h 3 (by decide), ← h 5 (by decide)]; exact this
  · exact hs.2.2.1
  · show ∀ c, c < gM G → W 9 c = V' 9 c
    rw [← h 9 (by decide)]; exact hs.2.2.2.1
  · exact hs.2.2.2.2
end SM
