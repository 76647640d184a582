section KP
variable {G : Gv} {V : Vw} {f g : Nat → Int32} {r c o a b k l n N M B B' q s : Nat} {x y z : Int32}
theorem prt_cm {f1 f4 : Nat → Int32} (hD : okD M f1 f4 r) (hc : cm f1 r c) (ho : tb (prt (lns f1 f4 r z0) c) o = true) : o < M ∧ cm f1 r o := by
  have h : cm f1 r o := by
    rcases (prt_tb (cm_iff.mp hc).1).mp ho with h | ⟨h1, h2, h3⟩
    · subst h; exact hc
    · exact ww_cm h1 h3
  refine ⟨?_, h⟩
  by_cases hM : o < M
  · exact hM
  · have h2 := cm_iff.mp h
    have h3 := hD.1 o (by omega) h2.1
    rw [h2.2] at h3
    exact absurd h3 (by decide)
theorem free_cm {com : Int32} {ln : Nat → Int32} (h : free com ln c = true) : tb com c = true := by
  unfold free at h; rw [Bool.and_eq_true] at h; exact h.1
theorem wip_can (h : can 20 f) (hr : r < 5) : can 20 (wip4 r f) := by
  unfold wip4
  have key : ∀ n, n ≤ 4 → can 20 (lp (fun k f => upd f (4 * r + k) (nI 0)) n f) := by
    intro n
    induction n with
    | zero => intro _; exact h
    | succ n ih => intro hn; exact can_upd (ih (by omega)) (by omega)
  exact key 4 (Nat.le_refl 4)
theorem okV_r1 (h : okV B G V) (hG : okG G) (hr : r < gN G) (hc : c < gM G) (hcm : cm (V 1) r c) : okV B G (r1V (pcn (rn (V 1) r)) (G 1 c) (G 3 c) (gK G c) r c V) := by
  have g8 := hG.2.1.2
  have g5 := hG.1.2
  have hlt := (okR_1 (a := G 1 c) (b := G 3 c) (k := gK G c) hc g8 (okV_R h (show r < 5 by omega)) hcm).1
  have hk := (hG.2.2.2 c hc).2
  have hV3 := h.2.2.2.1
  obtain ⟨h0, h1, h2, h3, h4, h5', h6, h8', h9, h10, h11⟩ := h
  have hA := A1_run h1 hG hr hc (cm_iff.mp hcm).2
  have h1st : ∀ {V1 : Vw}, V1 = st (st (st V 1 (upd (V 1) (8 * r + c) (nI 4))) 6 (upd (V 6) (8 * r + pcn (rn (V 1) r)) (nI c))) 7 (upd (V 7) r (nI (pcn (rn (V 1) r) + 1))) → okV B G V1 := by
    rintro V1 rfl
    unfold okV
    simp (discharger := omega) only [st_ne, st_eq]
    exact ⟨h0, hA, h2, h3, h4, h5', can_upd h6 (by omega), h8', h9, h10, h11⟩
  unfold r1V
  rw [if_neg (by omega)]
  dsimp only
  generalize hV1 : st (st (st V 1 (upd (V 1) (8 * r + c) (nI 4))) 6 (upd (V 6) (8 * r + pcn (rn (V 1) r)) (nI c))) 7 (upd (V 7) r (nI (pcn (rn (V 1) r) + 1))) = V1
  have hk1 := h1st hV1.symm
  split
  · exact hk1
  · obtain ⟨h0, h1, h2, h3, h4, h5', h6, h8', h9, h10, h11⟩ := hk1
    unfold effV
    split
    · unfold okV; simp (discharger := omega) only [st_ne, st_eq]
      exact ⟨h0, h1, h2, h3, h4, h5', h6, can_upd h8' (by omega), h9, h10, h11⟩
    · split
      · unfold okV; simp (discharger := omega) only [st_ne, st_eq]
        exact ⟨h0, h1, h2, h3, h4, h5', h6, can_upd h8' (by omega), h9, h10, h11⟩
      · split
        · unfold okV; simp (discharger := omega) only [st_ne, st_eq]
          exact ⟨h0, h1, h2, h3, h4, can_upd h5' (by omega), h6, h8', h9, h10, h11⟩
        · unfold okV; simp (discharger := omega) only [st_ne, st_eq]
          exact ⟨h0, h1, h2, h3, h4, h5', h6, wip_can h8' (by omega), h9, h10, h11⟩
/-- a thing that each run of one command keeps is kept by the run of a part -/
theorem rp_ind {kd va : Nat → Int32} {ky : Nat → Nat} (Q : Vw → Prop) (h8 : M ≤ 8) (hQ : ∀ V c, c < M → cm (V 1) r c → okR M r V → Q V → Q (r1V (pcn (rn (V 1) r)) (kd c) (va c) (ky c) r c V)) : ∀ (k : Nat) (left : Int32) (V : Vw), (∀ o, tb left o = true → o < M ∧ cm (V 1) r o) → okR M r V → Q V → Q (rpV kd va ky M r k left V) ∧ okR M r (rpV kd va ky M r k left V)
  | 0, _, _, _, hR, hq => ⟨hq, hR⟩
  | k + 1, left, V, hl, hR, hq => by
    rw [rpV_s]
    split
    · exact ⟨hq, hR⟩
    · split
      · exact ⟨hq, hR⟩
      · rename_i c hc
        have hcl := lst_p hc
        have hcM := (hl c hcl).1
        have hcm := (hl c hcl).2
        obtain ⟨hlt, hR1, -⟩ := okR_1 (a := kd c) (b := va c) (k := ky c) hcM h8 hR hcm
        have hn : (V 7 r).toNatClampNeg = pcn (rn (V 1) r) := by rw [hR.2, nI_clamp (by have := pcn_le (x := rn (V 1) r); omega)]
        rw [hn]
        refine rp_ind Q h8 hQ k _ _ ?_ hR1 (hQ V c hcM hcm hR hq)
        intro o ho
        rw [tb_out (by omega)] at ho
        have ho' : tb left o = true ∧ ¬ o = c := by simpa using ho
        refine ⟨(hl o ho'.1).1, ?_⟩
        show tb (cAt (r1V (pcn (rn (V 1) r)) (kd c) (va c) (ky c) r c V 1) r (nI 3) (nI 3)) o = true
        rw [r1V_1 hlt, cm_set (by omega), (hl o ho'.1).2]
        simp [ho'.2]
theorem rps_ind {kd va : Nat → Int32} {ky : Nat → Nat} (Q : Vw → Prop) (h8 : M ≤ 8) (hQ : ∀ V c, c < M → cm (V 1) r c → okR M r V → Q V → Q (r1V (pcn (rn (V 1) r)) (kd c) (va c) (ky c) r c V)) : ∀ (k : Nat) (V : Vw), okR M r V → Q V → Q (rps kd va ky M r k (V, nI 0, z0)).1 ∧ okR M r (rps kd va ky M r k (V, nI 0, z0)).1
  | 0, _, hR, hq => ⟨hq, hR⟩
  | k + 1, V, hR, hq => by
    rw [rps_s]
    dsimp only
    split
    · exact ⟨hq, hR⟩
    · rename_i c hc
      have hcm : cm (V 1) r c := free_cm (lst_p hc)
      obtain ⟨h1, h2⟩ := rp_ind (kd := kd) (va := va) (ky := ky) Q h8 hQ 8 (prt (lns (V 1) (V 4) r z0) c) V (fun o ho => prt_cm hR.1 hcm ho) hR hq
      rw [(rps_can k _ ((lns_can (r := r) (f1 := V 1) (f4 := V 4) (f := z0) (fun _ _ => rfl)).2)).1]
      exact rps_ind Q h8 hQ k _ h2 h1
theorem okV_run (h : okV B G V) (hG : okG G) (hr : r < gN G) : okV B G (runV G V r) := by
  have g5 := hG.1.2
  exact (rps_ind (okV B G) hG.2.1.2 (fun V c hc hcm _ hq => okV_r1 hq hG hr hc hcm) 8 V (okV_R h (by omega)) h).1
theorem fnd_ok (h : okV B G V) (hG : okG G) (hX : okX G) (hc : c < gM G) (hBl : B + 1 < 2147483648) : (∃ b, b ≤ B + 1 ∧ (fdV G V x c).2.1 = nI b) ∧ ∀ o, tb (fdV G V x c).2.2 o = true → o < gM G := by
  have g8 := hG.2.1.2
  have g5 := hG.1.2
  obtain ⟨h0, h1, h2, h3, h4, h5', h6, h8', h9, h10, h11⟩ := h
  have cell : ∀ t, t < 5 → (∃ b, b ≤ B + 1 ∧ V 3 (8 * t + c) = nI b) ∧ ∀ o, tb (V 4 (8 * t + c)) o = true → o < gM G := fun t ht => ⟨by obtain ⟨b, hb, he⟩ := h3.2 (8 * t + c) (by omega); exact ⟨b, by omega, he⟩, h4.2 (8 * t + c) (by omega)⟩
  unfold fdV fnd
  split
  · rename_i t ht
    have h2' := (ff_some.mp ht).2.1
    rw [tb_and, tb_rW] at h2'
    exact cell t (by simp at h2'; exact h2'.1.1)
  · split
    · rename_i t ht
      exact cell t (by have := (lat_lt ht).1; omega)
    · split
      · rename_i t ht
        exact cell t (by have := (ff_some.mp ht).1; omega)
      · split
        · rw [mxs_f, ors_f]
          exact ⟨⟨0, by omega, rfl⟩, z_M⟩
        · obtain ⟨b0, hb0, he0⟩ := usq_B (m := rW (V 1) c (nI 1) (nI 1) &&& x) h3 (show B < 2147483648 by omega) (show c < 8 by omega)
          have hu := udp_M (m := rW (V 1) c (nI 1) (nI 1) &&& x) h4 (show c < 8 by omega)
          have key : ∀ n, n ≤ 5 → (∃ b, b ≤ B + 1 ∧ (cka n x (mxs 5 (tb (rW (V 1) c (nI 1) (nI 1) &&& x)) fun r => V 3 (8 * r + c), ors 5 (tb (rW (V 1) c (nI 1) (nI 1) &&& x)) fun r => V 4 (8 * r + c)) (fun r => bhd (V 3) (gM G) r (met (V 1) (G 5 c) (V 0 1) r)) (fun r => met (V 1) (G 5 c) (V 0 1) r)).1 = nI b) := by
            intro n
            induction n with
            | zero => intro _; exact ⟨b0, by omega, he0⟩
            | succ n ih =>
              intro hn
              obtain ⟨b, hb, he⟩ := ih (by omega)
              show ∃ b, b ≤ B + 1 ∧ (if tb x n = true then (mx (cka n x _ _ _).1 (bhd (V 3) (gM G) n (met (V 1) (G 5 c) (V 0 1) n)), _) else cka n x _ _ _).1 = nI b
              split
              · obtain ⟨b', hb', he'⟩ := bhd_B (m := met (V 1) (G 5 c) (V 0 1) n) (M := gM G) h3 hBl (show n < 5 by omega) g8
                dsimp only
                rw [he, he']
                unfold mx
                split
                · exact ⟨b', hb', rfl⟩
                · exact ⟨b, hb, rfl⟩
              · exact ⟨b, hb, he⟩
          refine ⟨key (gN G) g5, fun o ho => ?_⟩
          have ho' := (cka_tb (n := gN G) (am := x) (bh := fun r => bhd (V 3) (gM G) r (met (V 1) (G 5 c) (V 0 1) r)) (mt := fun r => met (V 1) (G 5 c) (V 0 1) r)).mp ho
          rcases ho' with q | ⟨i, _, _, q⟩
          · exact hu o q
          · exact met_M hX hc o q
theorem stb_B (h : AB B f) (hb : b ≤ B') (hB : B ≤ B') (hc : c < 8) (hN : N ≤ 5) : AB B' (stb N x (nI b) c f) := by
  unfold stb
  have key : ∀ n, n ≤ N → AB B' (lp (fun o f => if tb x o = true then upd f (8 * o + c) (nI b) else f) n f) := by
    intro n
    induction n with
    | zero => intro _; exact AB_mono h hB
    | succ n ih =>
      intro hn
      show AB B' (if tb x n = true then upd (lp _ n f) (8 * n + c) (nI b) else lp _ n f)
      split
      · exact AB_upd (ih (by omega)) (Nat.le_refl _) (by omega) hb
      · exact ih (by omega)
  exact key N (Nat.le_refl N)
/-- a step that can be answers something else than -1 -/
def isA (x : Int32) : Prop := ∃ b, b < 2147483648 ∧ x = nI b
theorem isA_ne (h : isA x) : ¬ x = -1 := by
  obtain ⟨b, hb, rfl⟩ := h
  intro z; rw [m1F hb] at z; exact z
/-- whether a step can be -/
def cnd (G : Gv) (V : Vw) (w c r : Nat) : Bool := match w with
  | 0 => tb (V 0 0) (gL G c) && unt (V 1) (V 2) (8 * gL G c + c)
  | 1 => askd (V 0 0) (V 1) (V 2) (gL G c) c && (decide (r ≠ gL G c) && (tb (V 0 0) r && unt (V 1) (V 2) (8 * r + c)))
  | 2 => askd (V 0 0) (V 1) (V 2) (gL G c) c && decide (mst (gN G) ≤ pcn (V 10 c))
  | 3 => accd (V 0 0) (V 1) (hst V c) c && (tb (V 0 0) r && (decide (V 1 (8 * r + c) < nI 3) && (decide (V 2 (8 * r + c) ≤ V 2 (8 * hst V c + c)) && !tb (V 11 c) r)))
  | 4 => accd (V 0 0) (V 1) (hst V c) c && decide (mst (gN G) ≤ pcn (V 11 c))
  | 5 => (ff 8 (tb (rW (V 1) c (nI 3) (nI 4) &&& V 0 0))).isSome && (tb (V 0 0) r && decide (V 1 (8 * r + c) < nI 3))
  | 6 => canRec (gN G) (V 0 0) (V 1) r c
  | 7 => tb (V 0 0) r
  | 8 => tb (V 0 0) r
  | 9 => !tb (V 0 0) r
  | _ => true
theorem okV_stp {w : Nat} (hw : w < 11) (h : okV B G V) (hG : okG G) (hX : okX G) (hc : w < 7 → c < gM G) (hr : (w % 2 = 1 ∨ w = 6 ∨ w = 8) → r < gN G) (hBl : B + 1 < 2147483648) : okV (B + 1) G (stp G V w c r).2 ∧ ((cnd G V w c r = false ∧ stp G V w c r = (-1, V)) ∨ (cnd G V w c r = true ∧ isA (stp G V w c r).1)) := by
  have g8 := hG.2.1.2
  have g5 := hG.1.2
  have hm := okV_mono h (show B ≤ B + 1 by omega)
  have h0 := h.1
  have h3 := h.2.2.2.1
  have h4 := h.2.2.2.2.1
  match w, hw with
  | 0, _ =>
    have hc := hc (by decide)
    have hL := (hG.2.2.1 c hc).2
    have hH := (h.2.2.2.2.2.2.2.2.1.2 c hc).2
    have h10 := h.2.2.2.2.2.2.2.2.2.1.2 c hc
    have h11 := h.2.2.2.2.2.2.2.2.2.2.2 c hc
    show okV (B + 1) G (stP G V c).2 ∧ ((cnd G V 0 c r = false ∧ stP G V c = _) ∨ (cnd G V 0 c r = true ∧ isA (stP G V c).1))
    unfold stP
    dsimp only
    split
    · rename_i hcond
      obtain ⟨b, hb, he⟩ := bhd_B (m := met (V 1) (G 5 c) (V 0 1) (gL G c)) (M := gM G) h3 hBl (show gL G c < 5 by omega) g8
      have hun : V 1 (8 * gL G c + c) = nI 0 := by
        rw [Bool.and_eq_true] at hcond; unfold unt at hcond; simp at hcond; exact hcond.2.1
      refine ⟨?_, Or.inr ⟨hcond, b, by omega, he⟩⟩
      have := okV_s3 (s := 1) h hG (show B ≤ B + 1 by omega) hL hc (by omega) (by rw [hun]; decide) ⟨b, hb, he⟩ (met_M (r := gL G c) (f := V 1) (cn0 := V 0 1) hX hc)
      have h2 := okV_10 this hG hc (sg_M (r := gL G c) (p := fun k => k < gN G) (by omega) hL)
      rw [s3_ne (by decide) (by decide) (by decide)] at h2
      exact h2
    · rename_i hcond
      exact ⟨hm, Or.inl ⟨Bool.eq_false_iff.mpr hcond, rfl⟩⟩
  | 1, _ =>
    have hc := hc (by decide)
    have hL := (hG.2.2.1 c hc).2
    have hH := (h.2.2.2.2.2.2.2.2.1.2 c hc).2
    have h10 := h.2.2.2.2.2.2.2.2.2.1.2 c hc
    have h11 := h.2.2.2.2.2.2.2.2.2.2.2 c hc
    have hr := hr (by decide)
    show okV (B + 1) G (stA G V c r).2 ∧ ((cnd G V 1 c r = false ∧ stA G V c r = _) ∨ (cnd G V 1 c r = true ∧ isA (stA G V c r).1))
    unfold stA
    dsimp only
    split
    · rename_i hcond
      obtain ⟨b, hb, he⟩ := bhd_B (m := met (V 1) (G 5 c) (V 0 1) r) (M := gM G) h3 hBl (show r < 5 by omega) g8
      obtain ⟨b2, hb2, he2⟩ := h3.2 (8 * gL G c + c) (by omega)
      have hun : V 1 (8 * r + c) = nI 0 := by
        simp only [Bool.and_eq_true] at hcond; unfold unt at hcond; simp at hcond; exact hcond.2.2.2.1
      have hmx : ∃ b, b ≤ B + 1 ∧ mx (V 3 (8 * gL G c + c)) (bhd (V 3) (gM G) r (met (V 1) (G 5 c) (V 0 1) r)) = nI b := by
        rw [he, he2]; unfold mx; split
        · exact ⟨b, hb, rfl⟩
        · exact ⟨b2, by omega, rfl⟩
      refine ⟨?_, Or.inr ⟨hcond, ?_⟩⟩
      · have := okV_s3 (s := 1) h hG (show B ≤ B + 1 by omega) hr hc (by omega) (by rw [hun]; decide) hmx (or_M (h4.2 (8 * gL G c + c) (by omega)) (met_M (r := r) (f := V 1) (cn0 := V 0 1) hX hc))
        have h2 := okV_10 this hG hc (or_M h10 (sg_M (r := r) (p := fun k => k < gN G) (by omega) hr))
        rw [s3_ne (by decide) (by decide) (by decide)] at h2
        exact h2
      · unfold bI; split
        · exact ⟨1, by omega, rfl⟩
        · exact ⟨0, by omega, rfl⟩
    · rename_i hcond
      exact ⟨hm, Or.inl ⟨Bool.eq_false_iff.mpr hcond, rfl⟩⟩
  | 2, _ =>
    have hc := hc (by decide)
    have hL := (hG.2.2.1 c hc).2
    have hH := (h.2.2.2.2.2.2.2.2.1.2 c hc).2
    have h10 := h.2.2.2.2.2.2.2.2.2.1.2 c hc
    have h11 := h.2.2.2.2.2.2.2.2.2.2.2 c hc
    show okV (B + 1) G (stD G V c).2 ∧ ((cnd G V 2 c r = false ∧ stD G V c = _) ∨ (cnd G V 2 c r = true ∧ isA (stD G V c).1))
    unfold stD
    dsimp only
    split
    · rename_i hcond
      have hun : V 1 (8 * gL G c + c) = nI 1 := by
        rw [Bool.and_eq_true] at hcond; unfold askd at hcond; simp at hcond; exact hcond.1.2.1
      have hne : ¬ V 1 (8 * gL G c + c) = nI 4 := by rw [hun]; decide
      split
      · exact ⟨okV_1 (s := 3) hm hG hL hc (by omega) hne, Or.inr ⟨hcond, 1, by omega, rfl⟩⟩
      · obtain ⟨b, hb, he⟩ := usq_B (m := V 10 c) h3 (show B < 2147483648 by omega) (show c < 8 by omega)
        refine ⟨?_, Or.inr ⟨hcond, 0, by omega, rfl⟩⟩
        have := okV_s3 (s := 2) h hG (show B ≤ B + 1 by omega) hL hc (by omega) hne ⟨b, by omega, he⟩ (udp_M (m := V 10 c) h4 (show c < 8 by omega))
        have h2 := okV_11 this hG hc (sg_M (r := gL G c) (p := fun k => k < gN G) (by omega) hL)
        rw [s3_ne (by decide) (by decide) (by decide)] at h2
        exact h2
    · rename_i hcond
      exact ⟨hm, Or.inl ⟨Bool.eq_false_iff.mpr hcond, rfl⟩⟩
  | 3, _ =>
    have hc := hc (by decide)
    have hL := (hG.2.2.1 c hc).2
    have hH := (h.2.2.2.2.2.2.2.2.1.2 c hc).2
    have h10 := h.2.2.2.2.2.2.2.2.2.1.2 c hc
    have h11 := h.2.2.2.2.2.2.2.2.2.2.2 c hc
    have hr := hr (by decide)
    show okV (B + 1) G (stC V c r).2 ∧ ((cnd G V 3 c r = false ∧ stC V c r = _) ∨ (cnd G V 3 c r = true ∧ isA (stC V c r).1))
    unfold stC
    dsimp only
    split
    · rename_i hcond
      have hlt : V 1 (8 * r + c) < nI 3 := by
        simp only [Bool.and_eq_true, decide_eq_true_eq] at hcond; exact hcond.2.2.1
      refine ⟨?_, Or.inr ⟨hcond, _, by have := pcn_le (x := V 11 c ||| sg r); omega, rfl⟩⟩
      have hH' : hst V c < gN G := hH
      obtain ⟨b, hb, he⟩ := h3.2 (8 * hst V c + c) (by omega)
      obtain ⟨b2, hb2, he2⟩ := h.2.2.1.2 (8 * hst V c + c) (by omega)
      have t1 := okV_s3 (s := 2) h hG (show B ≤ B + 1 by omega) hr hc (by omega) (st_T h (by omega) hlt) ⟨b, by omega, he⟩ (h4.2 (8 * hst V c + c) (by omega))
      have t2 := okV_2 (f := upd (V 2) (8 * r + c) (V 2 (8 * hst V c + c))) t1 (by rw [he2]; exact AB_upd h.2.2.1 (show B ≤ B + 1 by omega) (by omega) (by omega)) (Nat.le_refl _)
      have t3 := okV_11 t2 hG hc (or_M h11 (sg_M (r := r) (p := fun k => k < gN G) (by omega) hr))
      rw [st_ne (by decide), s3_ne (by decide) (by decide) (by decide)] at t3
      exact t3
    · rename_i hcond
      exact ⟨hm, Or.inl ⟨Bool.eq_false_iff.mpr hcond, rfl⟩⟩
  | 4, _ =>
    have hc := hc (by decide)
    have hL := (hG.2.2.1 c hc).2
    have hH := (h.2.2.2.2.2.2.2.2.1.2 c hc).2
    have h10 := h.2.2.2.2.2.2.2.2.2.1.2 c hc
    have h11 := h.2.2.2.2.2.2.2.2.2.2.2 c hc
    show okV (B + 1) G (stS G V c).2 ∧ ((cnd G V 4 c r = false ∧ stS G V c = _) ∨ (cnd G V 4 c r = true ∧ isA (stS G V c).1))
    unfold stS
    dsimp only
    split
    · rename_i hcond
      have hun : V 1 (8 * hst V c + c) = nI 2 := by
        rw [Bool.and_eq_true] at hcond; unfold accd at hcond; simp at hcond; exact hcond.1.2
      exact ⟨okV_1 (s := 3) hm hG hH hc (by omega) (by rw [hun]; decide), Or.inr ⟨hcond, 1, by omega, rfl⟩⟩
    · rename_i hcond
      exact ⟨hm, Or.inl ⟨Bool.eq_false_iff.mpr hcond, rfl⟩⟩
  | 5, _ =>
    have hc := hc (by decide)
    have hL := (hG.2.2.1 c hc).2
    have hH := (h.2.2.2.2.2.2.2.2.1.2 c hc).2
    have h10 := h.2.2.2.2.2.2.2.2.2.1.2 c hc
    have h11 := h.2.2.2.2.2.2.2.2.2.2.2 c hc
    have hr := hr (by decide)
    show okV (B + 1) G (stT V c r).2 ∧ ((cnd G V 5 c r = false ∧ stT V c r = _) ∨ (cnd G V 5 c r = true ∧ isA (stT V c r).1))
    unfold stT
    split
    · rename_i t ht
      have ht5 : t < 5 := by
        have h2' := (ff_some.mp ht).2.1
        rw [tb_and, tb_rW] at h2'
        simp at h2'; exact h2'.1.1
      split
      · rename_i hcond
        have hlt : V 1 (8 * r + c) < nI 3 := by
          simp only [Bool.and_eq_true, decide_eq_true_eq] at hcond; exact hcond.2
        obtain ⟨b, hb, he⟩ := h3.2 (8 * t + c) (by omega)
        exact ⟨okV_s3 (s := 3) h hG (show B ≤ B + 1 by omega) hr hc (by omega) (st_T h (by omega) hlt) ⟨b, by omega, he⟩ (h4.2 (8 * t + c) (by omega)), Or.inr ⟨by show ((ff 8 _).isSome && _) = true; rw [ht, hcond]; rfl, 1, by omega, rfl⟩⟩
      · rename_i hcond
        exact ⟨hm, Or.inl ⟨by show ((ff 8 _).isSome && _) = false; rw [Bool.eq_false_iff.mpr hcond]; simp, rfl⟩⟩
    · rename_i hno
      exact ⟨hm, Or.inl ⟨by show ((ff 8 _).isSome && _) = false; rw [hno]; rfl, rfl⟩⟩
  | 6, _ =>
    have hc := hc (by decide)
    have hL := (hG.2.2.1 c hc).2
    have hH := (h.2.2.2.2.2.2.2.2.1.2 c hc).2
    have h10 := h.2.2.2.2.2.2.2.2.2.1.2 c hc
    have h11 := h.2.2.2.2.2.2.2.2.2.2.2 c hc
    have hr := hr (by decide)
    show okV (B + 1) G (stR G V c r).2 ∧ ((cnd G V 6 c r = false ∧ stR G V c r = _) ∨ (cnd G V 6 c r = true ∧ isA (stR G V c r).1))
    unfold stR
    split
    · rename_i hcond
      have hlt : V 1 (8 * r + c) < nI 3 := by
        unfold canRec at hcond; simp only [Bool.and_eq_true, decide_eq_true_eq] at hcond; exact hcond.2.1
      have hfd := fnd_ok (x := V 0 0) h hG hX hc hBl
      have hle : (fdV G V (V 0 0) c).1 ≤ 4 := fnd_le
      generalize fdV G V (V 0 0) c = zz at *
      dsimp only
      refine ⟨?_, Or.inr ⟨hcond, zz.1, by omega, rfl⟩⟩
      obtain ⟨b2, hb2, he2⟩ := mxs_B (n := gN G) (p := tb (V 0 0)) (f := fun o => V 2 (8 * o + c)) (B := B) (fun i hi => h.2.2.1.2 (8 * i + c) (by omega)) (by omega)
      have hmb : mxb (gN G) (V 0 0) (V 2) c + nI 1 = nI (b2 + 1) := by unfold mxb; rw [he2, nI_add]
      rw [hmb]
      have t1 := okV_2 h (stb_B (x := V 0 0) (N := gN G) h.2.2.1 (show b2 + 1 ≤ B + 1 by omega) (by omega) (show c < 8 by omega) g5) (show B ≤ B + 1 by omega)
      have t2 := okV_9 t1 hG hc hr
      rw [st_ne (by decide)] at t2
      have t3 := okV_10 t2 hG hc (z_M (p := fun k => k < gN G))
      rw [st_ne (by decide), st_ne (by decide)] at t3
      have t4 := okV_11 (x := if zz.1 = 4 then nI 0 else sg r) t3 hG hc (by
        split
        · exact z_M (p := fun k => k < gN G)
        · exact sg_M (r := r) (p := fun k => k < gN G) (by omega) hr)
      rw [st_ne (by decide), st_ne (by decide), st_ne (by decide)] at t4
      have hst1 : ¬ st (st (st (st V 2 (stb (gN G) (V 0 0) (nI (b2 + 1)) c (V 2))) 9 (upd (V 9) c (nI r))) 10 (upd (V 10) c (nI 0))) 11 (upd (V 11) c (if zz.1 = 4 then nI 0 else sg r)) 1 (8 * r + c) = nI 4 := by
        rw [st_ne (by decide), st_ne (by decide), st_ne (by decide), st_ne (by decide)]; exact st_T h (by omega) hlt
      by_cases hz : zz.1 = 4
      · have t5 := okV_s3 (s := 3) t4 hG (Nat.le_refl _) hr hc (by omega) hst1 hfd.1 hfd.2
        simp only [hz, ↓reduceIte] at t5 ⊢
        exact t5
      · have t5 := okV_s3 (s := 2) t4 hG (Nat.le_refl _) hr hc (by omega) hst1 hfd.1 hfd.2
        simp only [hz, ↓reduceIte] at t5 ⊢
        exact t5
    · rename_i hcond
      exact ⟨hm, Or.inl ⟨Bool.eq_false_iff.mpr hcond, rfl⟩⟩
  | 7, _ =>
    have hr := hr (by decide)
    show okV (B + 1) G (stX G V r).2 ∧ ((cnd G V 7 c r = false ∧ stX G V r = _) ∨ (cnd G V 7 c r = true ∧ isA (stX G V r).1))
    unfold stX
    split
    · rename_i hcond
      have hrun := okV_run h hG hr
      refine ⟨okV_mono hrun (by omega), Or.inr ⟨hcond, ?_⟩⟩
      have hR := okV_R h (show r < 5 by omega)
      obtain ⟨hge, hR2⟩ := rps_ind (kd := G 1) (va := G 3) (ky := gK G) (fun W => pcn (rn (V 1) r) ≤ pcn (rn (W 1) r)) g8 (fun W c hc hcm hW hq => by
        have := (okR_1 (a := G 1 c) (b := G 3 c) (k := gK G c) hc g8 hW hcm).2.2
        rw [this]; exact Nat.le_succ_of_le hq) 8 V hR (Nat.le_refl _)
      have e1 : runV G V r 7 r = nI (pcn (rn (runV G V r 1) r)) := hR2.2
      have hp := pcn_le (x := rn (runV G V r 1) r)
      refine ⟨pcn (rn (runV G V r 1) r) - pcn (rn (V 1) r), Nat.lt_of_le_of_lt (Nat.le_trans (Nat.sub_le _ _) hp) (by decide), ?_⟩
      show runV G V r 7 r - V 7 r = _
      rw [e1, hR.2]
      exact pk_sub hge
    · rename_i hcond
      exact ⟨hm, Or.inl ⟨Bool.eq_false_iff.mpr hcond, rfl⟩⟩
  | 8, _ =>
    have hr := hr (by decide)
    show okV (B + 1) G (stU V r true).2 ∧ ((cnd G V 8 c r = false ∧ stU V r true = _) ∨ (cnd G V 8 c r = true ∧ isA (stU V r true).1))
    unfold stU
    split
    · rename_i hcond
      refine ⟨okV_0 hm (fun k hk => ?_), Or.inr ⟨hcond, 1, by omega, rfl⟩⟩
      rw [tb_xor, tb_sg (by omega)] at hk
      by_cases hkr : k = r
      · omega
      · refine h0.2.1 k ?_
        simpa [hkr] using hk
    · rename_i hcond
      exact ⟨hm, Or.inl ⟨Bool.eq_false_iff.mpr hcond, rfl⟩⟩
  | 9, _ =>
    have hr := hr (by decide)
    show okV (B + 1) G (stU V r false).2 ∧ ((cnd G V 9 c r = false ∧ stU V r false = _) ∨ (cnd G V 9 c r = true ∧ isA (stU V r false).1))
    unfold stU
    split
    · rename_i hcond
      refine ⟨okV_0 hm (fun k hk => ?_), Or.inr ⟨by show (!tb (V 0 0) r) = true; rw [hcond]; rfl, 1, by omega, rfl⟩⟩
      rw [tb_xor, tb_sg (by omega)] at hk
      by_cases hkr : k = r
      · omega
      · refine h0.2.1 k ?_
        simpa [hkr] using hk
    · rename_i hcond
      exact ⟨hm, Or.inl ⟨by show (!tb (V 0 0) r) = false; cases hq : tb (V 0 0) r; exact absurd hq hcond; rfl, rfl⟩⟩
  | 10, _ =>
    show okV (B + 1) G (stL G V).2 ∧ ((cnd G V 10 c r = false ∧ stL G V = _) ∨ (cnd G V 10 c r = true ∧ isA (stL G V).1))
    unfold stL
    dsimp only
    refine ⟨?_, Or.inr ⟨rfl, _, by have := pcn_le (x := clnd (gM G) (gN G) (G 4) (V 1) (V 0 1) &&& (V 0 1 ^^^ (-1))); omega, rfl⟩⟩
    obtain ⟨h0, h1, h2, h3, h4, h5', h6, h8', h9, h10, h11⟩ := hm
    unfold okV
    simp (discharger := omega) only [st_ne, st_eq]
    exact ⟨A0_1 h0 (clnd_lt g8 h0.2.2), h1, h2, h3, A4_and h4 40 (Nat.le_refl _), h5', h6, h8', h9, h10, h11⟩
end KP
