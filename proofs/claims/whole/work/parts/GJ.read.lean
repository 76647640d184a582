/-! order, work, group, from the relation; written by wip/gen/gtwo.py -/
set_option maxRecDepth 8192
section CD
variable {L : Nat} {xs : Nat → Int32} {d e p B n m mw ms nx mn a b c j F K1 : Nat} {P : Option Value → Hp → Prop} {I I' I1 I2 : Mi} {J J' J1 J2 : Mj} {R R1 R2 : Mr} {Z : Mz} {l5 l6 : Option Value} {v : Int32} {W : Vw} {Q : Wq} {S : Sq} {U : Uq} {g : Nat → Nat}
theorem RR_thJ {x : Int32} (h : RR B I J) (hJ : ∀ c, c < 8 → J' 82 c = J 82 c ∧ J' 423 c = J 423 c) : RR (B + 1) (st I 420 (upd (I 420) 0 x)) J' := by
  have hc : CN I := by obtain ⟨n, W, mw, Q, ms, S, nx, mn, U, a1, a2, a3, a4, a5⟩ := h; exact a4
  refine RR_cg h (by omega) (fun a q _ _ _ => st_ne q) (by rw [st_eq, upd_ne (by decide)]) (by rw [st_eq, upd_ne (by decide)]) (CN_cg hc (fun a q1 q2 => st_ne (by omega)) (st_ne (by decide)) (st_ne (by decide))) hJ
theorem lg_self {x : Int64} : lg_cmp x x = nI 0 := by
  unfold lg_cmp
  simp
  rfl
theorem m_thrown : Wp L xs d 172 0 [some (.ref (420))] [] (mk I J R Z) P = P (some (.int (I 420 0))) (mk I J R Z) := by
  simp only [↓w172_0, ↓w172_1, ↓w172_4, g420_0]
theorem or_t {v : Int32} : ip_or (some (.int v), mk I J R Z) 458 = some (.int 0, mk I (st J 458 (vp_updL (J 458) 0 v.toInt64)) R Z) := by
  have e1 : ip_arr (mk I J R Z) 458 = some (1, 1, .inr (.inl (J 458))) := ar_mk (s := (1, 1, [])) (by decide) rfl rfl
  unfold ip_or
  rw [e1]
  show some (Value.int 0, ip_put (mk I J R Z) 458 (.inl (1, 1, .inr (.inl (vp_updL (J 458) 0 v.toInt64))))) = _
  rw [mk_put (a := 458) (s := (1, 1, [])) (I' := I) (J' := st J 458 (vp_updL (J 458) 0 v.toInt64)) (R' := R) (by decide) rfl (fun b hb => ⟨rfl, st_ne hb, rfl⟩) (by show _ = Sum.inl (1, 1, Sum.inr (Sum.inl (st J 458 _ 458))); rw [st_eq])]
theorem or_f : ip_or (some (.retAddr 7), mk I J R Z) 458 = some (.int 1, mk I J R (Z.1 ++ [.inr (12, [])], Z.2 + 6)) := by
  show some (Value.int 1, ((mk I J R Z).1 ++ [.inr (12, [])], (mk I J R Z).2 + 6)) = _
  unfold mk
  rw [List.append_assoc]
theorem ca532 (h : RR B I J) (hB : B ≤ 512) (hp : p + 7 ≤ L) (hL : L ≤ 3584) (hn : ∀ l5 l6 I' J' R' Z', RR (B + 1) I' J' → Z'.1.length ≤ Z.1.length + 1 → Z'.2 ≤ Z.2 + 6 → Wp L xs (e + 21) 0 1738 [some (.ref 31), some (.ref 64), some (.ref 420), some (.ref 458), some (.int (nI p)), l5, l6] [] (mk I' J' R' Z') P) : Wp L xs (e + 21) 0 532 [some (.ref 31), some (.ref 64), some (.ref 420), some (.ref 458), some (.int (nI p)), l5, l6] [] (mk I J R Z) P := by
  obtain ⟨n, W, mw, Q, ms, S, nx, mn, U, tp, gp, s, cn, wk, se, hi, mh⟩ := id h
  obtain ⟨hG, hX, hag, h35, ⟨K, hK4, hK⟩, h80, hNm⟩ := gp
  have hV := s.1
  have hs := s.2.2
  have hM8 : gM (gI I) ≤ 8 := hG.2.1.2
  have hN5 : gN (gI I) ≤ 5 := hG.1.2
  have hG2 := ag_okG hag hG
  have hX2 := ag_okX hag hX
  have hV2 := ag_okV hag (sm_ok hs hV)
  have hk := fun P => k_order (L := L) (xs := xs) (d := e + 18) (I := I) (J := J) (R := R) (Z := Z) (P := P) (x := xs (p + 1)) (y := xs (p + 2)) hG (fun r hr => okV_7n hV hr)
  obtain ⟨c1, c2⟩ := canO_eq (x := xs (p + 1)) (y := xs (p + 2)) hag hs
  simp (discharger := omega) only [↓w0_532, ↓w0_533, ↓w0_534, ↓w0_536, ↓w0_537, ↓w0_538, ↓w0_539, ↓w0_540, ↓w0_542, ↓w0_543, ↓w0_544, ↓w0_545, ↓gi31, nI_add]
  by_cases hc : canO (gI I) (vw I 102) (xs (p + 1)) (xs (p + 2)) = true
  · simp only [if_pos hc] at hk
    rw [w0_546 (d := e + 19) (by omega) rc64 hk or_t]
    have hm := fun P => m_order (L := L) (xs := xs) (d := e + 19) (I := I) (J := st J 458 (vp_updL (J 458) 0 (vOrd (vw I 102) (xs (p + 1)) (xs (p + 2))).toInt64)) (R := R) (Z := Z) (P := P) (V := W) (x := xs (p + 1)) (y := xs (p + 2)) hG2 (fun r hr => okV_7n hV2 hr)
    simp only [c1, c2, if_pos hc, pmS s, pmT s] at hm
    have e0 : st I 420 (upd (I 420) 0 (nI 0)) 420 0 = nI 0 := by rw [st_eq, upd_eq]
    have e1 : st J 458 (vp_updL (J 458) 0 (vOrd (vw I 102) (xs (p + 1)) (xs (p + 2))).toInt64) 458 0 = (vOrd (vw I 102) (xs (p + 1)) (xs (p + 2))).toInt64 := by rw [st_eq]; exact if_pos rfl
    have i1 : (ip_in (nI 0) 1 = true) = True := eq_true (by decide)
    simp (discharger := omega) only [↓w0_549, ↓w0_551, ↓w0_552, ↓w0_553, ↓w0_555, ↓w0_556, ↓w0_557, ↓w0_558, ↓w0_559, ↓w0_561, ↓w0_562, ↓w0_563, ↓w0_564, ↓w0_567, ↓w0_569, ↓w0_570, ↓w0_573, ↓w0_575, ↓w0_580, ↓w0_582, ↓w0_585, ↓w0_586, ↓w0_587, ↓w0_588, ↓w0_590, ↓w0_591, ↓w0_592, ↓w0_597, ↓gi31, nI_add, rc420, true_and, ↓kc_i, ↓hm, ↓m_thrown, e0, show (0 : Int32) = nI 0 from rfl, ↓reduceIte, eq_self, gl458, i1, nI_clamp, e1, lg_self, frT1, frT2, frT3]
    exact hn _ _ _ _ _ _ (RR_thJ h fun c _ => ⟨by rw [st_ne (by decide)], by rw [st_ne (by decide)]⟩) (by omega) (by omega)
  · simp only [if_neg hc] at hk
    rw [w0_546 (d := e + 19) (by omega) rc64 hk or_f]
    have hm := fun P => m_order (L := L) (xs := xs) (d := e + 19) (I := I) (J := J) (R := R) (Z := (Z.1 ++ [.inr (12, [])], Z.2 + 6)) (P := P) (V := W) (x := xs (p + 1)) (y := xs (p + 2)) hG2 (fun r hr => okV_7n hV2 hr)
    simp only [c1, c2, if_neg hc, pmS s, pmT s] at hm
    have e0 : st I 420 (upd (I 420) 0 (nI 1)) 420 0 = nI 1 := by rw [st_eq, upd_eq]
    have e2 : ((1 : Int32) = nI 0) = False := eq_false (by decide)
    have e3 : (nI 1 = (1 : Int32)) = True := eq_true (by decide)
    simp (discharger := omega) only [↓w0_549, ↓w0_551, ↓w0_552, ↓w0_553, ↓w0_555, ↓w0_556, ↓w0_557, ↓w0_558, ↓w0_559, ↓w0_561, ↓w0_562, ↓w0_563, ↓w0_564, ↓w0_567, ↓w0_569, ↓w0_570, ↓w0_573, ↓w0_575, ↓w0_580, ↓w0_582, ↓w0_597, ↓gi31, nI_add, rc420, true_and, ↓kc_i, ↓hm, ↓m_thrown, e0, e2, e3, ↓reduceIte, eq_self, frT1, frT2, frT3]
    exact hn _ _ _ _ _ _ (RR_thJ h fun c _ => ⟨rfl, rfl⟩) (by simp) (by simp)
theorem TP_g (tp : TP n I) : ∃ g, sgT I g n := by
  refine ⟨fun k => (I 66 k).toNatClampNeg, fun k hk => ?_⟩
  obtain ⟨c, h1, h2⟩ := tp.2.2.2.2 k hk
  have : c ≤ 126 := by
    unfold okc at h2
    simp at h2
    omega
  show I 66 k = nI (I 66 k).toNatClampNeg ∧ okc (I 66 k).toNatClampNeg = true
  rw [h1, nI_clamp (by omega)]
  exact ⟨rfl, h2⟩
theorem ca396 (h : RR B I J) (hB : B ≤ 512) (hK1 : K1 = 1000) (hp : p + 7 ≤ L) (hL : L ≤ 3584) (hn : ∀ I' J' R', RR (B + 1) I' J' → Wp L xs (e + 21) 0 1738 [some (.ref 31), some (.ref 64), some (.ref 420), some (.ref 458), some (.int (nI p)), l5, l6] [] (mk I' J' R' Z) P) : Wp L xs (e + 21) 0 396 [some (.ref 31), some (.ref 64), some (.ref 420), some (.ref 458), some (.int (nI p)), l5, l6] [] (mk I J R Z) P := by
  obtain ⟨n, W, mw, Q, ms, S, nx, mn, U, tp, gp, s, cn, wk, se, hi, mh⟩ := id h
  obtain ⟨hG, hX, hag, h35, ⟨K, hK4, hK⟩, h80, hNm⟩ := gp
  have hV := s.1
  have hs := s.2.2
  have hM8 : gM (gI I) ≤ 8 := hG.2.1.2
  have hG2 := ag_okG hag hG
  have hX2 := ag_okX hag hX
  have hV2 := ag_okV hag (sm_ok hs hV)
  have hN5 : gN (gI I) ≤ 5 := hG.1.2
  obtain ⟨g, hsg⟩ := TP_g tp
  obtain ⟨I1, J1, R1, ⟨a1, a2, a3, a4, a5⟩, hk⟩ := k_work (L := L) (xs := xs) (d := e + 11) (I := I) (J := J) (R := R) (Z := Z) (Q := Q) tp.1 tp.2.2.1 hsg hK1 hG.1.1 (by omega) hG.2.1.1 hM8
  have hC : ∀ a, ¬ wkS a → (a < 90 ∨ 93 < a) → I1 a = I a := fun a q1 q2 => by
    by_cases hz : (wkR g n (gN (gI I)) (J 82) (gM (gI I)) K1 0 Q 0).2.2 = 0
    · exact (a4 hz).2.2 a q1 q2
    · exact a3 hz a q1
  have hC4 : ∀ a, 420 ≤ a → I1 a = I a := fun a q => hC a (by unfold wkS; omega) (by omega)
  obtain ⟨I2, J2, ⟨⟨c1, c2, c3, c4, c5, c6, c7, c8⟩, cf, cs⟩, hm⟩ := m_work (L := L) (xs := xs) (d := e + 16) (I := I1) (J := J1) (R := R1) (Z := Z) (Q := Q) (g := g) (A := J 82) (N := gN (gI I)) (M := gM (gI I)) tp.2.2.1 hK1 (by rw [hC4 420 (by omega)]; exact tp.2.1) (fun k hk => by rw [hC4 421 (by omega), ← tp.2.2.2.1]; exact hsg k hk) (by rw [hC4 422 (by omega)]; exact (hag.1 0 (by decide)).symm.trans hG.1.1) (by omega) (by rw [hC4 422 (by omega)]; exact (hag.1 2 (by decide)).symm.trans hG.2.1.1) hM8 (fun c hc => by rw [a5 423 (by decide)]; exact hNm c hc)
  refine cs396 hp hL hk hm (hn _ _ _ ?_)
  have f1 : ∀ a, a ≠ 420 → (a < 443 ∨ 446 < a) → ¬ wkS a → (a < 90 ∨ 93 < a) → I2 a = I a := fun a q1 q2 q3 q4 => by rw [c1 a q1 q2, hC a q3 q4]
  have f2 : ∀ a, a ≠ 420 → (a < 443 ∨ 446 < a) → ((76 ≤ a ∧ a < 90) ∨ 98 ≤ a) → I2 a = I a := fun a q1 q2 q3 => f1 a q1 q2 (by unfold wkS; omega) (by omega)
  have hg : agG (gI I) (gI I2) := gI_cg fun a q1 q2 => f2 a (by omega) (by omega) (by omega)
  have hmF : mG I2 = mG I := mG_cg (f2 _ (by omega) (by omega) (by omega)) (fun a q1 q2 => f2 _ (by omega) (by omega) (by omega)) (f2 _ (by omega) (by omega) (by omega))
  have hT : TP 0 I2 := ⟨by rw [c1 65 (by omega) (by omega)]; exact a1, c6, by omega, by rw [f1 66 (by omega) (by omega) (by unfold wkS; omega) (by omega), f2 421 (by omega) (by omega) (by omega)]; exact tp.2.2.2.1, fun k q => absurd q (by omega)⟩
  have hW : ∃ mw' Q', WK I2 90 0 mw' Q' := by
    by_cases hz : (wkR g n (gN (gI I)) (J 82) (gM (gI I)) K1 0 Q 0).2.2 = 0
    · refine ⟨_, _, WoC_cg (fun a ha => c1 _ (by omega) (by omega)) (a4 hz).1, (cs hz).1, ?_⟩
      rw [← ag_N hg, ← ag_M hg]
      exact (cs hz).2
    · obtain ⟨z1, z2⟩ := cf hz
      refine ⟨mw, Q, WK_cg wk hg (fun a ha => ?_) (by rw [z1, hC4 443 (by omega)]) (fun a k q1 q2 q3 => by rw [z2 a q1 q2 _ (by omega), hC4 a (by omega)])⟩
      rw [c1 _ (by omega) (by omega), a3 hz _ (by unfold wkS; omega)]
  obtain ⟨mw', Q', hW⟩ := hW
  refine RR_fr h (by omega) hT hW (SE_cg se hg (fun a ha => f2 _ (by omega) (by omega) (by omega)) (fun a q1 q2 => f2 a (by omega) (by omega) (by omega))) (CN_cg cn (fun a q1 q2 => f2 _ (by omega) (by omega) (by omega)) (f2 _ (by omega) (by omega) (by omega)) (f2 _ (by omega) (by omega) (by omega))) (fun a q => f2 _ (by omega) (by omega) (by omega)) (by rw [hmF]; exact ag_rf) (f2 _ (by omega) (by omega) (by omega)) (f2 _ (by omega) (by omega) (by omega)) (f2 _ (by omega) (by omega) (by omega)) (f2 _ (by omega) (by omega) (by omega)) (by rw [c4 47 (by decide) (by decide) (by decide) (by decide) (by decide) (by decide) (by decide) (by decide) (by decide), hC4 420 (by omega)]) (fun j m S _ _ hS => SeM_cg hS fun a q1 q2 => f2 a (by omega) (by omega) (by omega)) (fun j q1 q2 => by rw [c2 j (by omega) (by omega), hC4 443 (by omega)]) (fun a k q1 q2 q3 q4 => by rw [c3 a q1 q2 k q3 q4, hC4 a (by omega)]) (fun c _ => ⟨by rw [c7 82 (by decide), a5 82 (by decide)], by rw [c7 423 (by decide), a5 423 (by decide)]⟩)
theorem WD_0 : WD g n F (0, 0, 0, fun _ => 0, 0) := ⟨Or.inl rfl, by decide, by decide, fun c hc => absurd hc (Nat.not_lt_zero c), fun q => absurd rfl q⟩
theorem ca383 (h : RR B I J) (hB : B ≤ 512) (hF : 29 < F) (hK1 : K1 = 1000) (hp : p + 7 ≤ L) (hL : L ≤ 3584) (hn : ∀ I' J' R', RR (B + 1) I' J' → Wp L xs (e + 2 * F + 21) 0 1738 [some (.ref 31), some (.ref 64), some (.ref 420), some (.ref 458), some (.int (nI p)), l5, l6] [] (mk I' J' R' Z) P) : Wp L xs (e + 2 * F + 21) 0 383 [some (.ref 31), some (.ref 64), some (.ref 420), some (.ref 458), some (.int (nI p)), l5, l6] [] (mk I J R Z) P := by
  obtain ⟨n, W, mw, Q, ms, S, nx, mn, U, tp, gp, s, cn, wk, se, hi, mh⟩ := id h
  obtain ⟨hG, hX, hag, h35, ⟨K, hK4, hK⟩, h80, hNm⟩ := gp
  have hV := s.1
  have hs := s.2.2
  have hM8 : gM (gI I) ≤ 8 := hG.2.1.2
  have hG2 := ag_okG hag hG
  have hX2 := ag_okX hag hX
  have hV2 := ag_okV hag (sm_ok hs hV)
  have hN5 : gN (gI I) ≤ 5 := hG.1.2
  obtain ⟨g, hsg⟩ := TP_g tp
  obtain ⟨I1, J1, R1, ⟨a1, a2, a3, a4⟩, hk⟩ := k_group (L := L) (xs := xs) (d := e + 11) (I := I) (J := J) (R := R) (Z := Z) tp.1 tp.2.2.1 hsg hF hK1 h80 (okV_cS hV)
  rw [show e + 11 + 2 * F + 9 = e + 2 * F + 20 by omega] at hk
  have hC4 : ∀ a, 420 ≤ a → I1 a = I a := fun a q => by
    by_cases hz : (gR g n F K1 (0, 0, 0, fun _ => 0, 0) 0).2.2 = 0
    · exact (a4 hz).2.2.2.2.2.1 a (by unfold rdS; omega) (by unfold grS; omega)
    · exact (a3 hz).1 a (by unfold rdS; omega)
  have hC66 : I1 66 = I 66 := by
    by_cases hz : (gR g n F K1 (0, 0, 0, fun _ => 0, 0) 0).2.2 = 0
    · exact (a4 hz).2.2.2.2.2.1 66 (by unfold rdS; omega) (by unfold grS; omega)
    · exact (a3 hz).1 66 (by unfold rdS; omega)
  obtain ⟨I2, J2, ⟨⟨b1, b2, b3, b4, b5, b6, b7, b8, b9⟩, bf, bs⟩, hm⟩ := m_group (L := L) (xs := xs) (d := e + 2 * F + 14) (I := I1) (J := J1) (R := R1) (Z := Z) (V := W) (g := g) tp.2.2.1 hF hK1 (by rw [hC4 420 (by omega)]; exact tp.2.1) (fun k hk => by rw [hC4 421 (by omega), ← tp.2.2.2.1]; exact hsg k hk) (by rw [hC4 451 (by omega)]; exact s.2.1)
  refine cs383 (e := e + 2 * F) hp hL hk hm (hn _ _ _ ?_)
  have hT : TP 0 I2 := ⟨by rw [b1 65 (by omega)]; exact a1, b7, by omega, by rw [b1 66 (by omega), b2, hC66, hC4 421 (by omega)]; exact tp.2.2.2.1, fun k q => absurd q (by omega)⟩
  by_cases hz : (gR g n F K1 (0, 0, 0, fun _ => 0, 0) 0).2.2 = 0
  · obtain ⟨z1, z2, ⟨z3, z4, z5⟩, z6, z7, z8, z9⟩ := a4 hz
    obtain ⟨y1, y2, y3, y4, y5, y6⟩ := bs hz
    have hW := gR_wd K1 (0, 0, 0, fun _ => 0, 0) 0 WD_0 hz
    generalize (gR g n F K1 (0, 0, 0, fun _ => 0, 0) 0).1 = D at z1 z2 y1 hW
    obtain ⟨d1, d2, d3, d4⟩ := gI_D z1 hW
    obtain ⟨d5, d6⟩ := agG_D z1 y1 hW
    obtain ⟨d7, d8⟩ := fr_D z1 y1 hW z7
    have f1 : ∀ a, a < 420 → ¬ rdS a → ¬ grS a → I2 a = I a := fun a q1 q2 q3 => by rw [b1 a q1, z8 a q2 q3]
    have hg : agG (gI I1) (gI I2) := gI_cg fun a q1 q2 => b1 a (by omega)
    have hVe : ∀ j, j < 12 → frs D.1 (I1 80) j = vw I2 102 j := fun j hj => by show _ = I2 (102 + j); rw [b1 _ (by omega), z2 j hj]
    obtain ⟨W', w1, w2⟩ := sm_cg hVe d8
    have f129 : I2 129 = upd (I 129) 2 (nI 0) := by rw [b1 129 (by omega), z5]
    refine ⟨0, W', 0, Q, 0, S, nx, 0, U, hT, ⟨ag_okG hg d1, ag_okX hg d4, ag_tr (ag_sym hg) d5, ?_, ⟨D.2.1, hW.2.1, ?_⟩, ?_, ?_⟩, ⟨?_, ?_, ag_sm hg w2⟩, ⟨?_, ?_, ?_, ?_⟩, ⟨⟨?_, fun k q => absurd q (by omega)⟩, ⟨y3, fun k q => absurd q (by omega)⟩, by omega, fun k q => absurd q (by omega)⟩, ⟨⟨?_, fun k q => absurd q (by omega)⟩, ⟨y4, fun k q => absurd q (by omega)⟩, by omega, fun k q => absurd q (by omega)⟩, ⟨⟨?_, ?_, ?_, fun k q => absurd q (by omega)⟩, ⟨y5, fun k q => absurd q (by omega)⟩, fun k q => absurd q (by omega)⟩, fun j hj => ⟨?_, Or.inl ⟨?_, y6 j hj⟩⟩⟩
    · rw [← ag_N hg, d3]; exact hW.1
    · rw [b1 76 (by omega)]; exact z1.1.2.1
    · rw [b1 80 (by omega)]; exact z7
    · intro c hc
      rw [← ag_M hg, d2] at hc
      rw [b8 82 (by decide) (by decide)]; exact d6 c hc
    · exact ag_okV hg (okV_cg hVe (okV_mono d7 (by omega)))
    · rw [y2]; exact rowW fun j hj => (w1 j hj).symm
    · rw [f1 127 (by omega) (by unfold rdS; omega) (by unfold grS; omega)]; exact cn.1
    · exact cS_cg (V := vw I 114) (fun j hj => (f1 (114 + j) (by omega) (by unfold rdS; omega) (by unfold grS; omega)).symm) cn.2.1
    · rw [b3 452 (by omega) (by omega) (by omega), hC4 452 (by omega)]; exact cn.2.2.1
    · rw [b3 453 (by omega) (by omega) (by omega), hC4 453 (by omega)]; exact cn.2.2.2
    · rw [b1 90 (by omega)]; exact z3
    · rw [b1 98 (by omega)]; exact z4
    · rw [f129, upd_ne (by decide)]; exact hi.1.1
    · rw [f129, upd_eq]; exact ⟨rfl, by omega⟩
    · exact fun k hk => cS_cg (V := vw I (131 + 12 * k)) (fun i hi => (f1 (131 + 12 * k + i) (by omega) (by unfold rdS; omega) (by unfold grS; omega)).symm) (hi.1.2.2.1 k hk)
    · exact cS_cg (V := vw I (337 + 21 * j)) (fun i hi => (f1 (337 + 21 * j + i) (by omega) (by unfold rdS; omega) (by unfold grS; omega)).symm) (mh j hj).1
    · rw [b1 _ (by omega)]; exact z6 j hj
  · obtain ⟨z1, z2⟩ := a3 hz
    obtain ⟨y1, y2, y3, y4, y5⟩ := bf hz
    have f1 : ∀ a, ((76 ≤ a ∧ a < 83) ∨ (89 ≤ a ∧ a < 420) ∨ a = 421 ∨ 432 < a) → I2 a = I a := fun a q => by rw [y1 a (by omega) (by omega) (by omega), z1 a (by unfold rdS; omega)]
    have hg : agG (gI I) (gI I2) := gI_cg fun a q1 q2 => f1 a (by omega)
    have hcm : agG (mG I) (mG I2) := by
      have hM2 : gM (mG I) ≤ 8 := by rw [← ag_M hag]; exact hM8
      refine ⟨fun k hk => ?_, fun j c q1 q2 q3 => ?_⟩
      · show I 422 k = I2 422 k
        rw [y2 k hk, hC4 422 (by omega)]
      · have h24 : ∀ a, 424 ≤ a → a ≤ 427 → I a c = I2 a c := fun a w1 w2 => by rw [y3 a w1 w2 c (by omega), hC4 a (by omega)]
        unfold mG
        split
        · omega
        · exact h24 _ (by omega) (by omega)
        · exact h24 _ (by omega) (by omega)
        · exact h24 _ (by omega) (by omega)
        · exact h24 _ (by omega) (by omega)
        · rw [f1 457 (by omega)]
    refine RR_fr h (by omega) hT (WK_cg wk hg (fun a ha => f1 _ (by omega)) (by rw [f1 443 (by omega)]) (fun a k q1 q2 _ => by rw [f1 a (by omega)])) (SE_cg se hg (fun a ha => f1 _ (by omega)) (fun a q1 q2 => f1 a (by omega))) (CN_cg cn (fun a q1 q2 => f1 _ (by omega)) (f1 _ (by omega)) (f1 _ (by omega))) (fun a q => f1 _ (by omega)) hcm (f1 _ (by omega)) (f1 _ (by omega)) (f1 _ (by omega)) (f1 _ (by omega)) (by rw [y5, hC4 420 (by omega)]) (fun j m S _ _ hS => SeM_cg hS fun a q1 q2 => f1 a (by omega)) (fun j q1 q2 => by rw [f1 443 (by omega)]) (fun a k q1 q2 q3 q4 => by rw [f1 a (by omega)]) (fun c hc => ⟨by rw [b8 82 (by decide) (by decide), z2 82 (by decide) (by decide)], by rw [y4 c hc, z2 423 (by decide) (by decide)]⟩)
end CD
