/-! the calls that only read, from the relation; written by wip/gen/gsem.py -/
set_option maxRecDepth 8192
section CA
variable {L : Nat} {xs : Nat → Int32} {e p B : Nat} {P : Option Value → Hp → Prop} {I I1 I2 : Mi} {J J1 J2 : Mj} {R R1 R2 : Mr} {Z : Mz} {l5 l6 : Option Value} {v : Int32}
theorem isR_lt {n : Nat} {x : Int32} (hn : n < 2147483648) (h : isR n x = true) : x.toNatClampNeg < n := by
  obtain ⟨j, hj, rfl⟩ := isR_t h hn
  rw [nI_clamp (by omega)]; exact hj
theorem vGot_eq {G G' : Gv} {V : Vw} {x y : Int32} (hag : agG G G') (hM : gM G ≤ 8) : vGot G' V x y = vGot G V x y := by
  unfold vGot
  rw [← ag_N hag, ← ag_M hag]
  by_cases h : isR (gN G) x = true ∧ isR (gM G) y = true
  · rw [if_pos h, if_pos h]
    have hy : y.toNatClampNeg < gM G := isR_lt (by omega) h.2
    dsimp only
    rw [hag.2 1 _ (by decide) (by decide) hy]
  · rw [if_neg h, if_neg h]
theorem RR_tr (h : RR B I J) (hE : trE I I1) (h2 : ∀ a, a ≠ 420 → a ≠ 452 → a ≠ 453 → I2 a = I1 a) (h0 : ∀ k, k ≠ 0 → I2 420 k = I1 420 k) (h3 : can 291 (I2 452)) (h4 : can 291 (I2 453)) (hJ : ∀ c, c < 8 → J2 82 c = J 82 c ∧ J2 423 c = J 423 c) : RR (B + 1) I2 J2 := by
  refine RR_cg h (by omega) (fun a q1 q2 q3 q4 => by rw [h2 a q1 q3 q4, hE.1 a (by omega)]) (by rw [h0 1 (by decide), hE.1 420 (by omega)]) (by rw [h0 47 (by decide), hE.1 420 (by omega)]) ⟨?_, ?_, h3, h4⟩ hJ
  · rw [h2 127 (by decide) (by decide) (by decide)]; exact hE.2.1
  · exact cS_cg (V := vw I1 114) (fun j hj => (h2 (114 + j) (by omega) (by omega) (by omega)).symm) hE.2.2
theorem ca409 (h : RR B I J) (hB : B ≤ 512) (hp : p + 7 ≤ L) (hL : L ≤ 3584) (hn : ∀ I' J' R', RR (B + 1) I' J' → Wp L xs (e + 21) 0 1738 [some (.ref 31), some (.ref 64), some (.ref 420), some (.ref 458), some (.int (nI p)), l5, l6] [] (mk I' J' R' Z) P) : Wp L xs (e + 21) 0 409 [some (.ref 31), some (.ref 64), some (.ref 420), some (.ref 458), some (.int (nI p)), l5, l6] [] (mk I J R Z) P := by
  obtain ⟨n, W, mw, Q, ms, S, nx, mn, U, tp, gp, s, cn, wk, se, hi, mh⟩ := id h
  obtain ⟨hG, hX, hag, h35, ⟨K, hK4, hK⟩, h80, hNm⟩ := gp
  have hV := s.1
  have hs := s.2.2
  have hM8 : gM (gI I) ≤ 8 := hG.2.1.2
  have hG2 := ag_okG hag hG
  have hX2 := ag_okX hag hX
  have hV2 := ag_okV hag (sm_ok hs hV)
  have hk := fun P => k_command (L := L) (xs := xs) (d := e + 19) (I := I) (J := J) (R := R) (Z := Z) (P := P) (x := xs (p + 1)) (y := xs (p + 2)) hG
  have hm := fun P => m_command (L := L) (xs := xs) (d := e + 18) (I := I) (J := J) (R := R) (Z := Z) (P := P) (V := W) (x := xs (p + 1)) (y := xs (p + 2)) hG2
  rw [pmS s, pmT s, vCom_eq hag hs hM8] at hm
  exact cs409 hp hL hk hm (hn _ _ _ (RR_th h))
theorem ca446 (h : RR B I J) (hB : B ≤ 512) (hp : p + 7 ≤ L) (hL : L ≤ 3584) (hn : ∀ I' J' R', RR (B + 1) I' J' → Wp L xs (e + 21) 0 1738 [some (.ref 31), some (.ref 64), some (.ref 420), some (.ref 458), some (.int (nI p)), l5, l6] [] (mk I' J' R' Z) P) : Wp L xs (e + 21) 0 446 [some (.ref 31), some (.ref 64), some (.ref 420), some (.ref 458), some (.int (nI p)), l5, l6] [] (mk I J R Z) P := by
  obtain ⟨n, W, mw, Q, ms, S, nx, mn, U, tp, gp, s, cn, wk, se, hi, mh⟩ := id h
  obtain ⟨hG, hX, hag, h35, ⟨K, hK4, hK⟩, h80, hNm⟩ := gp
  have hV := s.1
  have hs := s.2.2
  have hM8 : gM (gI I) ≤ 8 := hG.2.1.2
  have hG2 := ag_okG hag hG
  have hX2 := ag_okX hag hX
  have hV2 := ag_okV hag (sm_ok hs hV)
  have hk := fun P => k_known (L := L) (xs := xs) (d := e + 19) (I := I) (J := J) (R := R) (Z := Z) (P := P) (x := xs (p + 1)) (y := xs (p + 2)) (z := xs (p + 3)) hG
  have hm := fun P => m_known (L := L) (xs := xs) (d := e + 18) (I := I) (J := J) (R := R) (Z := Z) (P := P) (V := W) (x := xs (p + 1)) (y := xs (p + 2)) (z := xs (p + 3)) hG2
  rw [pmS s, pmT s, vKno_eq hag hs] at hm
  exact cs446 hp hL hk hm (hn _ _ _ (RR_th h))
theorem ca495 (h : RR B I J) (hB : B ≤ 512) (hp : p + 7 ≤ L) (hL : L ≤ 3584) (hn : ∀ I' J' R', RR (B + 1) I' J' → Wp L xs (e + 21) 0 1738 [some (.ref 31), some (.ref 64), some (.ref 420), some (.ref 458), some (.int (nI p)), l5, l6] [] (mk I' J' R' Z) P) : Wp L xs (e + 21) 0 495 [some (.ref 31), some (.ref 64), some (.ref 420), some (.ref 458), some (.int (nI p)), l5, l6] [] (mk I J R Z) P := by
  obtain ⟨n, W, mw, Q, ms, S, nx, mn, U, tp, gp, s, cn, wk, se, hi, mh⟩ := id h
  obtain ⟨hG, hX, hag, h35, ⟨K, hK4, hK⟩, h80, hNm⟩ := gp
  have hV := s.1
  have hs := s.2.2
  have hM8 : gM (gI I) ≤ 8 := hG.2.1.2
  have hG2 := ag_okG hag hG
  have hX2 := ag_okX hag hX
  have hV2 := ag_okV hag (sm_ok hs hV)
  have hk := fun P => k_replica (L := L) (xs := xs) (d := e + 18) (I := I) (J := J) (R := R) (Z := Z) (P := P) (x := xs (p + 1)) (y := xs (p + 2)) hG
  have hm := fun P => m_replica (L := L) (xs := xs) (d := e + 18) (I := I) (J := J) (R := R) (Z := Z) (P := P) (V := W) (x := xs (p + 1)) (y := xs (p + 2)) hG2 hV2
  rw [pmS s, pmT s, vRep_eq hag hs] at hm
  exact cs495 hp hL hk hm (hn _ _ _ (RR_th h))
theorem ca600 (h : RR B I J) (hB : B ≤ 512) (hp : p + 7 ≤ L) (hL : L ≤ 3584) (hn : ∀ I' J' R', RR (B + 1) I' J' → Wp L xs (e + 21) 0 1738 [some (.ref 31), some (.ref 64), some (.ref 420), some (.ref 458), some (.int (nI p)), l5, l6] [] (mk I' J' R' Z) P) : Wp L xs (e + 21) 0 600 [some (.ref 31), some (.ref 64), some (.ref 420), some (.ref 458), some (.int (nI p)), l5, l6] [] (mk I J R Z) P := by
  obtain ⟨n, W, mw, Q, ms, S, nx, mn, U, tp, gp, s, cn, wk, se, hi, mh⟩ := id h
  obtain ⟨hG, hX, hag, h35, ⟨K, hK4, hK⟩, h80, hNm⟩ := gp
  have hV := s.1
  have hs := s.2.2
  have hM8 : gM (gI I) ≤ 8 := hG.2.1.2
  have hG2 := ag_okG hag hG
  have hX2 := ag_okX hag hX
  have hV2 := ag_okV hag (sm_ok hs hV)
  have hK2 : I 422 1 = nI K := (hag.1 1 (by decide)).symm.trans hK
  have hk := fun P => k_value (L := L) (xs := xs) (d := e + 19) (I := I) (J := J) (R := R) (Z := Z) (P := P) (x := xs (p + 1)) (y := xs (p + 2)) hG hK hK4
  have hm := fun P => m_value (L := L) (xs := xs) (d := e + 18) (I := I) (J := J) (R := R) (Z := Z) (P := P) (V := W) (x := xs (p + 1)) (y := xs (p + 2)) hG2 hK2 hK4
  rw [pmS s, pmT s, vVal_eq hag hs] at hm
  exact cs600 hp hL hk hm (hn _ _ _ (RR_th h))
theorem ca674 (h : RR B I J) (hB : B ≤ 512) (hp : p + 7 ≤ L) (hL : L ≤ 3584) (hn : ∀ I' J' R', RR (B + 1) I' J' → Wp L xs (e + 21) 0 1738 [some (.ref 31), some (.ref 64), some (.ref 420), some (.ref 458), some (.int (nI p)), l5, l6] [] (mk I' J' R' Z) P) : Wp L xs (e + 21) 0 674 [some (.ref 31), some (.ref 64), some (.ref 420), some (.ref 458), some (.int (nI p)), l5, l6] [] (mk I J R Z) P := by
  obtain ⟨n, W, mw, Q, ms, S, nx, mn, U, tp, gp, s, cn, wk, se, hi, mh⟩ := id h
  obtain ⟨hG, hX, hag, h35, ⟨K, hK4, hK⟩, h80, hNm⟩ := gp
  have hV := s.1
  have hs := s.2.2
  have hM8 : gM (gI I) ≤ 8 := hG.2.1.2
  have hG2 := ag_okG hag hG
  have hX2 := ag_okX hag hX
  have hV2 := ag_okV hag (sm_ok hs hV)
  have hk := fun P => k_clash (L := L) (xs := xs) (d := e + 19) (I := I) (J := J) (R := R) (Z := Z) (P := P) (x := xs (p + 1)) (y := xs (p + 2)) hG
  have hm := fun P => m_clash (L := L) (xs := xs) (d := e + 19) (I := I) (J := J) (R := R) (Z := Z) (P := P) (V := W) (x := xs (p + 1)) (y := xs (p + 2)) hG2
  rw [pmS s, pmT s, vCla_eq hag hM8] at hm
  exact cs674 hp hL hk hm (hn _ _ _ (RR_th h))
theorem ca1060 (h : RR B I J) (hB : B ≤ 512) (hp : p + 7 ≤ L) (hL : L ≤ 3584) (hn : ∀ I' J' R', RR (B + 1) I' J' → Wp L xs (e + 21) 0 1738 [some (.ref 31), some (.ref 64), some (.ref 420), some (.ref 458), some (.int (nI p)), l5, l6] [] (mk I' J' R' Z) P) : Wp L xs (e + 21) 0 1060 [some (.ref 31), some (.ref 64), some (.ref 420), some (.ref 458), some (.int (nI p)), l5, l6] [] (mk I J R Z) P := by
  obtain ⟨n, W, mw, Q, ms, S, nx, mn, U, tp, gp, s, cn, wk, se, hi, mh⟩ := id h
  obtain ⟨hG, hX, hag, h35, ⟨K, hK4, hK⟩, h80, hNm⟩ := gp
  have hV := s.1
  have hs := s.2.2
  have hM8 : gM (gI I) ≤ 8 := hG.2.1.2
  have hG2 := ag_okG hag hG
  have hX2 := ag_okX hag hX
  have hV2 := ag_okV hag (sm_ok hs hV)
  have hk := fun P => k_lone (L := L) (xs := xs) (d := e + 20) (I := I) (J := J) (R := R) (Z := Z) (P := P)  hG
  have hm := fun P => m_lone (L := L) (xs := xs) (d := e + 20) (I := I) (J := J) (R := R) (Z := Z) (P := P) (V := W)  hG2
  rw [pmS s, pmT s, vLon_eq hag] at hm
  exact cs1060 hp hL hk hm (hn _ _ _ (RR_th h))
theorem ca1073 (h : RR B I J) (hB : B ≤ 512) (hp : p + 7 ≤ L) (hL : L ≤ 3584) (hn : ∀ I' J' R', RR (B + 1) I' J' → Wp L xs (e + 21) 0 1738 [some (.ref 31), some (.ref 64), some (.ref 420), some (.ref 458), some (.int (nI p)), l5, l6] [] (mk I' J' R' Z) P) : Wp L xs (e + 21) 0 1073 [some (.ref 31), some (.ref 64), some (.ref 420), some (.ref 458), some (.int (nI p)), l5, l6] [] (mk I J R Z) P := by
  obtain ⟨n, W, mw, Q, ms, S, nx, mn, U, tp, gp, s, cn, wk, se, hi, mh⟩ := id h
  obtain ⟨hG, hX, hag, h35, ⟨K, hK4, hK⟩, h80, hNm⟩ := gp
  have hV := s.1
  have hs := s.2.2
  have hM8 : gM (gI I) ≤ 8 := hG.2.1.2
  have hG2 := ag_okG hag hG
  have hX2 := ag_okX hag hX
  have hV2 := ag_okV hag (sm_ok hs hV)
  have hk := fun P => k_heap (L := L) (xs := xs) (d := e + 19) (I := I) (J := J) (R := R) (Z := Z) (P := P) (x := xs (p + 1)) hG
  have hm := fun P => m_heap (L := L) (xs := xs) (d := e + 19) (I := I) (J := J) (R := R) (Z := Z) (P := P) (V := W) (x := xs (p + 1)) hG2 hX2
  rw [pmS s, pmT s, vHea_eq hag] at hm
  exact cs1073 hp hL hk hm (hn _ _ _ (RR_th h))
theorem ca1098 (h : RR B I J) (hB : B ≤ 512) (hp : p + 7 ≤ L) (hL : L ≤ 3584) (hn : ∀ I' J' R', RR (B + 1) I' J' → Wp L xs (e + 21) 0 1738 [some (.ref 31), some (.ref 64), some (.ref 420), some (.ref 458), some (.int (nI p)), l5, l6] [] (mk I' J' R' Z) P) : Wp L xs (e + 21) 0 1098 [some (.ref 31), some (.ref 64), some (.ref 420), some (.ref 458), some (.int (nI p)), l5, l6] [] (mk I J R Z) P := by
  obtain ⟨n, W, mw, Q, ms, S, nx, mn, U, tp, gp, s, cn, wk, se, hi, mh⟩ := id h
  obtain ⟨hG, hX, hag, h35, ⟨K, hK4, hK⟩, h80, hNm⟩ := gp
  have hV := s.1
  have hs := s.2.2
  have hM8 : gM (gI I) ≤ 8 := hG.2.1.2
  have hG2 := ag_okG hag hG
  have hX2 := ag_okX hag hX
  have hV2 := ag_okV hag (sm_ok hs hV)
  have hk := fun P => k_union (L := L) (xs := xs) (d := e + 18) (I := I) (J := J) (R := R) (Z := Z) (P := P) (x := xs (p + 1)) (y := xs (p + 2)) hG
  have hm := fun P => m_union (L := L) (xs := xs) (d := e + 18) (I := I) (J := J) (R := R) (Z := Z) (P := P) (V := W) (x := xs (p + 1)) (y := xs (p + 2)) hG2
  rw [pmS s, pmT s, vUni_eq hag hs] at hm
  exact cs1098 hp hL hk hm (hn _ _ _ (RR_th h))
theorem ca1135 (h : RR B I J) (hB : B ≤ 512) (hp : p + 7 ≤ L) (hL : L ≤ 3584) (hn : ∀ I' J' R', RR (B + 1) I' J' → Wp L xs (e + 21) 0 1738 [some (.ref 31), some (.ref 64), some (.ref 420), some (.ref 458), some (.int (nI p)), l5, l6] [] (mk I' J' R' Z) P) : Wp L xs (e + 21) 0 1135 [some (.ref 31), some (.ref 64), some (.ref 420), some (.ref 458), some (.int (nI p)), l5, l6] [] (mk I J R Z) P := by
  obtain ⟨n, W, mw, Q, ms, S, nx, mn, U, tp, gp, s, cn, wk, se, hi, mh⟩ := id h
  obtain ⟨hG, hX, hag, h35, ⟨K, hK4, hK⟩, h80, hNm⟩ := gp
  have hV := s.1
  have hs := s.2.2
  have hM8 : gM (gI I) ≤ 8 := hG.2.1.2
  have hG2 := ag_okG hag hG
  have hX2 := ag_okX hag hX
  have hV2 := ag_okV hag (sm_ok hs hV)
  have hk := fun P => k_quick (L := L) (xs := xs) (d := e + 17) (I := I) (J := J) (R := R) (Z := Z) (P := P) (x := xs (p + 1)) hG hV
  have hm := fun P => m_quick (L := L) (xs := xs) (d := e + 16) (I := I) (J := J) (R := R) (Z := Z) (P := P) (V := W) (x := xs (p + 1)) hG2
  rw [pmS s, pmT s, vQui_eq hag hG hX hV hs] at hm
  exact cs1135 hp hL hk hm (hn _ _ _ (RR_th h))
theorem ca1160 (h : RR B I J) (hB : B ≤ 512) (hp : p + 7 ≤ L) (hL : L ≤ 3584) (hn : ∀ I' J' R', RR (B + 1) I' J' → Wp L xs (e + 21) 0 1738 [some (.ref 31), some (.ref 64), some (.ref 420), some (.ref 458), some (.int (nI p)), l5, l6] [] (mk I' J' R' Z) P) : Wp L xs (e + 21) 0 1160 [some (.ref 31), some (.ref 64), some (.ref 420), some (.ref 458), some (.int (nI p)), l5, l6] [] (mk I J R Z) P := by
  obtain ⟨n, W, mw, Q, ms, S, nx, mn, U, tp, gp, s, cn, wk, se, hi, mh⟩ := id h
  obtain ⟨hG, hX, hag, h35, ⟨K, hK4, hK⟩, h80, hNm⟩ := gp
  have hV := s.1
  have hs := s.2.2
  have hM8 : gM (gI I) ≤ 8 := hG.2.1.2
  have hG2 := ag_okG hag hG
  have hX2 := ag_okX hag hX
  have hV2 := ag_okV hag (sm_ok hs hV)
  have hk := fun P => k_waits (L := L) (xs := xs) (d := e + 18) (I := I) (J := J) (R := R) (Z := Z) (P := P) (x := xs (p + 1)) hG
  have hm := fun P => m_waits (L := L) (xs := xs) (d := e + 18) (I := I) (J := J) (R := R) (Z := Z) (P := P) (V := W) (x := xs (p + 1)) hG2 hV2
  rw [pmS s, pmT s, vWai_eq hag hs] at hm
  exact cs1160 hp hL hk hm (hn _ _ _ (RR_th h))
theorem ca1284 (h : RR B I J) (hB : B ≤ 512) (hp : p + 7 ≤ L) (hL : L ≤ 3584) (hn : ∀ I' J' R', RR (B + 1) I' J' → Wp L xs (e + 21) 0 1738 [some (.ref 31), some (.ref 64), some (.ref 420), some (.ref 458), some (.int (nI p)), l5, l6] [] (mk I' J' R' Z) P) : Wp L xs (e + 21) 0 1284 [some (.ref 31), some (.ref 64), some (.ref 420), some (.ref 458), some (.int (nI p)), l5, l6] [] (mk I J R Z) P := by
  obtain ⟨n, W, mw, Q, ms, S, nx, mn, U, tp, gp, s, cn, wk, se, hi, mh⟩ := id h
  obtain ⟨hG, hX, hag, h35, ⟨K, hK4, hK⟩, h80, hNm⟩ := gp
  have hV := s.1
  have hs := s.2.2
  have hM8 : gM (gI I) ≤ 8 := hG.2.1.2
  have hG2 := ag_okG hag hG
  have hX2 := ag_okX hag hX
  have hV2 := ag_okV hag (sm_ok hs hV)
  have hk := fun P => k_one (L := L) (xs := xs) (d := e + 18) (I := I) (J := J) (R := R) (Z := Z) (P := P) (x := xs (p + 1)) hG
  have hm := fun P => m_one (L := L) (xs := xs) (d := e + 18) (I := I) (J := J) (R := R) (Z := Z) (P := P) (V := W) (x := xs (p + 1)) hG2 hV2
  rw [pmS s, pmT s, vOne_eq hag hs] at hm
  exact cs1284 hp hL hk hm (hn _ _ _ (RR_th h))
theorem ca1309 (h : RR B I J) (hB : B ≤ 512) (hp : p + 7 ≤ L) (hL : L ≤ 3584) (hn : ∀ I' J' R', RR (B + 1) I' J' → Wp L xs (e + 21) 0 1738 [some (.ref 31), some (.ref 64), some (.ref 420), some (.ref 458), some (.int (nI p)), l5, l6] [] (mk I' J' R' Z) P) : Wp L xs (e + 21) 0 1309 [some (.ref 31), some (.ref 64), some (.ref 420), some (.ref 458), some (.int (nI p)), l5, l6] [] (mk I J R Z) P := by
  obtain ⟨n, W, mw, Q, ms, S, nx, mn, U, tp, gp, s, cn, wk, se, hi, mh⟩ := id h
  obtain ⟨hG, hX, hag, h35, ⟨K, hK4, hK⟩, h80, hNm⟩ := gp
  have hV := s.1
  have hs := s.2.2
  have hM8 : gM (gI I) ≤ 8 := hG.2.1.2
  have hG2 := ag_okG hag hG
  have hX2 := ag_okX hag hX
  have hV2 := ag_okV hag (sm_ok hs hV)
  have hk := fun P => k_agree (L := L) (xs := xs) (d := e + 16) (I := I) (J := J) (R := R) (Z := Z) (P := P) (x := xs (p + 1)) (y := xs (p + 2)) hG hV
  have hm := fun P => m_agree (L := L) (xs := xs) (d := e + 17) (I := I) (J := J) (R := R) (Z := Z) (P := P) (V := W) (x := xs (p + 1)) (y := xs (p + 2)) hG2 hV2
  rw [pmS s, pmT s, vAgr_eq hag hs] at hm
  exact cs1309 hp hL hk hm (hn _ _ _ (RR_th h))
theorem ca1346 (h : RR B I J) (hB : B ≤ 512) (hp : p + 7 ≤ L) (hL : L ≤ 3584) (hn : ∀ I' J' R', RR (B + 1) I' J' → Wp L xs (e + 21) 0 1738 [some (.ref 31), some (.ref 64), some (.ref 420), some (.ref 458), some (.int (nI p)), l5, l6] [] (mk I' J' R' Z) P) : Wp L xs (e + 21) 0 1346 [some (.ref 31), some (.ref 64), some (.ref 420), some (.ref 458), some (.int (nI p)), l5, l6] [] (mk I J R Z) P := by
  obtain ⟨n, W, mw, Q, ms, S, nx, mn, U, tp, gp, s, cn, wk, se, hi, mh⟩ := id h
  obtain ⟨hG, hX, hag, h35, ⟨K, hK4, hK⟩, h80, hNm⟩ := gp
  have hV := s.1
  have hs := s.2.2
  have hM8 : gM (gI I) ≤ 8 := hG.2.1.2
  have hG2 := ag_okG hag hG
  have hX2 := ag_okX hag hX
  have hV2 := ag_okV hag (sm_ok hs hV)
  have hk := fun P => k_before (L := L) (xs := xs) (d := e + 17) (I := I) (J := J) (R := R) (Z := Z) (P := P) (x := xs (p + 1)) (y := xs (p + 2)) (z := xs (p + 3)) hG hV
  have hm := fun P => m_before (L := L) (xs := xs) (d := e + 18) (I := I) (J := J) (R := R) (Z := Z) (P := P) (V := W) (x := xs (p + 1)) (y := xs (p + 2)) (z := xs (p + 3)) hG2 hV2
  rw [pmS s, pmT s, vBef_eq hag hs] at hm
  exact cs1346 hp hL hk hm (hn _ _ _ (RR_th h))
theorem ca1395 (h : RR B I J) (hB : B ≤ 512) (hp : p + 7 ≤ L) (hL : L ≤ 3584) (hn : ∀ I' J' R', RR (B + 1) I' J' → Wp L xs (e + 21) 0 1738 [some (.ref 31), some (.ref 64), some (.ref 420), some (.ref 458), some (.int (nI p)), l5, l6] [] (mk I' J' R' Z) P) : Wp L xs (e + 21) 0 1395 [some (.ref 31), some (.ref 64), some (.ref 420), some (.ref 458), some (.int (nI p)), l5, l6] [] (mk I J R Z) P := by
  obtain ⟨n, W, mw, Q, ms, S, nx, mn, U, tp, gp, s, cn, wk, se, hi, mh⟩ := id h
  obtain ⟨hG, hX, hag, h35, ⟨K, hK4, hK⟩, h80, hNm⟩ := gp
  have hV := s.1
  have hs := s.2.2
  have hM8 : gM (gI I) ≤ 8 := hG.2.1.2
  have hG2 := ag_okG hag hG
  have hX2 := ag_okX hag hX
  have hV2 := ag_okV hag (sm_ok hs hV)
  have hk := fun P => k_bare (L := L) (xs := xs) (d := e + 18) (I := I) (J := J) (R := R) (Z := Z) (P := P) (x := xs (p + 1)) hG
  have hm := fun P => m_bare (L := L) (xs := xs) (d := e + 18) (I := I) (J := J) (R := R) (Z := Z) (P := P) (V := W) (x := xs (p + 1)) hG2 hV2
  rw [pmS s, pmT s, vBar_eq hag hs] at hm
  exact cs1395 hp hL hk hm (hn _ _ _ (RR_th h))
theorem ca1420 (h : RR B I J) (hB : B ≤ 512) (hp : p + 7 ≤ L) (hL : L ≤ 3584) (hn : ∀ I' J' R', RR (B + 1) I' J' → Wp L xs (e + 21) 0 1738 [some (.ref 31), some (.ref 64), some (.ref 420), some (.ref 458), some (.int (nI p)), l5, l6] [] (mk I' J' R' Z) P) : Wp L xs (e + 21) 0 1420 [some (.ref 31), some (.ref 64), some (.ref 420), some (.ref 458), some (.int (nI p)), l5, l6] [] (mk I J R Z) P := by
  obtain ⟨n, W, mw, Q, ms, S, nx, mn, U, tp, gp, s, cn, wk, se, hi, mh⟩ := id h
  obtain ⟨hG, hX, hag, h35, ⟨K, hK4, hK⟩, h80, hNm⟩ := gp
  have hV := s.1
  have hs := s.2.2
  have hM8 : gM (gI I) ≤ 8 := hG.2.1.2
  have hG2 := ag_okG hag hG
  have hX2 := ag_okX hag hX
  have hV2 := ag_okV hag (sm_ok hs hV)
  have hk := fun P => k_level (L := L) (xs := xs) (d := e + 17) (I := I) (J := J) (R := R) (Z := Z) (P := P) (x := xs (p + 1)) hG
  have hm := fun P => m_level (L := L) (xs := xs) (d := e + 16) (I := I) (J := J) (R := R) (Z := Z) (P := P) (V := W) (x := xs (p + 1)) hG2 hV2
  rw [pmS s, pmT s, vLev_eq hag hs] at hm
  exact cs1420 hp hL hk hm (hn _ _ _ (RR_th h))
theorem ca1445 (h : RR B I J) (hB : B ≤ 512) (hp : p + 7 ≤ L) (hL : L ≤ 3584) (hn : ∀ I' J' R', RR (B + 1) I' J' → Wp L xs (e + 21) 0 1738 [some (.ref 31), some (.ref 64), some (.ref 420), some (.ref 458), some (.int (nI p)), l5, l6] [] (mk I' J' R' Z) P) : Wp L xs (e + 21) 0 1445 [some (.ref 31), some (.ref 64), some (.ref 420), some (.ref 458), some (.int (nI p)), l5, l6] [] (mk I J R Z) P := by
  obtain ⟨n, W, mw, Q, ms, S, nx, mn, U, tp, gp, s, cn, wk, se, hi, mh⟩ := id h
  obtain ⟨hG, hX, hag, h35, ⟨K, hK4, hK⟩, h80, hNm⟩ := gp
  have hV := s.1
  have hs := s.2.2
  have hM8 : gM (gI I) ≤ 8 := hG.2.1.2
  have hG2 := ag_okG hag hG
  have hX2 := ag_okX hag hX
  have hV2 := ag_okV hag (sm_ok hs hV)
  have hk := fun P => k_stuck (L := L) (xs := xs) (d := e + 18) (I := I) (J := J) (R := R) (Z := Z) (P := P)  hG hV
  have hm := fun P => m_stuck (L := L) (xs := xs) (d := e + 18) (I := I) (J := J) (R := R) (Z := Z) (P := P) (V := W)  hG2 hV2
  rw [pmS s, pmT s, vStu_eq hag hs] at hm
  exact cs1445 hp hL hk hm (hn _ _ _ (RR_th h))
theorem ca1585 (h : RR B I J) (hB : B ≤ 512) (hp : p + 7 ≤ L) (hL : L ≤ 3584) (hn : ∀ I' J' R', RR (B + 1) I' J' → Wp L xs (e + 21) 0 1738 [some (.ref 31), some (.ref 64), some (.ref 420), some (.ref 458), some (.int (nI p)), l5, l6] [] (mk I' J' R' Z) P) : Wp L xs (e + 21) 0 1585 [some (.ref 31), some (.ref 64), some (.ref 420), some (.ref 458), some (.int (nI p)), l5, l6] [] (mk I J R Z) P := by
  obtain ⟨n, W, mw, Q, ms, S, nx, mn, U, tp, gp, s, cn, wk, se, hi, mh⟩ := id h
  obtain ⟨hG, hX, hag, h35, ⟨K, hK4, hK⟩, h80, hNm⟩ := gp
  have hV := s.1
  have hs := s.2.2
  have hM8 : gM (gI I) ≤ 8 := hG.2.1.2
  have hG2 := ag_okG hag hG
  have hX2 := ag_okX hag hX
  have hV2 := ag_okV hag (sm_ok hs hV)
  have hk := fun P => k_who (L := L) (xs := xs) (d := e + 16) (I := I) (J := J) (R := R) (Z := Z) (P := P)  hG hV se.1 se.2.2
  have hm := fun P => m_who (L := L) (xs := xs) (d := e + 17) (I := I) (J := J) (R := R) (Z := Z) (P := P) (V := W)  hG2 hV2 se.2.1 (okQ_cg hag se.2.2)
  rw [pmS s, pmT s, vWho_eq hag hs] at hm
  exact cs1585 hp hL hk hm (hn _ _ _ (RR_th h))
theorem ca1598 (h : RR B I J) (hB : B ≤ 512) (hp : p + 7 ≤ L) (hL : L ≤ 3584) (hn : ∀ I' J' R', RR (B + 1) I' J' → Wp L xs (e + 21) 0 1738 [some (.ref 31), some (.ref 64), some (.ref 420), some (.ref 458), some (.int (nI p)), l5, l6] [] (mk I' J' R' Z) P) : Wp L xs (e + 21) 0 1598 [some (.ref 31), some (.ref 64), some (.ref 420), some (.ref 458), some (.int (nI p)), l5, l6] [] (mk I J R Z) P := by
  obtain ⟨n, W, mw, Q, ms, S, nx, mn, U, tp, gp, s, cn, wk, se, hi, mh⟩ := id h
  obtain ⟨hG, hX, hag, h35, ⟨K, hK4, hK⟩, h80, hNm⟩ := gp
  have hV := s.1
  have hs := s.2.2
  have hM8 : gM (gI I) ≤ 8 := hG.2.1.2
  have hG2 := ag_okG hag hG
  have hX2 := ag_okX hag hX
  have hV2 := ag_okV hag (sm_ok hs hV)
  have hk := fun P => k_look (L := L) (xs := xs) (d := e + 15) (I := I) (J := J) (R := R) (Z := Z) (P := P)  hG hV se.1 se.2.2
  have hm := fun P => m_look (L := L) (xs := xs) (d := e + 16) (I := I) (J := J) (R := R) (Z := Z) (P := P) (V := W)  hG2 hV2 se.2.1 (okQ_cg hag se.2.2)
  rw [pmS s, pmT s, vLoo_eq hag hs] at hm
  exact cs1598 hp hL hk hm (hn _ _ _ (RR_th h))
theorem ca637 (h : RR B I J) (hB : B ≤ 512) (hp : p + 7 ≤ L) (hL : L ≤ 3584) (hn : ∀ I' J' R', RR (B + 1) I' J' → Wp L xs (e + 21) 0 1738 [some (.ref 31), some (.ref 64), some (.ref 420), some (.ref 458), some (.int (nI p)), l5, l6] [] (mk I' J' R' Z) P) : Wp L xs (e + 21) 0 637 [some (.ref 31), some (.ref 64), some (.ref 420), some (.ref 458), some (.int (nI p)), l5, l6] [] (mk I J R Z) P := by
  obtain ⟨n, W, mw, Q, ms, S, nx, mn, U, tp, gp, s, cn, wk, se, hi, mh⟩ := id h
  obtain ⟨hG, hX, hag, h35, ⟨K, hK4, hK⟩, h80, hNm⟩ := gp
  have hV := s.1
  have hs := s.2.2
  have hM8 : gM (gI I) ≤ 8 := hG.2.1.2
  have hG2 := ag_okG hag hG
  have hX2 := ag_okX hag hX
  have hV2 := ag_okV hag (sm_ok hs hV)
  have hk := fun P => k_got (L := L) (xs := xs) (d := e + 19) (I := I) (J := J) (R := R) (Z := Z) (P := P) (x := xs (p + 1)) (y := xs (p + 2)) hG
  have hm := fun P => m_got (L := L) (xs := xs) (d := e + 18) (I := I) (J := J) (R := R) (Z := Z) (P := P) (V := vw I 102) (W := W) (x := xs (p + 1)) (y := xs (p + 2)) hG2 (ag_sm hag hs)
  rw [pmS s, pmT s, vGot_eq hag hM8] at hm
  exact cs637 hp hL hk hm (hn _ _ _ (RR_th h))
theorem ca1713 (h : RR B I J) (hB : B ≤ 512) (hp : p + 7 ≤ L) (hL : L ≤ 3584) (hn : ∀ I' J' R', RR (B + 1) I' J' → Wp L xs (e + 21) 0 1738 [some (.ref 31), some (.ref 64), some (.ref 420), some (.ref 458), some (.int (nI p)), l5, l6] [] (mk I' J' R' Z) P) : Wp L xs (e + 21) 0 1713 [some (.ref 31), some (.ref 64), some (.ref 420), some (.ref 458), some (.int (nI p)), l5, l6] [] (mk I J R Z) P := by
  obtain ⟨n, W, mw, Q, ms, S, nx, mn, U, tp, gp, s, cn, wk, se, hi, mh⟩ := id h
  obtain ⟨hG, hX, hag, h35, ⟨K, hK4, hK⟩, h80, hNm⟩ := gp
  have hV := s.1
  have hs := s.2.2
  have hM8 : gM (gI I) ≤ 8 := hG.2.1.2
  have hG2 := ag_okG hag hG
  have hX2 := ag_okX hag hX
  have hV2 := ag_okV hag (sm_ok hs hV)
  have hk := fun P => k_count (L := L) (xs := xs) (d := e + 19) (I := I) (J := J) (R := R) (Z := Z) (P := P) (y := xs (p + 1))
  have hm := fun P => m_count (L := L) (xs := xs) (d := e + 19) (I := I) (J := J) (R := R) (Z := Z) (P := P) (V := W) (y := xs (p + 1))
  rw [pmS s, pmT s, vCou_eq hag hs, wk.2.1.1, se.2.1.1, hi.2.1.1, tp.2.1] at hm
  rw [wk.1.1, se.1.1, hi.1.2.1.1, tp.1] at hk
  exact cs1713 hp hL hk hm (hn _ _ _ (RR_th h))
theorem ca1247 (h : RR B I J) (hB : B ≤ 512) (hp : p + 7 ≤ L) (hL : L ≤ 3584) (hn : ∀ I' J' R', RR (B + 1) I' J' → Wp L xs (e + 21) 0 1738 [some (.ref 31), some (.ref 64), some (.ref 420), some (.ref 458), some (.int (nI p)), l5, l6] [] (mk I' J' R' Z) P) : Wp L xs (e + 21) 0 1247 [some (.ref 31), some (.ref 64), some (.ref 420), some (.ref 458), some (.int (nI p)), l5, l6] [] (mk I J R Z) P := by
  obtain ⟨n, W, mw, Q, ms, S, nx, mn, U, tp, gp, s, cn, wk, se, hi, mh⟩ := id h
  obtain ⟨hG, hX, hag, h35, ⟨K, hK4, hK⟩, h80, hNm⟩ := gp
  have hV := s.1
  have hs := s.2.2
  have hM8 : gM (gI I) ≤ 8 := hG.2.1.2
  have hG2 := ag_okG hag hG
  have hX2 := ag_okX hag hX
  have hV2 := ag_okV hag (sm_ok hs hV)
  obtain ⟨I1, hE, hk⟩ := k_part (L := L) (xs := xs) (d := e + 17) (I := I) (J := J) (R := R) (Z := Z) (x := xs (p + 1)) (y := xs (p + 2)) hG cn.1 cn.2.1
  have e451 : I1 451 = row W := by rw [hE.1 451 (by omega)]; exact s.2.1
  have hmG : mG I1 = mG I := mG_cg (hE.1 _ (by omega)) (fun a q1 q2 => hE.1 _ (by omega)) (hE.1 _ (by omega))
  have epm : pm I1 W = I1 := by unfold pm; rw [← e451, st_id]
  have hm := fun P => m_part (L := L) (xs := xs) (d := e + 16) (I := I1) (J := J) (R := R) (Z := Z) (P := P) (V := W) (x := xs (p + 1)) (y := xs (p + 2)) (by rw [okM, hmG]; exact ⟨hG2, hX2⟩) (by rw [hmG]; exact hV2)
  have epm2 : pm (st I1 420 (upd (I1 420) 0 (nI 0))) W = st I1 420 (upd (I1 420) 0 (nI 0)) := by unfold pm; rw [← e451, st_cm (by decide), st_id]
  rw [epm, epm2, hmG, vPar_eq hag hs] at hm
  exact cs1247 hp hL hk hm (hn _ _ _ (RR_tr h hE (fun a q _ _ => st_ne q) (fun k q => by rw [st_eq, upd_ne q]) (by rw [st_ne (by decide), hE.1 452 (by omega)]; exact cn.2.2.1) (by rw [st_ne (by decide), hE.1 453 (by omega)]; exact cn.2.2.2) (fun _ _ => ⟨rfl, rfl⟩)))
theorem ca1458 (h : RR B I J) (hB : B ≤ 512) (hp : p + 7 ≤ L) (hL : L ≤ 3584) (hn : ∀ I' J' R', RR (B + 1) I' J' → Wp L xs (e + 21) 0 1738 [some (.ref 31), some (.ref 64), some (.ref 420), some (.ref 458), some (.int (nI p)), l5, l6] [] (mk I' J' R' Z) P) : Wp L xs (e + 21) 0 1458 [some (.ref 31), some (.ref 64), some (.ref 420), some (.ref 458), some (.int (nI p)), l5, l6] [] (mk I J R Z) P := by
  obtain ⟨n, W, mw, Q, ms, S, nx, mn, U, tp, gp, s, cn, wk, se, hi, mh⟩ := id h
  obtain ⟨hG, hX, hag, h35, ⟨K, hK4, hK⟩, h80, hNm⟩ := gp
  have hV := s.1
  have hs := s.2.2
  have hM8 : gM (gI I) ≤ 8 := hG.2.1.2
  have hG2 := ag_okG hag hG
  have hX2 := ag_okX hag hX
  have hV2 := ag_okV hag (sm_ok hs hV)
  obtain ⟨I1, hE, hk⟩ := k_finds (L := L) (xs := xs) (d := e + 16) (I := I) (J := J) (R := R) (Z := Z) (x := xs (p + 1)) (y := xs (p + 2)) hG hV cn.1
  replace hE := sc_trE hE cn.2.1
  have e451 : I1 451 = row W := by rw [hE.1 451 (by omega)]; exact s.2.1
  have hmG : mG I1 = mG I := mG_cg (hE.1 _ (by omega)) (fun a q1 q2 => hE.1 _ (by omega)) (hE.1 _ (by omega))
  have epm : pm I1 W = I1 := by unfold pm; rw [← e451, st_id]
  have hm := fun P => m_finds (L := L) (xs := xs) (d := e + 15) (I := I1) (J := J) (R := R) (Z := Z) (P := P) (V := W) (x := xs (p + 1)) (y := xs (p + 2)) (by rw [hmG]; exact hG2) (by rw [hmG]; exact hX2) (by rw [hmG]; exact hV2) (by omega)
  have epm2 : pm (st I1 420 (upd (I1 420) 0 (nI 0))) W = st I1 420 (upd (I1 420) 0 (nI 0)) := by unfold pm; rw [← e451, st_cm (by decide), st_id]
  rw [epm, epm2, hmG, vFin_eq hag hs hM8] at hm
  exact cs1458 hp hL hk hm (hn _ _ _ (RR_tr h hE (fun a q _ _ => st_ne q) (fun k q => by rw [st_eq, upd_ne q]) (by rw [st_ne (by decide), hE.1 452 (by omega)]; exact cn.2.2.1) (by rw [st_ne (by decide), hE.1 453 (by omega)]; exact cn.2.2.2) (fun _ _ => ⟨rfl, rfl⟩)))
theorem ca1495 (h : RR B I J) (hB : B ≤ 512) (hp : p + 7 ≤ L) (hL : L ≤ 3584) (hn : ∀ I' J' R', RR (B + 1) I' J' → Wp L xs (e + 21) 0 1738 [some (.ref 31), some (.ref 64), some (.ref 420), some (.ref 458), some (.int (nI p)), l5, l6] [] (mk I' J' R' Z) P) : Wp L xs (e + 21) 0 1495 [some (.ref 31), some (.ref 64), some (.ref 420), some (.ref 458), some (.int (nI p)), l5, l6] [] (mk I J R Z) P := by
  obtain ⟨n, W, mw, Q, ms, S, nx, mn, U, tp, gp, s, cn, wk, se, hi, mh⟩ := id h
  obtain ⟨hG, hX, hag, h35, ⟨K, hK4, hK⟩, h80, hNm⟩ := gp
  have hV := s.1
  have hs := s.2.2
  have hM8 : gM (gI I) ≤ 8 := hG.2.1.2
  have hG2 := ag_okG hag hG
  have hX2 := ag_okX hag hX
  have hV2 := ag_okV hag (sm_ok hs hV)
  obtain ⟨I1, hE, hk⟩ := k_risk (L := L) (xs := xs) (d := e + 15) (I := I) (J := J) (R := R) (Z := Z) (x := xs (p + 1)) hG hV
  replace hE : trE I I1 := ⟨fun a ha => hE a (by omega), by rw [hE 127 (by omega)]; exact cn.1, cS_cg (V := vw I 114) (fun j hj => (hE (114 + j) (by omega)).symm) cn.2.1⟩
  have e451 : I1 451 = row W := by rw [hE.1 451 (by omega)]; exact s.2.1
  have hmG : mG I1 = mG I := mG_cg (hE.1 _ (by omega)) (fun a q1 q2 => hE.1 _ (by omega)) (hE.1 _ (by omega))
  have epm : pm I1 W = I1 := by unfold pm; rw [← e451, st_id]
  obtain ⟨I2, ⟨q1, q2, q3⟩, hm⟩ := m_risk (L := L) (xs := xs) (d := e + 13) (I := I1) (J := J) (R := R) (Z := Z) (V := W) (x := xs (p + 1)) (by rw [hmG]; exact hG2) (by rw [hE.1 453 (by omega)]; exact cn.2.2.2)
  have epm2 : pm I2 W = I2 := by unfold pm; rw [← e451, ← q1 451 (by decide) (by decide), st_id]
  rw [epm, epm2, hmG, vRis_eq hag hG hX hV hs (by omega) h35] at hm
  exact cs1495 hp hL hk hm (hn _ _ _ (RR_tr h hE (fun a w1 w2 w3 => q1 a w1 (by omega)) (fun k q => by rw [q2, upd_ne q]) (by rw [q1 452 (by decide) (by decide), hE.1 452 (by omega)]; exact cn.2.2.1) q3 (fun _ _ => ⟨rfl, rfl⟩)))
theorem ca1185 (h : RR B I J) (hB : B ≤ 512) (hp : p + 7 ≤ L) (hL : L ≤ 3584) (hn : ∀ I' J' R', RR (B + 1) I' J' → Wp L xs (e + 21) 0 1738 [some (.ref 31), some (.ref 64), some (.ref 420), some (.ref 458), some (.int (nI p)), l5, l6] [] (mk I' J' R' Z) P) : Wp L xs (e + 21) 0 1185 [some (.ref 31), some (.ref 64), some (.ref 420), some (.ref 458), some (.int (nI p)), l5, l6] [] (mk I J R Z) P := by
  obtain ⟨n, W, mw, Q, ms, S, nx, mn, U, tp, gp, s, cn, wk, se, hi, mh⟩ := id h
  obtain ⟨hG, hX, hag, h35, ⟨K, hK4, hK⟩, h80, hNm⟩ := gp
  have hV := s.1
  have hs := s.2.2
  have hM8 : gM (gI I) ≤ 8 := hG.2.1.2
  have hG2 := ag_okG hag hG
  have hX2 := ag_okX hag hX
  have hV2 := ag_okV hag (sm_ok hs hV)
  obtain ⟨I1, hE, hk⟩ := k_ready (L := L) (xs := xs) (d := e + 14) (I := I) (J := J) (R := R) (Z := Z) (x := xs (p + 1)) hG hV cn.1 cn.2.1
  have e451 : I1 451 = row W := by rw [hE.1 451 (by omega)]; exact s.2.1
  have hmG : mG I1 = mG I := mG_cg (hE.1 _ (by omega)) (fun a q1 q2 => hE.1 _ (by omega)) (hE.1 _ (by omega))
  have epm : pm I1 W = I1 := by unfold pm; rw [← e451, st_id]
  obtain ⟨I2, q1, q2, q3, hm⟩ := m_ready (L := L) (xs := xs) (d := e + 13) (I := I1) (J := J) (R := R) (Z := Z) (V := W) (x := xs (p + 1)) (by rw [okM, hmG]; exact ⟨hG2, hX2⟩) (by rw [hmG]; exact hV2) (by rw [hE.1 453 (by omega)]; exact cn.2.2.2)
  have epm2 : pm I2 W = I2 := by unfold pm; rw [← e451, ← q1 451 (by decide) (by decide), st_id]
  rw [epm, epm2, hmG, vRea_eq hag hG hV hs] at hm
  exact cs1185 hp hL hk hm (hn _ _ _ (RR_tr h hE (fun a w1 w2 w3 => q1 a w1 (by omega)) (fun k q => by rw [q2, upd_ne q]) (by rw [q1 452 (by decide) (by decide), hE.1 452 (by omega)]; exact cn.2.2.1) q3 (fun _ _ => ⟨rfl, rfl⟩)))
theorem ca1210 (h : RR B I J) (hB : B ≤ 512) (hp : p + 7 ≤ L) (hL : L ≤ 3584) (hn : ∀ I' J' R', RR (B + 1) I' J' → Wp L xs (e + 21) 0 1738 [some (.ref 31), some (.ref 64), some (.ref 420), some (.ref 458), some (.int (nI p)), l5, l6] [] (mk I' J' R' Z) P) : Wp L xs (e + 21) 0 1210 [some (.ref 31), some (.ref 64), some (.ref 420), some (.ref 458), some (.int (nI p)), l5, l6] [] (mk I J R Z) P := by
  obtain ⟨n, W, mw, Q, ms, S, nx, mn, U, tp, gp, s, cn, wk, se, hi, mh⟩ := id h
  obtain ⟨hG, hX, hag, h35, ⟨K, hK4, hK⟩, h80, hNm⟩ := gp
  have hV := s.1
  have hs := s.2.2
  have hM8 : gM (gI I) ≤ 8 := hG.2.1.2
  have hG2 := ag_okG hag hG
  have hX2 := ag_okX hag hX
  have hV2 := ag_okV hag (sm_ok hs hV)
  obtain ⟨I1, hE, hk⟩ := k_plan (L := L) (xs := xs) (d := e + 14) (I := I) (J := J) (R := R) (Z := Z) (x := xs (p + 1)) (y := xs (p + 2)) hG hV cn.1 cn.2.1
  have e451 : I1 451 = row W := by rw [hE.1 451 (by omega)]; exact s.2.1
  have hmG : mG I1 = mG I := mG_cg (hE.1 _ (by omega)) (fun a q1 q2 => hE.1 _ (by omega)) (hE.1 _ (by omega))
  have epm : pm I1 W = I1 := by unfold pm; rw [← e451, st_id]
  obtain ⟨I2, q1, q2, q3, hm⟩ := m_plan (L := L) (xs := xs) (d := e + 13) (I := I1) (J := J) (R := R) (Z := Z) (V := W) (x := xs (p + 1)) (y := xs (p + 2)) (by rw [okM, hmG]; exact ⟨hG2, hX2⟩) (by rw [hmG]; exact hV2) (by rw [hE.1 453 (by omega)]; exact cn.2.2.2)
  have epm2 : pm I2 W = I2 := by unfold pm; rw [← e451, ← q1 451 (by decide) (by decide), st_id]
  rw [epm, epm2, hmG, vPla_eq hag hG hV hs] at hm
  exact cs1210 hp hL hk hm (hn _ _ _ (RR_tr h hE (fun a w1 w2 w3 => q1 a w1 (by omega)) (fun k q => by rw [q2, upd_ne q]) (by rw [q1 452 (by decide) (by decide), hE.1 452 (by omega)]; exact cn.2.2.1) q3 (fun _ _ => ⟨rfl, rfl⟩)))
theorem ca1035 (h : RR B I J) (hB : B ≤ 512) (hp : p + 7 ≤ L) (hL : L ≤ 3584) (hn : ∀ I' J' R', RR (B + 1) I' J' → Wp L xs (e + 21) 0 1738 [some (.ref 31), some (.ref 64), some (.ref 420), some (.ref 458), some (.int (nI p)), l5, l6] [] (mk I' J' R' Z) P) : Wp L xs (e + 21) 0 1035 [some (.ref 31), some (.ref 64), some (.ref 420), some (.ref 458), some (.int (nI p)), l5, l6] [] (mk I J R Z) P := by
  obtain ⟨n, W, mw, Q, ms, S, nx, mn, U, tp, gp, s, cn, wk, se, hi, mh⟩ := id h
  obtain ⟨hG, hX, hag, h35, ⟨K, hK4, hK⟩, h80, hNm⟩ := gp
  have hV := s.1
  have hs := s.2.2
  have hM8 : gM (gI I) ≤ 8 := hG.2.1.2
  have hG2 := ag_okG hag hG
  have hX2 := ag_okX hag hX
  have hV2 := ag_okV hag (sm_ok hs hV)
  obtain ⟨I1, hE, hk⟩ := k_judged (L := L) (xs := xs) (d := e + 14) (I := I) (J := J) (R := R) (Z := Z) (y := xs (p + 1)) hG hX h80 cn.1 cn.2.1 wk.1 wk.2.2
  have e451 : I1 451 = row W := by rw [hE.1 451 (by omega)]; exact s.2.1
  have hmG : mG I1 = mG I := mG_cg (hE.1 _ (by omega)) (fun a q1 q2 => hE.1 _ (by omega)) (hE.1 _ (by omega))
  have epm : pm I1 W = I1 := by unfold pm; rw [← e451, st_id]
  obtain ⟨I2, q1, q2, q3, hm⟩ := m_judged (L := L) (xs := xs) (d := e + 13) (I := I1) (J := J) (R := R) (Z := Z) (V := W) (y := xs (p + 1)) (by rw [okM, hmG]; exact ⟨hG2, hX2⟩) (by rw [hE.1 452 (by omega)]; exact cn.2.2.1) (WoM_cg (I := I) wk.2.2.1 wk.2.1 (by rw [hE.1 443 (by omega)]) (fun a k q1 q2 _ => by rw [hE.1 a (by omega)])) (by rw [hmG]; exact okW_cg hag wk.2.2)
  have epm2 : pm I2 W = I2 := by unfold pm; rw [← e451, ← q1 451 (by decide) (by decide), st_id]
  rw [epm, epm2, hmG, vJud_eq hag hG hX h80 wk.2.2] at hm
  exact cs1035 hp hL hk hm (hn _ _ _ (RR_tr h hE (fun a w1 w2 w3 => q1 a w1 (by omega)) (fun k q => by rw [q2, upd_ne q]) q3 (by rw [q1 453 (by decide) (by decide), hE.1 453 (by omega)]; exact cn.2.2.2) (fun _ _ => ⟨rfl, rfl⟩)))
theorem ca1611 (h : RR B I J) (hB : B ≤ 512) (hp : p + 7 ≤ L) (hL : L ≤ 3584) (hn : ∀ I' J' R', RR (B + 1) I' J' → Wp L xs (e + 21) 0 1738 [some (.ref 31), some (.ref 64), some (.ref 420), some (.ref 458), some (.int (nI p)), l5, l6] [] (mk I' J' R' Z) P) : Wp L xs (e + 21) 0 1611 [some (.ref 31), some (.ref 64), some (.ref 420), some (.ref 458), some (.int (nI p)), l5, l6] [] (mk I J R Z) P := by
  obtain ⟨n, W, mw, Q, ms, S, nx, mn, U, tp, gp, s, cn, wk, se, hi, mh⟩ := id h
  obtain ⟨hG, hX, hag, h35, ⟨K, hK4, hK⟩, h80, hNm⟩ := gp
  have hV := s.1
  have hs := s.2.2
  have hM8 : gM (gI I) ≤ 8 := hG.2.1.2
  have hG2 := ag_okG hag hG
  have hX2 := ag_okX hag hX
  have hV2 := ag_okV hag (sm_ok hs hV)
  obtain ⟨I1, hE, hk⟩ := k_drives (L := L) (xs := xs) (d := e + 13) (I := I) (J := J) (R := R) (Z := Z) (x := xs (p + 1)) (y := xs (p + 2)) (z := xs (p + 3)) hG hX hV (by omega) cn.1 cn.2.1
  have e451 : I1 451 = row W := by rw [hE.1 451 (by omega)]; exact s.2.1
  have hmG : mG I1 = mG I := mG_cg (hE.1 _ (by omega)) (fun a q1 q2 => hE.1 _ (by omega)) (hE.1 _ (by omega))
  have epm : pm I1 W = I1 := by unfold pm; rw [← e451, st_id]
  obtain ⟨I2, J2, q1, q2, q3, q4, hm⟩ := m_drives (L := L) (xs := xs) (d := e + 12) (I := I1) (J := J) (R := R) (Z := Z) (V := W) (B := B) (x := xs (p + 1)) (y := xs (p + 2)) (z := xs (p + 3)) (by rw [okM, hmG]; exact ⟨hG2, hX2⟩) (by rw [hmG]; exact hV2) (by omega) (by rw [hE.1 452 (by omega)]; exact cn.2.2.1)
  have epm2 : pm I2 W = I2 := by unfold pm; rw [← e451, ← q1 451 (by decide) (by decide), st_id]
  rw [epm, epm2, hmG, vDri_eq hag hG hX hV hs (by omega)] at hm
  exact cs1611 hp hL hk hm (hn _ _ _ (RR_tr h hE (fun a w1 w2 w3 => q1 a w1 (by omega)) (fun k q => by rw [q2, upd_ne q]) q3 (by rw [q1 453 (by decide) (by decide), hE.1 453 (by omega)]; exact cn.2.2.2) (fun c _ => ⟨q4 82 c (Or.inl (by decide)), q4 423 c (Or.inl (by decide))⟩)))
end CA
