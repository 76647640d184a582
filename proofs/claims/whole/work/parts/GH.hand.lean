/-! the calls by hand, from the relation; written by wip/gen/ghand.py -/
set_option maxRecDepth 8192
section CB
variable {L : Nat} {xs : Nat → Int32} {e p B n mw ms nx mn : Nat} {P : Option Value → Hp → Prop} {I I1 I2 : Mi} {J J1 J2 : Mj} {R R1 R2 : Mr} {Z : Mz} {l5 l6 : Option Value} {v : Int32} {W : Vw} {Q : Wq} {S : Sq} {U : Uq}
theorem hand_v {w c r : Nat} {ok : Bool} (gp : GP I J) (s : ST B I W) (hw : w < 11) (hok : ok = true → (w < 7 → c < gM (gI I)) ∧ ((w % 2 = 1 ∨ w = 6 ∨ w = 8) → r < gN (gI I))) : (if ok = true then (stp (mG I) W w c r).1 else -1) = (if ok = true then (stp (gI I) (vw I 102) w c r).1 else -1) ∧ (ok && cnd (mG I) W w c r) = (ok && cnd (gI I) (vw I 102) w c r) ∧ (ok = true → smV (gI I) (stp (gI I) (vw I 102) w c r).2 (stp (mG I) W w c r).2) := by
  obtain ⟨hG, hX, hag, -⟩ := gp
  cases ok with
  | false =>
    rw [if_neg (by decide), if_neg (by decide), Bool.false_and, Bool.false_and]
    exact ⟨rfl, rfl, fun q => by cases q⟩
  | true =>
    obtain ⟨h1, h2⟩ := hok rfl
    obtain ⟨a1, a2, a3⟩ := stp_sm hw s.2.2 s.1 hG hX h1 h2
    rw [ag_stp (V := W) hw hag h1] at a1 a2
    rw [ag_cnd (V := W) hw hag h1] at a3
    rw [if_pos rfl, if_pos rfl, Bool.true_and, Bool.true_and]
    exact ⟨a1, a3, fun _ => a2⟩
theorem okV_Upu {G : Gv} {V : Vw} {i : Nat} (h : ∀ i, i < mn → okV B G (U i)) (h16 : mn ≤ 16) (hV : okV B G V) (hi : i < min (mn + 1) 16) : okV B G (Upu U mn V i) := by
  unfold Upu
  by_cases h1 : mn < 16
  · rw [if_pos h1]
    by_cases h2 : i = mn
    · rw [if_pos h2]; exact hV
    · rw [if_neg h2]; exact h i (by omega)
  · rw [if_neg h1]
    by_cases h2 : i = 15
    · rw [if_pos h2]; exact hV
    · rw [if_neg h2]; exact h (i + 1) (by omega)
theorem hand0 {nx' mn' : Nat} {U' : Uq} {V2 W2 : Vw} (tp : TP n I) (gp : GP I J) (cn : CN I) (wk : WK I 90 0 mw Q) (se : SE I 98 0 ms S) (mh : MK B I) (e1 : hnd I I1) (e127 : can 8 (I1 127)) (eS : ∀ j, j < 12 → I1 (102 + j) = V2 j) (m1 : ∀ a, a ≠ 420 → a ≠ 455 → I2 a = I1 a) (m2 : ∀ k, k ≠ 47 → k ≠ 0 → I2 420 k = I1 420 k) (hV2 : okV (B + 1) (gI I) V2) (hs2 : smV (gI I) V2 W2) (hC : HiC I1 nx' mn' U') (hM : HiM I2 (mG I) mn' U') (hO : ∀ i, i < mn' → okV (B + 1) (gI I) (U' i)) : RR (B + 1) (pm I2 W2) J := by
  have c0 : pm I2 W2 451 = row W2 := st_eq
  have c1 : ∀ a, a ≠ 420 → a ≠ 455 → a ≠ 451 → pm I2 W2 a = I1 a := fun a q1 q2 q3 => by unfold pm; rw [st_ne q3, m1 a q1 q2]
  have c2 : pm I2 W2 420 = I2 420 := st_ne (by decide)
  have c5 : pm I2 W2 455 = I2 455 := st_ne (by decide)
  generalize pm I2 W2 = F at c0 c1 c2 c5 ⊢
  have cI : ∀ a, (a < 102 ∨ (114 ≤ a ∧ a < 126) ∨ 335 ≤ a) → a ≠ 420 → a ≠ 455 → a ≠ 451 → F a = I a := fun a q q1 q2 q3 => by rw [c1 a q1 q2 q3, e1 a q]
  have hg : agG (gI I) (gI F) := gI_cg fun a q1 q2 => cI a (by omega) (by omega) (by omega) (by omega)
  have hmF : mG F = mG I := mG_cg (cI _ (by omega) (by omega) (by omega) (by omega)) (fun a q1 q2 => cI _ (by omega) (by omega) (by omega) (by omega)) (cI _ (by omega) (by omega) (by omega) (by omega))
  have hV : ∀ j, j < 12 → V2 j = vw F 102 j := fun j hj => by show _ = F (102 + j); rw [c1 _ (by omega) (by omega) (by omega), eS j hj]
  obtain ⟨W', w1, w2⟩ := sm_cg hV hs2
  refine ⟨n, W', mw, Q, ms, S, nx', mn', U', ?_, ?_, ⟨?_, ?_, ?_⟩, ⟨?_, ?_, ?_, ?_⟩, ?_, ?_, ⟨?_, ?_, ?_⟩, ?_⟩
  · exact TP_cg tp (by rw [cI 65 (by omega) (by omega) (by omega) (by omega)]) (by rw [c2, m2 1 (by decide) (by decide), e1 420 (by omega)]) (cI _ (by omega) (by omega) (by omega) (by omega)) (cI _ (by omega) (by omega) (by omega) (by omega))
  · exact GP_cg gp (fun a q1 q2 => cI a (by omega) (by omega) (by omega) (by omega)) (by rw [hmF]; exact ag_rf) (fun _ _ => ⟨rfl, rfl⟩)
  · exact ag_okV hg (okV_cg hV hV2)
  · rw [c0]; exact rowW fun j hj => (w1 j hj).symm
  · exact ag_sm hg w2
  · rw [c1 127 (by omega) (by omega) (by omega)]; exact e127
  · exact cS_cg (V := vw I 114) (fun j hj => (cI (114 + j) (by omega) (by omega) (by omega) (by omega)).symm) cn.2.1
  · rw [cI 452 (by omega) (by omega) (by omega) (by omega)]; exact cn.2.2.1
  · rw [cI 453 (by omega) (by omega) (by omega) (by omega)]; exact cn.2.2.2
  · exact WK_cg wk hg (fun a ha => cI _ (by omega) (by omega) (by omega) (by omega)) (by rw [cI 443 (by omega) (by omega) (by omega) (by omega)]) (fun a k q1 q2 _ => by rw [cI a (by omega) (by omega) (by omega) (by omega)])
  · exact SE_cg se hg (fun a ha => cI _ (by omega) (by omega) (by omega) (by omega)) (fun a q1 q2 => cI a (by omega) (by omega) (by omega) (by omega))
  · exact HiC_cg hC fun a q1 q2 => c1 a (by omega) (by omega) (by omega)
  · exact HiM_cg hM (ag_tr (ag_sym gp.2.2.1) hg) (by rw [c2]) c5
  · exact fun i q => ag_okV hg (hO i q)
  · exact MK_cg mh (by omega) hg (fun a q1 q2 => cI a (by omega) (by omega) (by omega) (by omega)) (cI _ (by omega) (by omega) (by omega) (by omega)) (cI _ (by omega) (by omega) (by omega) (by omega)) (fun j _ => by rw [cI 443 (by omega) (by omega) (by omega) (by omega)]) (fun a k q1 q2 _ => by rw [cI a (by omega) (by omega) (by omega) (by omega)]) (fun j m S _ _ hS => SeM_cg hS fun a q1 q2 => cI a (by omega) (by omega) (by omega) (by omega))
theorem hand {w c r nx' : Nat} {ok : Bool} (hB : B ≤ 512) (tp : TP n I) (gp : GP I J) (s : ST B I W) (cn : CN I) (wk : WK I 90 0 mw Q) (se : SE I 98 0 ms S) (hi : HI B I nx mn U) (mh : MK B I) (hw : w < 11) (hok : ok = true → (w < 7 → c < gM (gI I)) ∧ ((w % 2 = 1 ∨ w = 6 ∨ w = 8) → r < gN (gI I))) (hP : hPo I I1 nx' mn U ok w c r) (hM : mPo I1 I2 mn U (vw I 102) (ok && cnd (mG I) W w c r)) : RR (B + 1) (pm I2 (if ok = true then (stp (mG I) W w c r).2 else W)) J := by
  obtain ⟨-, hvc, hvs⟩ := hand_v (J := J) gp s hw hok
  obtain ⟨e1, e127, eS, eH⟩ := hP
  obtain ⟨m1, m2, m3, mH⟩ := hM
  rw [hvc] at mH
  have hmG : mG I1 = mG I := mG_cg (e1 _ (by omega)) (fun a q1 q2 => e1 _ (by omega)) (e1 _ (by omega))
  rw [hmG] at mH
  have hV2 : okV (B + 1) (gI I) (if ok = true then (stp (gI I) (vw I 102) w c r).2 else vw I 102) := by
    cases ok with
    | false => exact okV_mono s.1 (by omega)
    | true => exact (okV_stp hw s.1 gp.1 gp.2.1 (hok rfl).1 (hok rfl).2 (by omega)).1
  have hs2 : smV (gI I) (if ok = true then (stp (gI I) (vw I 102) w c r).2 else vw I 102) (if ok = true then (stp (mG I) W w c r).2 else W) := by
    cases ok with
    | false => exact s.2.2
    | true => exact hvs rfl
  generalize (if ok = true then (stp (gI I) (vw I 102) w c r).2 else vw I 102) = V2 at eS hV2 hs2
  generalize (if ok = true then (stp (mG I) W w c r).2 else W) = W2 at hs2 ⊢
  generalize (ok && cnd (gI I) (vw I 102) w c r) = b at eH mH
  cases b with
  | false => exact hand0 tp gp cn wk se mh e1 e127 eS m1 m2 hV2 hs2 eH mH fun i q => okV_mono (hi.2.2 i q) (by omega)
  | true => exact hand0 tp gp cn wk se mh e1 e127 eS m1 m2 hV2 hs2 eH mH fun i q => okV_mono (okV_Upu hi.2.2 hi.1.2.1.2 s.1 q) (by omega)
theorem ca711 (h : RR B I J) (hB : B ≤ 512) (hp : p + 7 ≤ L) (hL : L ≤ 3584) (hn : ∀ I' J' R', RR (B + 1) I' J' → Wp L xs (e + 21) 0 1738 [some (.ref 31), some (.ref 64), some (.ref 420), some (.ref 458), some (.int (nI p)), l5, l6] [] (mk I' J' R' Z) P) : Wp L xs (e + 21) 0 711 [some (.ref 31), some (.ref 64), some (.ref 420), some (.ref 458), some (.int (nI p)), l5, l6] [] (mk I J R Z) P := by
  obtain ⟨n, W, mw, Q, ms, S, nx, mn, U, tp, gp, s, cn, wk, se, hi, mh⟩ := id h
  obtain ⟨hG, hX, hag, h35, ⟨K, hK4, hK⟩, h80, hNm⟩ := gp
  have hV := s.1
  have hs := s.2.2
  have hM8 : gM (gI I) ≤ 8 := hG.2.1.2
  have hG2 := ag_okG hag hG
  have hX2 := ag_okX hag hX
  have hV2 := ag_okV hag (sm_ok hs hV)
  have hN5 : gN (gI I) ≤ 5 := hG.1.2
  have gp : GP I J := ⟨hG, hX, hag, h35, ⟨K, hK4, hK⟩, h80, hNm⟩
  obtain ⟨I1, nx', hP, hk⟩ := k_propose (L := L) (xs := xs) (d := e + 13) (I := I) (J := J) (R := R) (Z := Z) (x := xs (p + 1)) hG hX hV (by omega) cn.1 hi.1
  have e451 : I1 451 = row W := by rw [hP.1 451 (by omega)]; exact s.2.1
  have hmG : mG I1 = mG I := mG_cg (hP.1 _ (by omega)) (fun a q1 q2 => hP.1 _ (by omega)) (hP.1 _ (by omega))
  have epm : pm I1 W = I1 := by unfold pm; rw [← e451, st_id]
  have hHM : HiM I1 (mG I1) mn U := HiM_cg hi.2.1 (by rw [hmG]; exact hag) (by rw [hP.1 420 (by omega)]) (hP.1 455 (by omega))
  obtain ⟨I2, hM, hm⟩ := m_propose (L := L) (xs := xs) (d := e + 13) (I := I1) (J := J) (R := R) (Z := Z) (V := W) (B := B) (V0 := vw I 102) (x := xs (p + 1)) (by rw [okM, hmG]; exact ⟨hG2, hX2⟩) (by rw [hmG]; exact hV2) (by omega) (by rw [hmG]; exact ag_sm hag hs) hHM hi.1.2.1.2
  have hok : (isR (gM (gI I)) (xs (p + 1))) = true → (0 < 7 → (xs (p + 1)).toNatClampNeg < gM (gI I)) ∧ ((0 % 2 = 1 ∨ 0 = 6 ∨ 0 = 8) → 0 < gN (gI I)) := fun q => ⟨fun _ => isR_lt (by omega) q, fun q2 => by omega⟩
  obtain ⟨v1, v2, -⟩ := hand_v gp s (by decide) hok
  rw [hmG, ← ag_M hag] at hM hm
  rw [epm, v1] at hm
  have hR := hand hB tp gp s cn wk se hi mh (by decide) hok hP hM
  exact cs711 hp hL hk hm (hn _ _ _ hR)
theorem ca736 (h : RR B I J) (hB : B ≤ 512) (hp : p + 7 ≤ L) (hL : L ≤ 3584) (hn : ∀ I' J' R', RR (B + 1) I' J' → Wp L xs (e + 21) 0 1738 [some (.ref 31), some (.ref 64), some (.ref 420), some (.ref 458), some (.int (nI p)), l5, l6] [] (mk I' J' R' Z) P) : Wp L xs (e + 21) 0 736 [some (.ref 31), some (.ref 64), some (.ref 420), some (.ref 458), some (.int (nI p)), l5, l6] [] (mk I J R Z) P := by
  obtain ⟨n, W, mw, Q, ms, S, nx, mn, U, tp, gp, s, cn, wk, se, hi, mh⟩ := id h
  obtain ⟨hG, hX, hag, h35, ⟨K, hK4, hK⟩, h80, hNm⟩ := gp
  have hV := s.1
  have hs := s.2.2
  have hM8 : gM (gI I) ≤ 8 := hG.2.1.2
  have hG2 := ag_okG hag hG
  have hX2 := ag_okX hag hX
  have hV2 := ag_okV hag (sm_ok hs hV)
  have hN5 : gN (gI I) ≤ 5 := hG.1.2
  have gp : GP I J := ⟨hG, hX, hag, h35, ⟨K, hK4, hK⟩, h80, hNm⟩
  obtain ⟨I1, nx', hP, hk⟩ := k_ask (L := L) (xs := xs) (d := e + 13) (I := I) (J := J) (R := R) (Z := Z) (x := xs (p + 1)) (y := xs (p + 2)) hG hX hV (by omega) cn.1 hi.1
  have e451 : I1 451 = row W := by rw [hP.1 451 (by omega)]; exact s.2.1
  have hmG : mG I1 = mG I := mG_cg (hP.1 _ (by omega)) (fun a q1 q2 => hP.1 _ (by omega)) (hP.1 _ (by omega))
  have epm : pm I1 W = I1 := by unfold pm; rw [← e451, st_id]
  have hHM : HiM I1 (mG I1) mn U := HiM_cg hi.2.1 (by rw [hmG]; exact hag) (by rw [hP.1 420 (by omega)]) (hP.1 455 (by omega))
  obtain ⟨I2, hM, hm⟩ := m_ask (L := L) (xs := xs) (d := e + 13) (I := I1) (J := J) (R := R) (Z := Z) (V := W) (B := B) (V0 := vw I 102) (x := xs (p + 1)) (y := xs (p + 2)) (by rw [okM, hmG]; exact ⟨hG2, hX2⟩) (by rw [hmG]; exact hV2) (by omega) (by rw [hmG]; exact ag_sm hag hs) hHM hi.1.2.1.2
  have hok : ((isR (gM (gI I)) (xs (p + 1)) && isR (gN (gI I)) (xs (p + 2)))) = true → (1 < 7 → (xs (p + 1)).toNatClampNeg < gM (gI I)) ∧ ((1 % 2 = 1 ∨ 1 = 6 ∨ 1 = 8) → (xs (p + 2)).toNatClampNeg < gN (gI I)) := fun q => ⟨fun _ => isR_lt (by omega) (by simp at q; exact q.1), fun _ => isR_lt (by omega) (by simp at q; exact q.2)⟩
  obtain ⟨v1, v2, -⟩ := hand_v gp s (by decide) hok
  rw [hmG, ← ag_M hag, ← ag_N hag] at hM hm
  rw [epm, v1] at hm
  have hR := hand hB tp gp s cn wk se hi mh (by decide) hok hP hM
  exact cs736 hp hL hk hm (hn _ _ _ hR)
theorem ca773 (h : RR B I J) (hB : B ≤ 512) (hp : p + 7 ≤ L) (hL : L ≤ 3584) (hn : ∀ I' J' R', RR (B + 1) I' J' → Wp L xs (e + 21) 0 1738 [some (.ref 31), some (.ref 64), some (.ref 420), some (.ref 458), some (.int (nI p)), l5, l6] [] (mk I' J' R' Z) P) : Wp L xs (e + 21) 0 773 [some (.ref 31), some (.ref 64), some (.ref 420), some (.ref 458), some (.int (nI p)), l5, l6] [] (mk I J R Z) P := by
  obtain ⟨n, W, mw, Q, ms, S, nx, mn, U, tp, gp, s, cn, wk, se, hi, mh⟩ := id h
  obtain ⟨hG, hX, hag, h35, ⟨K, hK4, hK⟩, h80, hNm⟩ := gp
  have hV := s.1
  have hs := s.2.2
  have hM8 : gM (gI I) ≤ 8 := hG.2.1.2
  have hG2 := ag_okG hag hG
  have hX2 := ag_okX hag hX
  have hV2 := ag_okV hag (sm_ok hs hV)
  have hN5 : gN (gI I) ≤ 5 := hG.1.2
  have gp : GP I J := ⟨hG, hX, hag, h35, ⟨K, hK4, hK⟩, h80, hNm⟩
  obtain ⟨I1, nx', hP, hk⟩ := k_decide (L := L) (xs := xs) (d := e + 13) (I := I) (J := J) (R := R) (Z := Z) (x := xs (p + 1)) hG hX hV (by omega) cn.1 hi.1
  have e451 : I1 451 = row W := by rw [hP.1 451 (by omega)]; exact s.2.1
  have hmG : mG I1 = mG I := mG_cg (hP.1 _ (by omega)) (fun a q1 q2 => hP.1 _ (by omega)) (hP.1 _ (by omega))
  have epm : pm I1 W = I1 := by unfold pm; rw [← e451, st_id]
  have hHM : HiM I1 (mG I1) mn U := HiM_cg hi.2.1 (by rw [hmG]; exact hag) (by rw [hP.1 420 (by omega)]) (hP.1 455 (by omega))
  obtain ⟨I2, hM, hm⟩ := m_decide (L := L) (xs := xs) (d := e + 13) (I := I1) (J := J) (R := R) (Z := Z) (V := W) (B := B) (V0 := vw I 102) (x := xs (p + 1)) (by rw [okM, hmG]; exact ⟨hG2, hX2⟩) (by rw [hmG]; exact hV2) (by omega) (by rw [hmG]; exact ag_sm hag hs) hHM hi.1.2.1.2
  have hok : (isR (gM (gI I)) (xs (p + 1))) = true → (2 < 7 → (xs (p + 1)).toNatClampNeg < gM (gI I)) ∧ ((2 % 2 = 1 ∨ 2 = 6 ∨ 2 = 8) → 0 < gN (gI I)) := fun q => ⟨fun _ => isR_lt (by omega) q, fun q2 => by omega⟩
  obtain ⟨v1, v2, -⟩ := hand_v gp s (by decide) hok
  rw [hmG, ← ag_M hag] at hM hm
  rw [epm, v1] at hm
  have hR := hand hB tp gp s cn wk se hi mh (by decide) hok hP hM
  exact cs773 hp hL hk hm (hn _ _ _ hR)
theorem ca798 (h : RR B I J) (hB : B ≤ 512) (hp : p + 7 ≤ L) (hL : L ≤ 3584) (hn : ∀ I' J' R', RR (B + 1) I' J' → Wp L xs (e + 21) 0 1738 [some (.ref 31), some (.ref 64), some (.ref 420), some (.ref 458), some (.int (nI p)), l5, l6] [] (mk I' J' R' Z) P) : Wp L xs (e + 21) 0 798 [some (.ref 31), some (.ref 64), some (.ref 420), some (.ref 458), some (.int (nI p)), l5, l6] [] (mk I J R Z) P := by
  obtain ⟨n, W, mw, Q, ms, S, nx, mn, U, tp, gp, s, cn, wk, se, hi, mh⟩ := id h
  obtain ⟨hG, hX, hag, h35, ⟨K, hK4, hK⟩, h80, hNm⟩ := gp
  have hV := s.1
  have hs := s.2.2
  have hM8 : gM (gI I) ≤ 8 := hG.2.1.2
  have hG2 := ag_okG hag hG
  have hX2 := ag_okX hag hX
  have hV2 := ag_okV hag (sm_ok hs hV)
  have hN5 : gN (gI I) ≤ 5 := hG.1.2
  have gp : GP I J := ⟨hG, hX, hag, h35, ⟨K, hK4, hK⟩, h80, hNm⟩
  obtain ⟨I1, nx', hP, hk⟩ := k_accept (L := L) (xs := xs) (d := e + 13) (I := I) (J := J) (R := R) (Z := Z) (x := xs (p + 1)) (y := xs (p + 2)) hG hX hV (by omega) cn.1 hi.1
  have e451 : I1 451 = row W := by rw [hP.1 451 (by omega)]; exact s.2.1
  have hmG : mG I1 = mG I := mG_cg (hP.1 _ (by omega)) (fun a q1 q2 => hP.1 _ (by omega)) (hP.1 _ (by omega))
  have epm : pm I1 W = I1 := by unfold pm; rw [← e451, st_id]
  have hHM : HiM I1 (mG I1) mn U := HiM_cg hi.2.1 (by rw [hmG]; exact hag) (by rw [hP.1 420 (by omega)]) (hP.1 455 (by omega))
  obtain ⟨I2, hM, hm⟩ := m_accept (L := L) (xs := xs) (d := e + 13) (I := I1) (J := J) (R := R) (Z := Z) (V := W) (B := B) (V0 := vw I 102) (x := xs (p + 1)) (y := xs (p + 2)) (by rw [okM, hmG]; exact ⟨hG2, hX2⟩) (by rw [hmG]; exact hV2) (by omega) (by rw [hmG]; exact ag_sm hag hs) hHM hi.1.2.1.2
  have hok : ((isR (gM (gI I)) (xs (p + 1)) && isR (gN (gI I)) (xs (p + 2)))) = true → (3 < 7 → (xs (p + 1)).toNatClampNeg < gM (gI I)) ∧ ((3 % 2 = 1 ∨ 3 = 6 ∨ 3 = 8) → (xs (p + 2)).toNatClampNeg < gN (gI I)) := fun q => ⟨fun _ => isR_lt (by omega) (by simp at q; exact q.1), fun _ => isR_lt (by omega) (by simp at q; exact q.2)⟩
  obtain ⟨v1, v2, -⟩ := hand_v gp s (by decide) hok
  rw [hmG, ← ag_M hag, ← ag_N hag] at hM hm
  rw [epm, v1] at hm
  have hR := hand hB tp gp s cn wk se hi mh (by decide) hok hP hM
  exact cs798 hp hL hk hm (hn _ _ _ hR)
theorem ca835 (h : RR B I J) (hB : B ≤ 512) (hp : p + 7 ≤ L) (hL : L ≤ 3584) (hn : ∀ I' J' R', RR (B + 1) I' J' → Wp L xs (e + 21) 0 1738 [some (.ref 31), some (.ref 64), some (.ref 420), some (.ref 458), some (.int (nI p)), l5, l6] [] (mk I' J' R' Z) P) : Wp L xs (e + 21) 0 835 [some (.ref 31), some (.ref 64), some (.ref 420), some (.ref 458), some (.int (nI p)), l5, l6] [] (mk I J R Z) P := by
  obtain ⟨n, W, mw, Q, ms, S, nx, mn, U, tp, gp, s, cn, wk, se, hi, mh⟩ := id h
  obtain ⟨hG, hX, hag, h35, ⟨K, hK4, hK⟩, h80, hNm⟩ := gp
  have hV := s.1
  have hs := s.2.2
  have hM8 : gM (gI I) ≤ 8 := hG.2.1.2
  have hG2 := ag_okG hag hG
  have hX2 := ag_okX hag hX
  have hV2 := ag_okV hag (sm_ok hs hV)
  have hN5 : gN (gI I) ≤ 5 := hG.1.2
  have gp : GP I J := ⟨hG, hX, hag, h35, ⟨K, hK4, hK⟩, h80, hNm⟩
  obtain ⟨I1, nx', hP, hk⟩ := k_settle (L := L) (xs := xs) (d := e + 13) (I := I) (J := J) (R := R) (Z := Z) (x := xs (p + 1)) hG hX hV (by omega) cn.1 hi.1
  have e451 : I1 451 = row W := by rw [hP.1 451 (by omega)]; exact s.2.1
  have hmG : mG I1 = mG I := mG_cg (hP.1 _ (by omega)) (fun a q1 q2 => hP.1 _ (by omega)) (hP.1 _ (by omega))
  have epm : pm I1 W = I1 := by unfold pm; rw [← e451, st_id]
  have hHM : HiM I1 (mG I1) mn U := HiM_cg hi.2.1 (by rw [hmG]; exact hag) (by rw [hP.1 420 (by omega)]) (hP.1 455 (by omega))
  obtain ⟨I2, hM, hm⟩ := m_settle (L := L) (xs := xs) (d := e + 13) (I := I1) (J := J) (R := R) (Z := Z) (V := W) (B := B) (V0 := vw I 102) (x := xs (p + 1)) (by rw [okM, hmG]; exact ⟨hG2, hX2⟩) (by rw [hmG]; exact hV2) (by omega) (by rw [hmG]; exact ag_sm hag hs) hHM hi.1.2.1.2
  have hok : (isR (gM (gI I)) (xs (p + 1))) = true → (4 < 7 → (xs (p + 1)).toNatClampNeg < gM (gI I)) ∧ ((4 % 2 = 1 ∨ 4 = 6 ∨ 4 = 8) → 0 < gN (gI I)) := fun q => ⟨fun _ => isR_lt (by omega) q, fun q2 => by omega⟩
  obtain ⟨v1, v2, -⟩ := hand_v gp s (by decide) hok
  rw [hmG, ← ag_M hag] at hM hm
  rw [epm, v2] at hm
  have hR := hand hB tp gp s cn wk se hi mh (by decide) hok hP hM
  exact cs835 hp hL hk hm (hn _ _ _ hR)
theorem ca860 (h : RR B I J) (hB : B ≤ 512) (hp : p + 7 ≤ L) (hL : L ≤ 3584) (hn : ∀ I' J' R', RR (B + 1) I' J' → Wp L xs (e + 21) 0 1738 [some (.ref 31), some (.ref 64), some (.ref 420), some (.ref 458), some (.int (nI p)), l5, l6] [] (mk I' J' R' Z) P) : Wp L xs (e + 21) 0 860 [some (.ref 31), some (.ref 64), some (.ref 420), some (.ref 458), some (.int (nI p)), l5, l6] [] (mk I J R Z) P := by
  obtain ⟨n, W, mw, Q, ms, S, nx, mn, U, tp, gp, s, cn, wk, se, hi, mh⟩ := id h
  obtain ⟨hG, hX, hag, h35, ⟨K, hK4, hK⟩, h80, hNm⟩ := gp
  have hV := s.1
  have hs := s.2.2
  have hM8 : gM (gI I) ≤ 8 := hG.2.1.2
  have hG2 := ag_okG hag hG
  have hX2 := ag_okX hag hX
  have hV2 := ag_okV hag (sm_ok hs hV)
  have hN5 : gN (gI I) ≤ 5 := hG.1.2
  have gp : GP I J := ⟨hG, hX, hag, h35, ⟨K, hK4, hK⟩, h80, hNm⟩
  obtain ⟨I1, nx', hP, hk⟩ := k_tell (L := L) (xs := xs) (d := e + 13) (I := I) (J := J) (R := R) (Z := Z) (x := xs (p + 1)) (y := xs (p + 2)) hG hX hV (by omega) cn.1 hi.1
  have e451 : I1 451 = row W := by rw [hP.1 451 (by omega)]; exact s.2.1
  have hmG : mG I1 = mG I := mG_cg (hP.1 _ (by omega)) (fun a q1 q2 => hP.1 _ (by omega)) (hP.1 _ (by omega))
  have epm : pm I1 W = I1 := by unfold pm; rw [← e451, st_id]
  have hHM : HiM I1 (mG I1) mn U := HiM_cg hi.2.1 (by rw [hmG]; exact hag) (by rw [hP.1 420 (by omega)]) (hP.1 455 (by omega))
  obtain ⟨I2, hM, hm⟩ := m_tell (L := L) (xs := xs) (d := e + 13) (I := I1) (J := J) (R := R) (Z := Z) (V := W) (B := B) (V0 := vw I 102) (x := xs (p + 1)) (y := xs (p + 2)) (by rw [okM, hmG]; exact ⟨hG2, hX2⟩) (by rw [hmG]; exact hV2) (by omega) (by rw [hmG]; exact ag_sm hag hs) hHM hi.1.2.1.2
  have hok : ((isR (gM (gI I)) (xs (p + 1)) && isR (gN (gI I)) (xs (p + 2)))) = true → (5 < 7 → (xs (p + 1)).toNatClampNeg < gM (gI I)) ∧ ((5 % 2 = 1 ∨ 5 = 6 ∨ 5 = 8) → (xs (p + 2)).toNatClampNeg < gN (gI I)) := fun q => ⟨fun _ => isR_lt (by omega) (by simp at q; exact q.1), fun _ => isR_lt (by omega) (by simp at q; exact q.2)⟩
  obtain ⟨v1, v2, -⟩ := hand_v gp s (by decide) hok
  rw [hmG, ← ag_M hag, ← ag_N hag] at hM hm
  rw [epm, v2] at hm
  have hR := hand hB tp gp s cn wk se hi mh (by decide) hok hP hM
  exact cs860 hp hL hk hm (hn _ _ _ hR)
theorem ca897 (h : RR B I J) (hB : B ≤ 512) (hp : p + 7 ≤ L) (hL : L ≤ 3584) (hn : ∀ I' J' R', RR (B + 1) I' J' → Wp L xs (e + 21) 0 1738 [some (.ref 31), some (.ref 64), some (.ref 420), some (.ref 458), some (.int (nI p)), l5, l6] [] (mk I' J' R' Z) P) : Wp L xs (e + 21) 0 897 [some (.ref 31), some (.ref 64), some (.ref 420), some (.ref 458), some (.int (nI p)), l5, l6] [] (mk I J R Z) P := by
  obtain ⟨n, W, mw, Q, ms, S, nx, mn, U, tp, gp, s, cn, wk, se, hi, mh⟩ := id h
  obtain ⟨hG, hX, hag, h35, ⟨K, hK4, hK⟩, h80, hNm⟩ := gp
  have hV := s.1
  have hs := s.2.2
  have hM8 : gM (gI I) ≤ 8 := hG.2.1.2
  have hG2 := ag_okG hag hG
  have hX2 := ag_okX hag hX
  have hV2 := ag_okV hag (sm_ok hs hV)
  have hN5 : gN (gI I) ≤ 5 := hG.1.2
  have gp : GP I J := ⟨hG, hX, hag, h35, ⟨K, hK4, hK⟩, h80, hNm⟩
  obtain ⟨I1, nx', hP, hk⟩ := k_down (L := L) (xs := xs) (d := e + 13) (I := I) (J := J) (R := R) (Z := Z) (x := xs (p + 1)) hG hX hV (by omega) cn.1 hi.1
  have e451 : I1 451 = row W := by rw [hP.1 451 (by omega)]; exact s.2.1
  have hmG : mG I1 = mG I := mG_cg (hP.1 _ (by omega)) (fun a q1 q2 => hP.1 _ (by omega)) (hP.1 _ (by omega))
  have epm : pm I1 W = I1 := by unfold pm; rw [← e451, st_id]
  have hHM : HiM I1 (mG I1) mn U := HiM_cg hi.2.1 (by rw [hmG]; exact hag) (by rw [hP.1 420 (by omega)]) (hP.1 455 (by omega))
  obtain ⟨I2, hM, hm⟩ := m_down (L := L) (xs := xs) (d := e + 13) (I := I1) (J := J) (R := R) (Z := Z) (V := W) (B := B) (V0 := vw I 102) (x := xs (p + 1)) (by rw [okM, hmG]; exact ⟨hG2, hX2⟩) (by rw [hmG]; exact hV2) (by omega) (by rw [hmG]; exact ag_sm hag hs) hHM hi.1.2.1.2
  have hok : (isR (gN (gI I)) (xs (p + 1))) = true → (8 < 7 → 0 < gM (gI I)) ∧ ((8 % 2 = 1 ∨ 8 = 6 ∨ 8 = 8) → (xs (p + 1)).toNatClampNeg < gN (gI I)) := fun q => ⟨fun q2 => by omega, fun _ => isR_lt (by omega) q⟩
  obtain ⟨v1, v2, -⟩ := hand_v gp s (by decide) hok
  rw [hmG, ← ag_N hag] at hM hm
  rw [epm, v2] at hm
  have hR := hand hB tp gp s cn wk se hi mh (by decide) hok hP hM
  exact cs897 hp hL hk hm (hn _ _ _ hR)
theorem ca922 (h : RR B I J) (hB : B ≤ 512) (hp : p + 7 ≤ L) (hL : L ≤ 3584) (hn : ∀ I' J' R', RR (B + 1) I' J' → Wp L xs (e + 21) 0 1738 [some (.ref 31), some (.ref 64), some (.ref 420), some (.ref 458), some (.int (nI p)), l5, l6] [] (mk I' J' R' Z) P) : Wp L xs (e + 21) 0 922 [some (.ref 31), some (.ref 64), some (.ref 420), some (.ref 458), some (.int (nI p)), l5, l6] [] (mk I J R Z) P := by
  obtain ⟨n, W, mw, Q, ms, S, nx, mn, U, tp, gp, s, cn, wk, se, hi, mh⟩ := id h
  obtain ⟨hG, hX, hag, h35, ⟨K, hK4, hK⟩, h80, hNm⟩ := gp
  have hV := s.1
  have hs := s.2.2
  have hM8 : gM (gI I) ≤ 8 := hG.2.1.2
  have hG2 := ag_okG hag hG
  have hX2 := ag_okX hag hX
  have hV2 := ag_okV hag (sm_ok hs hV)
  have hN5 : gN (gI I) ≤ 5 := hG.1.2
  have gp : GP I J := ⟨hG, hX, hag, h35, ⟨K, hK4, hK⟩, h80, hNm⟩
  obtain ⟨I1, nx', hP, hk⟩ := k_up (L := L) (xs := xs) (d := e + 13) (I := I) (J := J) (R := R) (Z := Z) (x := xs (p + 1)) hG hX hV (by omega) cn.1 hi.1
  have e451 : I1 451 = row W := by rw [hP.1 451 (by omega)]; exact s.2.1
  have hmG : mG I1 = mG I := mG_cg (hP.1 _ (by omega)) (fun a q1 q2 => hP.1 _ (by omega)) (hP.1 _ (by omega))
  have epm : pm I1 W = I1 := by unfold pm; rw [← e451, st_id]
  have hHM : HiM I1 (mG I1) mn U := HiM_cg hi.2.1 (by rw [hmG]; exact hag) (by rw [hP.1 420 (by omega)]) (hP.1 455 (by omega))
  obtain ⟨I2, hM, hm⟩ := m_up (L := L) (xs := xs) (d := e + 13) (I := I1) (J := J) (R := R) (Z := Z) (V := W) (B := B) (V0 := vw I 102) (x := xs (p + 1)) (by rw [okM, hmG]; exact ⟨hG2, hX2⟩) (by rw [hmG]; exact hV2) (by omega) (by rw [hmG]; exact ag_sm hag hs) hHM hi.1.2.1.2
  have hok : (isR (gN (gI I)) (xs (p + 1))) = true → (9 < 7 → 0 < gM (gI I)) ∧ ((9 % 2 = 1 ∨ 9 = 6 ∨ 9 = 8) → (xs (p + 1)).toNatClampNeg < gN (gI I)) := fun q => ⟨fun q2 => by omega, fun _ => isR_lt (by omega) q⟩
  obtain ⟨v1, v2, -⟩ := hand_v gp s (by decide) hok
  rw [hmG, ← ag_N hag] at hM hm
  rw [epm, v2] at hm
  have hR := hand hB tp gp s cn wk se hi mh (by decide) hok hP hM
  exact cs922 hp hL hk hm (hn _ _ _ hR)
theorem ca947 (h : RR B I J) (hB : B ≤ 512) (hp : p + 7 ≤ L) (hL : L ≤ 3584) (hn : ∀ I' J' R', RR (B + 1) I' J' → Wp L xs (e + 21) 0 1738 [some (.ref 31), some (.ref 64), some (.ref 420), some (.ref 458), some (.int (nI p)), l5, l6] [] (mk I' J' R' Z) P) : Wp L xs (e + 21) 0 947 [some (.ref 31), some (.ref 64), some (.ref 420), some (.ref 458), some (.int (nI p)), l5, l6] [] (mk I J R Z) P := by
  obtain ⟨n, W, mw, Q, ms, S, nx, mn, U, tp, gp, s, cn, wk, se, hi, mh⟩ := id h
  obtain ⟨hG, hX, hag, h35, ⟨K, hK4, hK⟩, h80, hNm⟩ := gp
  have hV := s.1
  have hs := s.2.2
  have hM8 : gM (gI I) ≤ 8 := hG.2.1.2
  have hG2 := ag_okG hag hG
  have hX2 := ag_okX hag hX
  have hV2 := ag_okV hag (sm_ok hs hV)
  have hN5 : gN (gI I) ≤ 5 := hG.1.2
  have gp : GP I J := ⟨hG, hX, hag, h35, ⟨K, hK4, hK⟩, h80, hNm⟩
  obtain ⟨I1, nx', hP, hk⟩ := k_recover (L := L) (xs := xs) (d := e + 13) (I := I) (J := J) (R := R) (Z := Z) (x := xs (p + 1)) (y := xs (p + 2)) hG hX hV (by omega) cn.1 hi.1
  have e451 : I1 451 = row W := by rw [hP.1 451 (by omega)]; exact s.2.1
  have hmG : mG I1 = mG I := mG_cg (hP.1 _ (by omega)) (fun a q1 q2 => hP.1 _ (by omega)) (hP.1 _ (by omega))
  have epm : pm I1 W = I1 := by unfold pm; rw [← e451, st_id]
  have hHM : HiM I1 (mG I1) mn U := HiM_cg hi.2.1 (by rw [hmG]; exact hag) (by rw [hP.1 420 (by omega)]) (hP.1 455 (by omega))
  obtain ⟨I2, hM, hm⟩ := m_recover (L := L) (xs := xs) (d := e + 13) (I := I1) (J := J) (R := R) (Z := Z) (V := W) (B := B) (V0 := vw I 102) (x := xs (p + 1)) (y := xs (p + 2)) (by rw [okM, hmG]; exact ⟨hG2, hX2⟩) (by rw [hmG]; exact hV2) (by omega) (by rw [hmG]; exact ag_sm hag hs) hHM hi.1.2.1.2
  have hok : ((isR (gM (gI I)) (xs (p + 1)) && isR (gN (gI I)) (xs (p + 2)))) = true → (6 < 7 → (xs (p + 1)).toNatClampNeg < gM (gI I)) ∧ ((6 % 2 = 1 ∨ 6 = 6 ∨ 6 = 8) → (xs (p + 2)).toNatClampNeg < gN (gI I)) := fun q => ⟨fun _ => isR_lt (by omega) (by simp at q; exact q.1), fun _ => isR_lt (by omega) (by simp at q; exact q.2)⟩
  obtain ⟨v1, v2, -⟩ := hand_v gp s (by decide) hok
  rw [hmG, ← ag_M hag, ← ag_N hag] at hM hm
  rw [epm, v1] at hm
  have hR := hand hB tp gp s cn wk se hi mh (by decide) hok hP hM
  exact cs947 hp hL hk hm (hn _ _ _ hR)
theorem ca984 (h : RR B I J) (hB : B ≤ 512) (hp : p + 7 ≤ L) (hL : L ≤ 3584) (hn : ∀ I' J' R', RR (B + 1) I' J' → Wp L xs (e + 21) 0 1738 [some (.ref 31), some (.ref 64), some (.ref 420), some (.ref 458), some (.int (nI p)), l5, l6] [] (mk I' J' R' Z) P) : Wp L xs (e + 21) 0 984 [some (.ref 31), some (.ref 64), some (.ref 420), some (.ref 458), some (.int (nI p)), l5, l6] [] (mk I J R Z) P := by
  obtain ⟨n, W, mw, Q, ms, S, nx, mn, U, tp, gp, s, cn, wk, se, hi, mh⟩ := id h
  obtain ⟨hG, hX, hag, h35, ⟨K, hK4, hK⟩, h80, hNm⟩ := gp
  have hV := s.1
  have hs := s.2.2
  have hM8 : gM (gI I) ≤ 8 := hG.2.1.2
  have hG2 := ag_okG hag hG
  have hX2 := ag_okX hag hX
  have hV2 := ag_okV hag (sm_ok hs hV)
  have hN5 : gN (gI I) ≤ 5 := hG.1.2
  have gp : GP I J := ⟨hG, hX, hag, h35, ⟨K, hK4, hK⟩, h80, hNm⟩
  obtain ⟨I1, nx', hP, hk⟩ := k_run (L := L) (xs := xs) (d := e + 13) (I := I) (J := J) (R := R) (Z := Z) (x := xs (p + 1)) hG hX hV (by omega) cn.1 hi.1
  have e451 : I1 451 = row W := by rw [hP.1 451 (by omega)]; exact s.2.1
  have hmG : mG I1 = mG I := mG_cg (hP.1 _ (by omega)) (fun a q1 q2 => hP.1 _ (by omega)) (hP.1 _ (by omega))
  have epm : pm I1 W = I1 := by unfold pm; rw [← e451, st_id]
  have hHM : HiM I1 (mG I1) mn U := HiM_cg hi.2.1 (by rw [hmG]; exact hag) (by rw [hP.1 420 (by omega)]) (hP.1 455 (by omega))
  obtain ⟨I2, hM, hm⟩ := m_run (L := L) (xs := xs) (d := e + 13) (I := I1) (J := J) (R := R) (Z := Z) (V := W) (B := B) (V0 := vw I 102) (x := xs (p + 1)) (by rw [okM, hmG]; exact ⟨hG2, hX2⟩) (by rw [hmG]; exact hV2) (by omega) (by rw [hmG]; exact ag_sm hag hs) hHM hi.1.2.1.2
  have hok : (isR (gN (gI I)) (xs (p + 1))) = true → (7 < 7 → 0 < gM (gI I)) ∧ ((7 % 2 = 1 ∨ 7 = 6 ∨ 7 = 8) → (xs (p + 1)).toNatClampNeg < gN (gI I)) := fun q => ⟨fun q2 => by omega, fun _ => isR_lt (by omega) q⟩
  obtain ⟨v1, v2, -⟩ := hand_v gp s (by decide) hok
  rw [hmG, ← ag_N hag] at hM hm
  rw [epm, v1] at hm
  have hR := hand hB tp gp s cn wk se hi mh (by decide) hok hP hM
  exact cs984 hp hL hk hm (hn _ _ _ hR)
theorem ca1009 (h : RR B I J) (hB : B ≤ 512) (hp : p + 7 ≤ L) (hL : L ≤ 3584) (hn : ∀ I' J' R', RR (B + 1) I' J' → Wp L xs (e + 21) 0 1738 [some (.ref 31), some (.ref 64), some (.ref 420), some (.ref 458), some (.int (nI p)), l5, l6] [] (mk I' J' R' Z) P) : Wp L xs (e + 21) 0 1009 [some (.ref 31), some (.ref 64), some (.ref 420), some (.ref 458), some (.int (nI p)), l5, l6] [] (mk I J R Z) P := by
  obtain ⟨n, W, mw, Q, ms, S, nx, mn, U, tp, gp, s, cn, wk, se, hi, mh⟩ := id h
  obtain ⟨hG, hX, hag, h35, ⟨K, hK4, hK⟩, h80, hNm⟩ := gp
  have hV := s.1
  have hs := s.2.2
  have hM8 : gM (gI I) ≤ 8 := hG.2.1.2
  have hG2 := ag_okG hag hG
  have hX2 := ag_okX hag hX
  have hV2 := ag_okV hag (sm_ok hs hV)
  have hN5 : gN (gI I) ≤ 5 := hG.1.2
  have gp : GP I J := ⟨hG, hX, hag, h35, ⟨K, hK4, hK⟩, h80, hNm⟩
  obtain ⟨I1, nx', hP, hk⟩ := k_clean (L := L) (xs := xs) (d := e + 13) (I := I) (J := J) (R := R) (Z := Z)  hG hX hV (by omega) cn.1 hi.1
  have e451 : I1 451 = row W := by rw [hP.1 451 (by omega)]; exact s.2.1
  have hmG : mG I1 = mG I := mG_cg (hP.1 _ (by omega)) (fun a q1 q2 => hP.1 _ (by omega)) (hP.1 _ (by omega))
  have epm : pm I1 W = I1 := by unfold pm; rw [← e451, st_id]
  have hHM : HiM I1 (mG I1) mn U := HiM_cg hi.2.1 (by rw [hmG]; exact hag) (by rw [hP.1 420 (by omega)]) (hP.1 455 (by omega))
  obtain ⟨I2, hM, hm⟩ := m_clean (L := L) (xs := xs) (d := e + 13) (I := I1) (J := J) (R := R) (Z := Z) (V := W) (B := B) (V0 := vw I 102)  (by rw [okM, hmG]; exact ⟨hG2, hX2⟩) (by rw [hmG]; exact hV2) (by omega) (by rw [hmG]; exact ag_sm hag hs) hHM hi.1.2.1.2
  have hok : (true) = true → (10 < 7 → 0 < gM (gI I)) ∧ ((10 % 2 = 1 ∨ 10 = 6 ∨ 10 = 8) → 0 < gN (gI I)) := fun q => ⟨fun q2 => by omega, fun q2 => by omega⟩
  obtain ⟨v1, v2, -⟩ := hand_v gp s (by decide) hok
  rw [hmG] at hm
  rw [if_pos rfl, if_pos rfl] at v1
  rw [epm, v1] at hm
  have hR := hand hB tp gp s cn wk se hi mh (by decide) hok hP hM
  exact cs1009 hp hL hk hm (hn _ _ _ hR)
theorem ca1022 (h : RR B I J) (hB : B ≤ 512) (hp : p + 7 ≤ L) (hL : L ≤ 3584) (hn : ∀ I' J' R', RR (B + 1) I' J' → Wp L xs (e + 21) 0 1738 [some (.ref 31), some (.ref 64), some (.ref 420), some (.ref 458), some (.int (nI p)), l5, l6] [] (mk I' J' R' Z) P) : Wp L xs (e + 21) 0 1022 [some (.ref 31), some (.ref 64), some (.ref 420), some (.ref 458), some (.int (nI p)), l5, l6] [] (mk I J R Z) P := by
  obtain ⟨n, W, mw, Q, ms, S, nx, mn, U, tp, gp, s, cn, wk, se, hi, mh⟩ := id h
  obtain ⟨hG, hX, hag, h35, ⟨K, hK4, hK⟩, h80, hNm⟩ := gp
  have hV := s.1
  have hs := s.2.2
  have hM8 : gM (gI I) ≤ 8 := hG.2.1.2
  have hG2 := ag_okG hag hG
  have hX2 := ag_okX hag hX
  have hV2 := ag_okV hag (sm_ok hs hV)
  have gp : GP I J := ⟨hG, hX, hag, h35, ⟨K, hK4, hK⟩, h80, hNm⟩
  have hu := k_undo (L := L) (xs := xs) (d := e + 17) (I := I) (J := J) (R := R) (Z := Z) (okV_cS hV) hi.1
  by_cases h0 : mn = 0
  · rw [if_pos h0] at hu
    have hm := m_undo (L := L) (xs := xs) (d := e + 19) (I := I) (J := J) (R := R) (Z := Z) (V := W) (V0 := W) (mn := mn) (U := U) (HiM_cg hi.2.1 hag rfl rfl) hi.1.2.1.2
    rw [if_pos h0, pmS s, pmT s] at hm
    exact cs1022 hp hL hu hm (hn _ _ _ (RR_th h))
  · rw [if_neg h0] at hu
    obtain ⟨I1, nx', e1, e127, eS, eH, hk⟩ := hu
    have e451 : I1 451 = row W := by rw [e1 451 (by omega)]; exact s.2.1
    have hmG : mG I1 = mG I := mG_cg (e1 _ (by omega)) (fun a q1 q2 => e1 _ (by omega)) (e1 _ (by omega))
    have epm : pm I1 W = I1 := by unfold pm; rw [← e451, st_id]
    have hm := m_undo (L := L) (xs := xs) (d := e + 19) (I := I1) (J := J) (R := R) (Z := Z) (V := W) (V0 := W) (mn := mn) (U := U) (HiM_cg hi.2.1 (by rw [hmG]; exact hag) (by rw [e1 420 (by omega)]) (e1 455 (by omega))) hi.1.2.1.2
    rw [if_neg h0] at hm
    obtain ⟨I2, W2, w1, ⟨m1, m2, m3, mH⟩, hm⟩ := hm
    rw [epm] at hm
    rw [hmG] at w1 mH
    refine cs1022 hp hL hk hm (hn _ _ _ (hand0 tp gp cn wk se mh e1 (by rw [e127]; exact cn.1) eS m1 m2 (okV_mono (hi.2.2 (mn - 1) (by omega)) (by omega)) (ag_sm (ag_sym hag) w1) eH mH fun i q => okV_mono (hi.2.2 i (by omega)) (by omega)))
end CB
