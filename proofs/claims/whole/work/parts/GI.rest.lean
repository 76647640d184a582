/-! feed, see, mark, order, from the relation; written by wip/gen/gtail.py -/
set_option maxRecDepth 8192
section CC
variable {L : Nat} {xs : Nat → Int32} {e p B n m mw ms nx mn a b c j : Nat} {P : Option Value → Hp → Prop} {I I' I1 I2 : Mi} {J J1 J2 : Mj} {R R1 R2 : Mr} {Z : Mz} {l5 l6 : Option Value} {v : Int32} {W : Vw} {Q : Wq} {S : Sq} {U : Uq} {t : Tp}
def okTp (t : Tp) : Prop := ∀ k, k < t.1 → ∃ c, t.2 k = nI c ∧ okc c = true
theorem okTp_1 (h : okTp t) : okTp (fd1 c t) := by
  unfold fd1
  by_cases hc : t.1 < 1000 ∧ okc c = true
  · rw [if_pos hc]
    intro k hk
    by_cases hq : k = t.1
    · exact ⟨c, by subst hq; exact upd_eq, hc.2⟩
    · obtain ⟨c', h1, h2⟩ := h k (by have : k < t.1 + 1 := hk; omega)
      exact ⟨c', by show upd t.2 t.1 (nI c) k = _; rw [upd_ne hq]; exact h1, h2⟩
  · rw [if_neg hc]; exact h
theorem okTp_lp {B : Nat → Tp → Tp} (hB : ∀ k t, okTp t → okTp (B k t)) (ht : okTp t) : ∀ n, okTp (lp B n t)
  | 0 => ht
  | n + 1 => hB _ _ (okTp_lp hB ht n)
theorem okTp_8 {w : Int64} (h : okTp t) : okTp (fd8 w t) := okTp_lp (fun _ _ h => okTp_1 h) h 8
theorem ca236 (h : RR B I J) (hB : B ≤ 512) (hp : p + 7 ≤ L) (hL : L ≤ 3584) (hn : ∀ I' J' R', RR (B + 1) I' J' → Wp L xs (e + 21) 0 1738 [some (.ref 31), some (.ref 64), some (.ref 420), some (.ref 458), some (.int (nI p)), l5, l6] [] (mk I' J' R' Z) P) : Wp L xs (e + 21) 0 236 [some (.ref 31), some (.ref 64), some (.ref 420), some (.ref 458), some (.int (nI p)), l5, l6] [] (mk I J R Z) P := by
  obtain ⟨n, W, mw, Q, ms, S, nx, mn, U, tp, gp, s, cn, wk, se, hi, mh⟩ := id h
  obtain ⟨hG, hX, hag, h35, ⟨K, hK4, hK⟩, h80, hNm⟩ := gp
  have hV := s.1
  have hs := s.2.2
  have hM8 : gM (gI I) ≤ 8 := hG.2.1.2
  have hG2 := ag_okG hag hG
  have hX2 := ag_okX hag hX
  have hV2 := ag_okV hag (sm_ok hs hV)
  have hk := fun P => k_feed (L := L) (xs := xs) (d := e + 18) (I := I) (J := J) (R := R) (Z := Z) (P := P) (a := ((xs (p + 1)).toInt64 <<< ((nI 32).toInt64 &&& 63)) ||| ((xs (p + 2)).toInt64 &&& lN 4294967295)) (b := ((xs (p + 3)).toInt64 <<< ((nI 32).toInt64 &&& 63)) ||| ((xs (p + 4)).toInt64 &&& lN 4294967295)) (e := ((xs (p + 5)).toInt64 <<< ((nI 32).toInt64 &&& 63)) ||| ((xs (p + 6)).toInt64 &&& lN 4294967295)) tp.1 tp.2.2.1
  have hm := fun t P => m_feed (L := L) (xs := xs) (d := e + 20) (I := tpI I t) (J := J) (R := R) (Z := Z) (P := P) (V := W) (n := n) (a := ((xs (p + 1)).toInt64 <<< ((nI 32).toInt64 &&& 63)) ||| ((xs (p + 2)).toInt64 &&& lN 4294967295)) (b := ((xs (p + 3)).toInt64 <<< ((nI 32).toInt64 &&& 63)) ||| ((xs (p + 4)).toInt64 &&& lN 4294967295)) (e := ((xs (p + 5)).toInt64 <<< ((nI 32).toInt64 &&& 63)) ||| ((xs (p + 6)).toInt64 &&& lN 4294967295)) (by unfold tpI; rw [st_ne (by decide), st_ne (by decide)]; exact tp.2.1) tp.2.2.1
  have e421 : ∀ t, tpI I t 421 = I 66 := fun t => by unfold tpI; rw [st_ne (by decide), st_ne (by decide)]; exact tp.2.2.2.1.symm
  have e451 : ∀ t, pm (tpI I t) W = tpI I t := fun t => by
    have : tpI I t 451 = row W := by unfold tpI; rw [st_ne (by decide), st_ne (by decide)]; exact s.2.1
    unfold pm; rw [← this, st_id]
  simp only [e421, e451] at hm
  have ht0 : okTp (n, I 66) := tp.2.2.2.2
  have ht1 := okTp_8 (w := ((xs (p + 5)).toInt64 <<< ((nI 32).toInt64 &&& 63)) ||| ((xs (p + 6)).toInt64 &&& lN 4294967295)) (okTp_8 (w := ((xs (p + 3)).toInt64 <<< ((nI 32).toInt64 &&& 63)) ||| ((xs (p + 4)).toInt64 &&& lN 4294967295)) (okTp_8 (w := ((xs (p + 1)).toInt64 <<< ((nI 32).toInt64 &&& 63)) ||| ((xs (p + 2)).toInt64 &&& lN 4294967295)) ht0))
  have hl1 := fd8_le (w := ((xs (p + 5)).toInt64 <<< ((nI 32).toInt64 &&& 63)) ||| ((xs (p + 6)).toInt64 &&& lN 4294967295)) (fd8_le (w := ((xs (p + 3)).toInt64 <<< ((nI 32).toInt64 &&& 63)) ||| ((xs (p + 4)).toInt64 &&& lN 4294967295)) (fd8_le (w := ((xs (p + 1)).toInt64 <<< ((nI 32).toInt64 &&& 63)) ||| ((xs (p + 2)).toInt64 &&& lN 4294967295)) (t := (n, I 66)) tp.2.2.1))
  unfold fdA at hk hm
  generalize fd8 (((xs (p + 5)).toInt64 <<< ((nI 32).toInt64 &&& 63)) ||| ((xs (p + 6)).toInt64 &&& lN 4294967295)) (fd8 (((xs (p + 3)).toInt64 <<< ((nI 32).toInt64 &&& 63)) ||| ((xs (p + 4)).toInt64 &&& lN 4294967295)) (fd8 (((xs (p + 1)).toInt64 <<< ((nI 32).toInt64 &&& 63)) ||| ((xs (p + 2)).toInt64 &&& lN 4294967295)) (n, I 66))) = t at hk hm ht1 hl1
  refine cs236 hp hL hk (hm t) (hn _ _ _ ?_)
  have f1 : ∀ a, a ≠ 65 → a ≠ 66 → a ≠ 420 → a ≠ 421 → a ≠ 451 → pm (tpM (st (tpI I t) 420 (upd (tpI I t 420) 0 (nI 0))) t) W a = I a := fun a q1 q2 q3 q4 q5 => by
    unfold pm tpM tpI; rw [st_ne q5, st_ne q4, st_ne q3, st_ne q3, st_ne q2, st_ne q1]
  have f65 : pm (tpM (st (tpI I t) 420 (upd (tpI I t 420) 0 (nI 0))) t) W 65 = upd (I 65) 1 (nI t.1) := by
    unfold pm tpM tpI; rw [st_ne (by decide), st_ne (by decide), st_ne (by decide), st_ne (by decide), st_ne (by decide), st_eq]
  have f66 : pm (tpM (st (tpI I t) 420 (upd (tpI I t 420) 0 (nI 0))) t) W 66 = t.2 := by
    unfold pm tpM tpI; rw [st_ne (by decide), st_ne (by decide), st_ne (by decide), st_ne (by decide), st_eq]
  have f420 : pm (tpM (st (tpI I t) 420 (upd (tpI I t 420) 0 (nI 0))) t) W 420 = upd (upd (I 420) 0 (nI 0)) 1 (nI t.1) := by
    unfold pm tpM tpI; rw [st_ne (by decide), st_ne (by decide), st_eq, st_eq, st_ne (by decide), st_ne (by decide)]
  have f421 : pm (tpM (st (tpI I t) 420 (upd (tpI I t 420) 0 (nI 0))) t) W 421 = t.2 := by
    unfold pm tpM; rw [st_ne (by decide), st_eq]
  have f451 : pm (tpM (st (tpI I t) 420 (upd (tpI I t 420) 0 (nI 0))) t) W 451 = I 451 := by
    unfold pm; rw [st_eq]; exact s.2.1.symm
  generalize pm (tpM (st (tpI I t) 420 (upd (tpI I t 420) 0 (nI 0))) t) W = F at f1 f65 f66 f420 f421 f451 ⊢
  have hg : agG (gI I) (gI F) := gI_cg fun a q1 q2 => f1 a (by omega) (by omega) (by omega) (by omega) (by omega)
  have hmF : mG F = mG I := mG_cg (f1 _ (by omega) (by omega) (by omega) (by omega) (by omega)) (fun a q1 q2 => f1 _ (by omega) (by omega) (by omega) (by omega) (by omega)) (f1 _ (by omega) (by omega) (by omega) (by omega) (by omega))
  refine RR_fr (n' := t.1) h (by omega) ⟨by rw [f65, upd_eq], by rw [f420, upd_eq], hl1, by rw [f66, f421], by rw [f66]; exact ht1⟩ (WK_cg wk hg (fun a ha => f1 _ (by omega) (by omega) (by omega) (by omega) (by omega)) (by rw [f1 443 (by omega) (by omega) (by omega) (by omega) (by omega)]) (fun a k q1 q2 _ => by rw [f1 a (by omega) (by omega) (by omega) (by omega) (by omega)])) (SE_cg se hg (fun a ha => f1 _ (by omega) (by omega) (by omega) (by omega) (by omega)) (fun a q1 q2 => f1 a (by omega) (by omega) (by omega) (by omega) (by omega))) (CN_cg cn (fun a q1 q2 => f1 _ (by omega) (by omega) (by omega) (by omega) (by omega)) (f1 _ (by omega) (by omega) (by omega) (by omega) (by omega)) (f1 _ (by omega) (by omega) (by omega) (by omega) (by omega))) (fun a q => f1 _ (by omega) (by omega) (by omega) (by omega) (by omega)) (by rw [hmF]; exact ag_rf) f451 (f1 _ (by omega) (by omega) (by omega) (by omega) (by omega)) (f1 _ (by omega) (by omega) (by omega) (by omega) (by omega)) (f1 _ (by omega) (by omega) (by omega) (by omega) (by omega)) (by rw [f420, upd_ne (by decide), upd_ne (by decide)]) (fun j m S _ _ hS => SeM_cg hS fun a q1 q2 => f1 a (by omega) (by omega) (by omega) (by omega) (by omega)) (fun j _ _ => by rw [f1 443 (by omega) (by omega) (by omega) (by omega) (by omega)]) (fun a k q1 q2 _ _ => by rw [f1 a (by omega) (by omega) (by omega) (by omega) (by omega)]) (fun _ _ => ⟨rfl, rfl⟩)
theorem ca1520 (h : RR B I J) (hB : B ≤ 512) (hp : p + 7 ≤ L) (hL : L ≤ 3584) (hn : ∀ I' J' R', RR (B + 1) I' J' → Wp L xs (e + 21) 0 1738 [some (.ref 31), some (.ref 64), some (.ref 420), some (.ref 458), some (.int (nI p)), l5, l6] [] (mk I' J' R' Z) P) : Wp L xs (e + 21) 0 1520 [some (.ref 31), some (.ref 64), some (.ref 420), some (.ref 458), some (.int (nI p)), l5, l6] [] (mk I J R Z) P := by
  obtain ⟨n, W, mw, Q, ms, S, nx, mn, U, tp, gp, s, cn, wk, se, hi, mh⟩ := id h
  obtain ⟨hG, hX, hag, h35, ⟨K, hK4, hK⟩, h80, hNm⟩ := gp
  have hV := s.1
  have hs := s.2.2
  have hM8 : gM (gI I) ≤ 8 := hG.2.1.2
  have hG2 := ag_okG hag hG
  have hX2 := ag_okX hag hX
  have hV2 := ag_okV hag (sm_ok hs hV)
  generalize hb : decide (¬ xs (p + 3) = nI 0) = b
  have hk := fun P => k_see (L := L) (xs := xs) (d := e + 19) (I := I) (J := J) (R := R) (Z := Z) (P := P) (x := xs (p + 1)) (y := xs (p + 2)) (is := b) hG se.1.1 se.2.2.1
  by_cases hb2 : seB (gM (gI I)) ms (xs (p + 1)) (xs (p + 2)) = true
  · simp only [if_pos hb2] at hk
    have hs8 : seB (gM (gI I)) ms (xs (p + 1)) (xs (p + 2)) = true := hb2
    unfold seB at hs8
    simp only [Bool.and_eq_true, decide_eq_true_eq] at hs8
    obtain ⟨r1, r2, r3, r4⟩ := hs8
    generalize hI1 : trp I 98 (ms + 1) (upd (I 99) ms (xs (p + 1))) (upd (I 100) ms (xs (p + 2))) (upd (I 101) ms (bI b)) = I1 at hk
    have g1 : ∀ a, (a < 98 ∨ 102 ≤ a) → I1 a = I a := fun a ha => by rw [← hI1]; exact tn ha
    have g98 : I1 98 0 = nI (ms + 1) := by rw [← hI1]; exact t_0
    have g99 : I1 99 = upd (I 99) ms (xs (p + 1)) := by rw [← hI1]; exact t_1
    have g100 : I1 100 = upd (I 100) ms (xs (p + 2)) := by rw [← hI1]; exact t_2
    have g101 : I1 101 = upd (I 101) ms (bI b) := by rw [← hI1]; exact t_3
    have hmG : mG I1 = mG I := mG_cg (g1 _ (by omega)) (fun a q1 q2 => g1 _ (by omega)) (g1 _ (by omega))
    have e451 : I1 451 = row W := by rw [g1 451 (by omega)]; exact s.2.1
    have epm : pm I1 W = I1 := by unfold pm; rw [← e451, st_id]
    have hm := fun P => m_see (L := L) (xs := xs) (d := e + 19) (I := I1) (J := J) (R := R) (Z := Z) (P := P) (V := W) (x := xs (p + 1)) (y := xs (p + 2)) (is := b) (m := ms) (by rw [hmG]; exact hG2) (by rw [g1 447 (by omega)]; exact se.2.1.1) se.2.2.1
    simp only [hmG, ← ag_M hag, if_pos hb2, epm] at hm
    refine cs1520 (v := nI 1) hp hL (by rw [hb]; exact hk) (by rw [hb]; exact hm) (hn _ _ _ ?_)
    have f1 : ∀ a, a ≠ 420 → (a < 447 ∨ 450 < a) → a ≠ 451 → pm (seI I1 ms (xs (p + 1)) (xs (p + 2)) (bI b)) W a = I1 a := fun a q1 q2 q3 => by
      unfold pm seI; rw [st_ne q3, st_ne (by omega), st_ne (by omega), st_ne (by omega), st_ne (by omega), st_ne q1]
    have f420 : pm (seI I1 ms (xs (p + 1)) (xs (p + 2)) (bI b)) W 420 = upd (I1 420) 0 (nI 0) := by
      unfold pm seI; rw [st_ne (by decide), st_ne (by decide), st_ne (by decide), st_ne (by decide), st_ne (by decide), st_eq]
    have f447 : pm (seI I1 ms (xs (p + 1)) (xs (p + 2)) (bI b)) W 447 = upd (I1 447) 0 (nI (ms + 1)) := by
      unfold pm seI; rw [st_ne (by decide), st_eq]
    have f448 : pm (seI I1 ms (xs (p + 1)) (xs (p + 2)) (bI b)) W 448 = upd (I1 448) ms (xs (p + 1)) := by
      unfold pm seI; rw [st_ne (by decide), st_ne (by decide), st_ne (by decide), st_ne (by decide), st_eq]
    have f449 : pm (seI I1 ms (xs (p + 1)) (xs (p + 2)) (bI b)) W 449 = upd (I1 449) ms (xs (p + 2)) := by
      unfold pm seI; rw [st_ne (by decide), st_ne (by decide), st_ne (by decide), st_eq]
    have f450 : pm (seI I1 ms (xs (p + 1)) (xs (p + 2)) (bI b)) W 450 = upd (I1 450) ms (bI b) := by
      unfold pm seI; rw [st_ne (by decide), st_ne (by decide), st_eq]
    have f451 : pm (seI I1 ms (xs (p + 1)) (xs (p + 2)) (bI b)) W 451 = I 451 := by
      unfold pm; rw [st_eq]; exact s.2.1.symm
    generalize pm (seI I1 ms (xs (p + 1)) (xs (p + 2)) (bI b)) W = F at f1 f420 f447 f448 f449 f450 f451 ⊢
    have f2 : ∀ a, a ≠ 420 → (a < 98 ∨ (102 ≤ a ∧ a < 447) ∨ 451 < a) → F a = I a := fun a q1 q2 => by rw [f1 a q1 (by omega) (by omega), g1 a (by omega)]
    rw [g1 447 (by omega)] at f447
    rw [g1 448 (by omega)] at f448
    rw [g1 449 (by omega)] at f449
    rw [g1 450 (by omega)] at f450
    have hg : agG (gI I) (gI F) := gI_cg fun a q1 q2 => f2 a (by omega) (by omega)
    have hmF : mG F = mG I := mG_cg (f2 _ (by omega) (by omega)) (fun a q1 q2 => f2 _ (by omega) (by omega)) (f2 _ (by omega) (by omega))
    obtain ⟨i1, hi1, x1⟩ := isR_t r1 (by omega)
    obtain ⟨i2, hi2, x2⟩ := isR_t r2 (by omega)
    have hne : i1 ≠ i2 := fun q => r3 (by rw [x1, x2, q])
    have hS' : SE F 98 0 (ms + 1) (fun k => if k = ms then (i1, i2, b) else S k) := by
      refine ⟨⟨by rw [f1 98 (by decide) (by omega) (by decide)]; exact g98, fun k hk => ?_⟩, ⟨by rw [f447, upd_eq], fun k hk => ?_⟩, by omega, fun k hk => ?_⟩
      · rw [f1 (98 + 1) (by decide) (by omega) (by decide), f1 (98 + 2) (by decide) (by omega) (by decide), f1 (98 + 3) (by decide) (by omega) (by decide), g99, g100, g101]
        by_cases hq : k = ms
        · simp [hq, upd_eq, x1, x2]
        · simp only [if_neg hq, upd_ne hq]; exact se.1.2 k (by omega)
      · rw [f448, f449, f450, show 8 * 0 + k = k by omega]
        by_cases hq : k = ms
        · simp [hq, upd_eq, x1, x2]
        · simp only [if_neg hq, upd_ne hq]
          have := se.2.1.2 k (by omega)
          rw [show 8 * 0 + k = k by omega] at this
          exact this
      · rw [← ag_M hg]
        by_cases hq : k = ms
        · simp only [hq, if_pos]; exact ⟨hi1, hi2, hne⟩
        · simp only [if_neg hq]; exact se.2.2.2 k (by omega)
    refine RR_fr (n' := n) h (by omega) (TP_cg tp (by rw [f2 65 (by omega) (by omega)]) (by rw [f420, upd_ne (by decide), g1 420 (by omega)]) (f2 _ (by omega) (by omega)) (f2 _ (by omega) (by omega))) (WK_cg wk hg (fun a ha => f2 _ (by omega) (by omega)) (by rw [f2 443 (by omega) (by omega)]) (fun a k q1 q2 _ => by rw [f2 a (by omega) (by omega)])) hS' (CN_cg cn (fun a q1 q2 => f2 _ (by omega) (by omega)) (f2 _ (by omega) (by omega)) (f2 _ (by omega) (by omega))) (fun a q => f2 _ (by omega) (by omega)) (by rw [hmF]; exact ag_rf) f451 (f2 _ (by omega) (by omega)) (f2 _ (by omega) (by omega)) (f2 _ (by omega) (by omega)) (by rw [f420, upd_ne (by decide), g1 420 (by omega)]) (fun j m S q1 q2 hS => ?_) (fun j _ _ => by rw [f2 443 (by omega) (by omega)]) (fun a k q1 q2 _ _ => by rw [f2 a (by omega) (by omega)]) (fun _ _ => ⟨rfl, rfl⟩)
    refine ⟨by rw [f447, upd_ne (by omega)]; exact hS.1, fun k hk => ?_⟩
    rw [f448, f449, f450, upd_ne (by omega), upd_ne (by omega), upd_ne (by omega)]
    exact hS.2 k hk
  · simp only [if_neg hb2] at hk
    have hm := fun P => m_see (L := L) (xs := xs) (d := e + 19) (I := I) (J := J) (R := R) (Z := Z) (P := P) (V := W) (x := xs (p + 1)) (y := xs (p + 2)) (is := b) (m := ms) hG2 se.2.1.1 se.2.2.1
    simp only [← ag_M hag, if_neg hb2, pmS s, pmT s] at hm
    exact cs1520 (v := nI 0) hp hL (by rw [hb]; exact hk) (by rw [hb]; exact hm) (hn _ _ _ (RR_th h))
theorem WoM_eq (h : WoM I j m Q) (h1 : ∀ a, 443 ≤ a → a ≤ 446 → I' a = I a) : WoM I' j m Q := by
  unfold WoM at *
  rw [h1 443 (by omega) (by omega), h1 444 (by omega) (by omega), h1 445 (by omega) (by omega), h1 446 (by omega) (by omega)]; exact h
theorem mhL_ne (h : c ≠ 420) (h1 : c < 443 ∨ 450 < c) (h2 : c ≠ 456) : mhL I j a b c = I c := by
  unfold mhL; rw [lyS_ne (by omega), lyL_ne (by omega), st_ne h2, st_ne h]
theorem mhL_420 : mhL I j a b 420 = upd (I 420) 0 (nI 0) := by
  unfold mhL; rw [lyS_ne (by omega), lyL_ne (by omega), st_ne (by decide), st_eq]
theorem mhL_456 : mhL I j a b 456 = upd (I 456) j (nI 1) := by
  unfold mhL; rw [lyS_ne (by omega), lyL_ne (by omega), st_eq]
theorem mhL_Wt (hm : m ≤ 40) (h : WoM I a m Q) : WoM (mhL I j a b) b m Q := by
  unfold mhL
  exact WoM_eq (lyL_to hm (WoM_eq h fun c h1 h2 => by rw [st_ne (by omega), st_ne (by omega)])) fun c h1 h2 => lyS_ne (by omega)
theorem mhL_Wo (hm : m ≤ 40) (hc : c ≠ b) (h : WoM I c m Q) : WoM (mhL I j a b) c m Q := by
  unfold mhL
  exact WoM_eq (lyL_ot hm hc (WoM_eq h fun c h1 h2 => by rw [st_ne (by omega), st_ne (by omega)])) fun c h1 h2 => lyS_ne (by omega)
theorem mhL_St (hm : m ≤ 8) (h : SeM I a m S) : SeM (mhL I j a b) b m S := by
  unfold mhL
  exact lyS_to hm (SeM_cg h fun c h1 h2 => by rw [lyL_ne (by omega), st_ne (by omega), st_ne (by omega)])
theorem mhL_So (hm : m ≤ 8) (hc : c ≠ b) (h : SeM I c m S) : SeM (mhL I j a b) c m S := by
  unfold mhL
  exact lyS_ot hm hc (SeM_cg h fun c h1 h2 => by rw [lyL_ne (by omega), st_ne (by omega), st_ne (by omega)])
theorem markH (hj : j < 4) (h : RR B I J) : ∃ I1 I2, (∀ P, Wp L xs (e+20) 158 0 [some (.ref (64)), some (.int (nI j)), some (.int (nI 0)), none] [] (mk I J R Z) P = P (some (.int (nI 1))) (mk I1 J R Z)) ∧ (∀ P, Wp L xs (e+20) 310 0 [some (.ref (420)), some (.int (nI j)), some (.int (nI 0)), none, none] [] (mk I1 J R Z) P = P (some (.int (nI 1))) (mk I2 J R Z)) ∧ RR (B + 1) I2 J := by
  obtain ⟨n, W, mw, Q, ms, S, nx, mn, U, tp, gp, s, cn, wk, se, hi, mh⟩ := id h
  obtain ⟨I1, ⟨e1, e2, e3, e4, e5⟩, hk⟩ := k_hold (L := L) (xs := xs) (d := e + 17) (I := I) (J := J) (R := R) (Z := Z) hj (okV_cS s.1) (mh j hj).1 wk.1 wk.2.2.1 se.1 se.2.2.1
  have e451 : I1 451 = row W := by rw [e1 451 (by omega)]; exact s.2.1
  have epm : pm I1 W = I1 := by unfold pm; rw [← e451, st_id]
  have hm := fun P => m_hold (L := L) (xs := xs) (d := e + 19) (I := I1) (J := J) (R := R) (Z := Z) (P := P) (V := W) hj
  rw [epm] at hm
  refine ⟨I1, _, hk, hm, ?_⟩
  have f1 : ∀ a, a ≠ 420 → (a < 443 ∨ 450 < a) → a ≠ 456 → a ≠ 454 → a ≠ 451 → pm (mhI I1 W j) W a = I1 a := fun a q1 q2 q3 q4 q5 => by
    unfold pm mhI; rw [st_ne q5, st_ne q4, mhL_ne q1 q2 q3]
  have f420 : pm (mhI I1 W j) W 420 = upd (I1 420) 0 (nI 0) := by unfold pm mhI; rw [st_ne (by decide), st_ne (by decide), mhL_420]
  have f451 : pm (mhI I1 W j) W 451 = I 451 := by unfold pm; rw [st_eq]; exact s.2.1.symm
  have f454 : pm (mhI I1 W j) W 454 = va_cpy (row W) (I1 454) 0 (291 * j) 291 := by unfold pm mhI; rw [st_ne (by decide), st_eq]
  have f456 : pm (mhI I1 W j) W 456 = upd (I1 456) j (nI 1) := by unfold pm mhI; rw [st_ne (by decide), st_ne (by decide), mhL_456]
  have fe : ∀ a, 443 ≤ a → a ≤ 450 → pm (mhI I1 W j) W a = mhL I1 j 0 (1 + j) a := fun a q1 q2 => by unfold pm mhI; rw [st_ne (by omega), st_ne (by omega)]
  have fWt : ∀ {m Q}, m ≤ 40 → WoM I1 0 m Q → WoM (pm (mhI I1 W j) W) (1 + j) m Q := fun q1 q2 => WoM_eq (mhL_Wt q1 q2) fun a w1 w2 => fe a (by omega) (by omega)
  have fWo : ∀ {c m Q}, m ≤ 40 → c ≠ 1 + j → WoM I1 c m Q → WoM (pm (mhI I1 W j) W) c m Q := fun q1 q2 q3 => WoM_eq (mhL_Wo q1 q2 q3) fun a w1 w2 => fe a (by omega) (by omega)
  have fSt : ∀ {m S}, m ≤ 8 → SeM I1 0 m S → SeM (pm (mhI I1 W j) W) (1 + j) m S := fun q1 q2 => SeM_cg (mhL_St q1 q2) fun a w1 w2 => fe a (by omega) (by omega)
  have fSo : ∀ {c m S}, m ≤ 8 → c ≠ 1 + j → SeM I1 c m S → SeM (pm (mhI I1 W j) W) c m S := fun q1 q2 q3 => SeM_cg (mhL_So q1 q2 q3) fun a w1 w2 => fe a (by omega) (by omega)
  generalize pm (mhI I1 W j) W = F at f1 f420 f451 f454 f456 fWt fWo fSt fSo ⊢
  clear fe
  have f2 : ∀ a, a ≠ 420 → (a < 443 ∨ 450 < a) → a ≠ 456 → a ≠ 454 → a ≠ 451 → (a < 336 + 21 * j ∨ 357 + 21 * j ≤ a) → F a = I a := fun a q1 q2 q3 q4 q5 q6 => by rw [f1 a q1 q2 q3 q4 q5, e1 a q6]
  have hg : agG (gI I) (gI F) := gI_cg fun a q1 q2 => f2 a (by omega) (by omega) (by omega) (by omega) (by omega) (by omega)
  have hmF : mG F = mG I := mG_cg (f2 _ (by omega) (by omega) (by omega) (by omega) (by omega) (by omega)) (fun a q1 q2 => f2 _ (by omega) (by omega) (by omega) (by omega) (by omega) (by omega)) (f2 _ (by omega) (by omega) (by omega) (by omega) (by omega) (by omega))
  have w1 : ∀ {c m Q}, WoM I c m Q → WoM I1 c m Q := fun q => WoM_eq q fun a w1 w2 => e1 a (by omega)
  have w2 : ∀ {c m S}, SeM I c m S → SeM I1 c m S := fun q => SeM_cg q fun a w1 w2 => e1 a (by omega)
  obtain ⟨W', hst⟩ := ST_cg (I' := F) s (Nat.le_succ B) hg (fun i hi => f2 _ (by omega) (by omega) (by omega) (by omega) (by omega) (by omega)) f451
  refine ⟨n, W', mw, Q, ms, S, nx, mn, U, ?_, ?_, hst, ?_, ⟨?_, ?_, ?_⟩, ⟨?_, ?_, ?_⟩, ?_, fun i hi => ?_⟩
  · exact TP_cg tp (by rw [f2 65 (by omega) (by omega) (by omega) (by omega) (by omega) (by omega)]) (by rw [f420, upd_ne (by decide), e1 420 (by omega)]) (f2 _ (by omega) (by omega) (by omega) (by omega) (by omega) (by omega)) (f2 _ (by omega) (by omega) (by omega) (by omega) (by omega) (by omega))
  · exact GP_cg gp (fun a q1 q2 => f2 a (by omega) (by omega) (by omega) (by omega) (by omega) (by omega)) (by rw [hmF]; exact ag_rf) (fun _ _ => ⟨rfl, rfl⟩)
  · exact CN_cg cn (fun a q1 q2 => f2 a (by omega) (by omega) (by omega) (by omega) (by omega) (by omega)) (f2 _ (by omega) (by omega) (by omega) (by omega) (by omega) (by omega)) (f2 _ (by omega) (by omega) (by omega) (by omega) (by omega) (by omega))
  · exact WoC_cg (fun a ha => f2 _ (by omega) (by omega) (by omega) (by omega) (by omega) (by omega)) wk.1
  · exact fWo wk.2.2.1 (by omega) (w1 wk.2.1)
  · exact okW_cg hg wk.2.2
  · exact SeC_cg (fun a ha => f2 _ (by omega) (by omega) (by omega) (by omega) (by omega) (by omega)) se.1
  · exact fSo se.2.2.1 (by omega) (w2 se.2.1)
  · exact okQ_cg hg se.2.2
  · exact HI_cg hi (Nat.le_succ B) hg (fun a q1 q2 => f2 a (by omega) (by omega) (by omega) (by omega) (by omega) (by omega)) (by rw [f420, upd_ne (by decide), e1 420 (by omega)]) (f2 _ (by omega) (by omega) (by omega) (by omega) (by omega) (by omega))
  · by_cases hij : i = j
    · subst hij
      have eV : ∀ k, k < 12 → vw I 102 k = vw F (337 + 21 * i) k := fun k hk => by
        show _ = F (337 + 21 * i + k)
        rw [f1 _ (by omega) (by omega) (by omega) (by omega) (by omega), e3 k hk]; rfl
      obtain ⟨W2, v1, v2⟩ := sm_cg eV s.2.2
      refine ⟨cS_cg eV (okV_cS s.1), Or.inr ⟨⟨by rw [f1 _ (by omega) (by omega) (by omega) (by omega) (by omega)]; exact e2, by rw [f456, upd_eq]⟩, W2, mw, Q, ms, S, ⟨okV_mono (ag_okV hg (okV_cg eV s.1)) (by omega), ag_sm hg v2, fun k hk => ?_⟩, ⟨?_, fWt wk.2.2.1 (w1 wk.2.1), okW_cg hg wk.2.2⟩, ?_, fSt se.2.2.1 (w2 se.2.1), okQ_cg hg se.2.2⟩⟩
      · rw [f454, cpy_i hk, Nat.zero_add, rowW v1]
      · exact WoC_cg (fun a ha => f1 _ (by omega) (by omega) (by omega) (by omega) (by omega)) e4
      · exact SeC_cg (fun a ha => f1 _ (by omega) (by omega) (by omega) (by omega) (by omega)) e5
    · obtain ⟨b1, b2⟩ := mh i hi
      refine ⟨cS_cg (V := vw I (337 + 21 * i)) (fun k hk => (f2 (337 + 21 * i + k) (by omega) (by omega) (by omega) (by omega) (by omega) (by omega)).symm) b1, ?_⟩
      rw [f2 (336 + 21 * i) (by omega) (by omega) (by omega) (by omega) (by omega) (by omega), f456, upd_ne hij, e1 456 (by omega)]
      rcases b2 with b2 | ⟨b2, b3⟩
      · exact Or.inl b2
      · exact Or.inr ⟨b2, MH_cg hi b3 (by omega) hg (fun a q1 q2 => f2 a (by omega) (by omega) (by omega) (by omega) (by omega) (by omega)) (fun k hk => by rw [f454, cpy_o (by omega), e1 454 (by omega)]) (fun m Q q1 q2 => fWo q1 (by omega) (w1 q2)) (fun m S q1 q2 => fSo q1 (by omega) (w2 q2))⟩
theorem markB (hj : j < 4) (h : RR B I J) (hb : I (336 + 21 * j) 0 = nI 1) : ∃ I1 I2, (∀ P, Wp L xs (e+20) 158 0 [some (.ref (64)), some (.int (nI j)), some (.int (nI 1)), none] [] (mk I J R Z) P = P (some (.int (nI 1))) (mk I1 J R Z)) ∧ (∀ P, Wp L xs (e+20) 310 0 [some (.ref (420)), some (.int (nI j)), some (.int (nI 1)), none, none] [] (mk I1 J R Z) P = P (some (.int (nI 1))) (mk I2 J R Z)) ∧ RR (B + 1) I2 J := by
  obtain ⟨n, W, mw, Q, ms, S, nx, mn, U, tp, gp, s, cn, wk, se, hi, mh⟩ := id h
  obtain ⟨hc0, hor⟩ := mh j hj
  rcases hor with hor | ⟨⟨-, hb2⟩, W0, mw', Q', ms', S', ⟨o1, o2, o3⟩, wk', se'⟩
  · exact absurd (hor.1.symm.trans hb) (by decide)
  obtain ⟨I1, ⟨e1, e2, e3, e4, e5⟩, hk⟩ := k_giveBack (L := L) (xs := xs) (d := e + 17) (I := I) (J := J) (R := R) (Z := Z) hj hb (okV_cS s.1) hc0 wk'.1 wk'.2.2.1 se'.1 se'.2.2.1
  have e451 : I1 451 = row W := by rw [e1 451 (by omega) (by omega)]; exact s.2.1
  have epm : pm I1 W = I1 := by unfold pm; rw [← e451, st_id]
  have hm := fun P => m_back (L := L) (xs := xs) (d := e + 19) (I := I1) (J := J) (R := R) (Z := Z) (P := P) (V := W) (V0 := W0) hj (by rw [e1 456 (by omega) (by omega)]; exact hb2) (fun k hk => by rw [e1 454 (by omega) (by omega)]; exact o3 k hk)
  rw [epm] at hm
  refine ⟨I1, _, hk, hm, ?_⟩
  have f1 : ∀ a, a ≠ 420 → (a < 443 ∨ 450 < a) → a ≠ 456 → a ≠ 451 → pm (mbI I1 j) W0 a = I1 a := fun a q1 q2 q3 q5 => by
    unfold pm mbI; rw [st_ne q5, st_ne q1, mhL_ne q1 q2 q3]
  have f420 : pm (mbI I1 j) W0 420 = upd (upd (I1 420) 0 (nI 0)) 47 (nI 0) := by unfold pm mbI; rw [st_ne (by decide), st_eq]
  have f451 : pm (mbI I1 j) W0 451 = row W0 := by unfold pm; rw [st_eq]
  have f456 : pm (mbI I1 j) W0 456 = upd (I1 456) j (nI 1) := by unfold pm mbI; rw [st_ne (by decide), st_ne (by decide), mhL_456]
  have fe : ∀ a, 443 ≤ a → a ≤ 450 → pm (mbI I1 j) W0 a = mhL I1 j (1 + j) 0 a := fun a q1 q2 => by unfold pm mbI; rw [st_ne (by omega), st_ne (by omega)]
  have fWt : ∀ {m Q}, m ≤ 40 → WoM I1 (1 + j) m Q → WoM (pm (mbI I1 j) W0) 0 m Q := fun q1 q2 => WoM_eq (mhL_Wt q1 q2) fun a w1 w2 => fe a (by omega) (by omega)
  have fWo : ∀ {c m Q}, m ≤ 40 → c ≠ 0 → WoM I1 c m Q → WoM (pm (mbI I1 j) W0) c m Q := fun q1 q2 q3 => WoM_eq (mhL_Wo q1 q2 q3) fun a w1 w2 => fe a (by omega) (by omega)
  have fSt : ∀ {m S}, m ≤ 8 → SeM I1 (1 + j) m S → SeM (pm (mbI I1 j) W0) 0 m S := fun q1 q2 => SeM_cg (mhL_St q1 q2) fun a w1 w2 => fe a (by omega) (by omega)
  have fSo : ∀ {c m S}, m ≤ 8 → c ≠ 0 → SeM I1 c m S → SeM (pm (mbI I1 j) W0) c m S := fun q1 q2 q3 => SeM_cg (mhL_So q1 q2 q3) fun a w1 w2 => fe a (by omega) (by omega)
  generalize pm (mbI I1 j) W0 = F at f1 f420 f451 f456 fWt fWo fSt fSo ⊢
  clear fe
  have f2 : ∀ a, a ≠ 420 → (a < 443 ∨ 450 < a) → a ≠ 456 → a ≠ 451 → (a < 90 ∨ 114 ≤ a ∨ (94 ≤ a ∧ a < 98)) → a ≠ 129 → F a = I a := fun a q1 q2 q3 q5 q6 q7 => by rw [f1 a q1 q2 q3 q5, e1 a q6 q7]
  have hg : agG (gI I) (gI F) := gI_cg fun a q1 q2 => f2 a (by omega) (by omega) (by omega) (by omega) (by omega) (by omega)
  have hmF : mG F = mG I := mG_cg (f2 _ (by omega) (by omega) (by omega) (by omega) (by omega) (by omega)) (fun a q1 q2 => f2 _ (by omega) (by omega) (by omega) (by omega) (by omega) (by omega)) (f2 _ (by omega) (by omega) (by omega) (by omega) (by omega) (by omega))
  have w1 : ∀ {c m Q}, WoM I c m Q → WoM I1 c m Q := fun q => WoM_eq q fun a w1 w2 => e1 a (by omega) (by omega)
  have w2 : ∀ {c m S}, SeM I c m S → SeM I1 c m S := fun q => SeM_cg q fun a w1 w2 => e1 a (by omega) (by omega)
  have f129 : F 129 = upd (I 129) 2 (nI 0) := by rw [f1 129 (by omega) (by omega) (by omega) (by omega)]; exact e2
  have eV : ∀ k, k < 12 → vw I (337 + 21 * j) k = vw F 102 k := fun k hk => by
    show _ = F (102 + k)
    rw [f1 _ (by omega) (by omega) (by omega) (by omega), e3 k hk]; rfl
  obtain ⟨W2, v1, v2⟩ := sm_cg eV o2
  refine ⟨n, W2, mw', Q', ms', S', nx, 0, U, ?_, ?_, ⟨?_, ?_, ?_⟩, ?_, ⟨?_, ?_, ?_⟩, ⟨?_, ?_, ?_⟩, ⟨⟨?_, ?_, ?_, ?_⟩, ⟨?_, ?_⟩, ?_⟩, fun i hi => ?_⟩
  · exact TP_cg tp (by rw [f2 65 (by omega) (by omega) (by omega) (by omega) (by omega) (by omega)]) (by rw [f420, upd_ne (by decide), upd_ne (by decide), e1 420 (by omega) (by omega)]) (f2 _ (by omega) (by omega) (by omega) (by omega) (by omega) (by omega)) (f2 _ (by omega) (by omega) (by omega) (by omega) (by omega) (by omega))
  · exact GP_cg gp (fun a q1 q2 => f2 a (by omega) (by omega) (by omega) (by omega) (by omega) (by omega)) (by rw [hmF]; exact ag_rf) (fun _ _ => ⟨rfl, rfl⟩)
  · exact okV_mono (ag_okV hg (okV_cg eV o1)) (by omega)
  · rw [f451]; exact rowW fun j hj => (v1 j hj).symm
  · exact ag_sm hg v2
  · exact CN_cg cn (fun a q1 q2 => f2 a (by omega) (by omega) (by omega) (by omega) (by omega) (by omega)) (f2 _ (by omega) (by omega) (by omega) (by omega) (by omega) (by omega)) (f2 _ (by omega) (by omega) (by omega) (by omega) (by omega) (by omega))
  · exact WoC_cg (fun a ha => f1 _ (by omega) (by omega) (by omega) (by omega)) e4
  · exact fWt wk'.2.2.1 (w1 wk'.2.1)
  · exact okW_cg hg wk'.2.2
  · exact SeC_cg (fun a ha => f1 _ (by omega) (by omega) (by omega) (by omega)) e5
  · exact fSt se'.2.2.1 (w2 se'.2.1)
  · exact okQ_cg hg se'.2.2
  · rw [f129, upd_ne (by decide)]; exact hi.1.1
  · rw [f129, upd_eq]; exact ⟨rfl, by omega⟩
  · exact fun k hk => cS_cg (V := vw I (131 + 12 * k)) (fun i hi => (f2 (131 + 12 * k + i) (by omega) (by omega) (by omega) (by omega) (by omega) (by omega)).symm) (hi.1.2.2.1 k hk)
  · exact fun i q => absurd q (by omega)
  · rw [f420, upd_eq]
  · exact fun i q => absurd q (by omega)
  · exact fun i q => absurd q (by omega)
  · obtain ⟨b1, b2⟩ := mh i hi
    refine ⟨cS_cg (V := vw I (337 + 21 * i)) (fun k hk => (f2 (337 + 21 * i + k) (by omega) (by omega) (by omega) (by omega) (by omega) (by omega)).symm) b1, ?_⟩
    have e456 : F 456 i = I 456 i := by
      rw [f456]
      by_cases hij : i = j
      · subst hij; rw [upd_eq]; exact hb2.symm
      · rw [upd_ne hij, e1 456 (by omega) (by omega)]
    rw [f2 (336 + 21 * i) (by omega) (by omega) (by omega) (by omega) (by omega) (by omega), e456]
    rcases b2 with b2 | ⟨b2, b3⟩
    · exact Or.inl b2
    · exact Or.inr ⟨b2, MH_cg hi b3 (by omega) hg (fun a q1 q2 => f2 a (by omega) (by omega) (by omega) (by omega) (by omega) (by omega)) (fun k hk => by rw [f2 454 (by omega) (by omega) (by omega) (by omega) (by omega) (by omega)]) (fun m Q q1 q2 => fWo q1 (by omega) (w1 q2)) (fun m S q1 q2 => fSo q1 (by omega) (w2 q2))⟩
theorem ca1660 (h : RR B I J) (hB : B ≤ 512) (hp : p + 7 ≤ L) (hL : L ≤ 3584) (hn : ∀ I' J' R', RR (B + 1) I' J' → Wp L xs (e + 21) 0 1738 [some (.ref 31), some (.ref 64), some (.ref 420), some (.ref 458), some (.int (nI p)), l5, l6] [] (mk I' J' R' Z) P) : Wp L xs (e + 21) 0 1660 [some (.ref 31), some (.ref 64), some (.ref 420), some (.ref 458), some (.int (nI p)), l5, l6] [] (mk I J R Z) P := by
  obtain ⟨n, W, mw, Q, ms, S, nx, mn, U, tp, gp, s, cn, wk, se, hi, mh⟩ := id h
  obtain ⟨hG, hX, hag, h35, ⟨K, hK4, hK⟩, h80, hNm⟩ := gp
  have hV := s.1
  have hs := s.2.2
  have hM8 : gM (gI I) ≤ 8 := hG.2.1.2
  have hG2 := ag_okG hag hG
  have hX2 := ag_okX hag hX
  have hV2 := ag_okV hag (sm_ok hs hV)
  generalize hb : decide (¬ xs (p + 2) = nI 0) = b
  by_cases hx : isR 4 (xs (p + 1)) = true
  · obtain ⟨j, hj, ex⟩ := isR_t hx (by decide)
    cases b with
    | false =>
      obtain ⟨I1, I2, hk, hm, hR⟩ := markH (L := L) (xs := xs) (e := e) (R := R) (Z := Z) hj h
      exact cs1660 hp hL (by rw [hb, ex]; exact hk) (by rw [hb, ex]; exact hm) (hn _ _ _ hR)
    | true =>
      rcases (mh j hj).2 with hz | hz
      · have hk := fun P => k_mark0 (L := L) (xs := xs) (d := e + 17) (I := I) (J := J) (R := R) (Z := Z) (P := P) (x := xs (p + 1)) (bv := true) (Or.inr ⟨j, hj, ex, rfl, hz.1⟩)
        have hm := fun P => m_mark0 (L := L) (xs := xs) (d := e + 19) (I := I) (J := J) (R := R) (Z := Z) (P := P) (V := W) (x := xs (p + 1)) (bv := true) (Or.inr ⟨j, hj, ex, rfl, hz.2⟩)
        rw [pmS s, pmT s] at hm
        exact cs1660 hp hL (by rw [hb]; exact hk) (by rw [hb]; exact hm) (hn _ _ _ (RR_th h))
      · obtain ⟨I1, I2, hk, hm, hR⟩ := markB (L := L) (xs := xs) (e := e) (R := R) (Z := Z) hj h hz.1.1
        exact cs1660 hp hL (by rw [hb, ex]; exact hk) (by rw [hb, ex]; exact hm) (hn _ _ _ hR)
  · have hx' : isR 4 (xs (p + 1)) = false := by simpa using hx
    have hk := fun P => k_mark0 (L := L) (xs := xs) (d := e + 17) (I := I) (J := J) (R := R) (Z := Z) (P := P) (x := xs (p + 1)) (bv := b) (Or.inl hx')
    have hm := fun P => m_mark0 (L := L) (xs := xs) (d := e + 19) (I := I) (J := J) (R := R) (Z := Z) (P := P) (V := W) (x := xs (p + 1)) (bv := b) (Or.inl (by rw [← isR_in (Nat.le_refl 4), show nI 4 - nI 1 = nI 3 by decide] at hx'; exact hx'))
    rw [pmS s, pmT s] at hm
    exact cs1660 hp hL (by rw [hb]; exact hk) (by rw [hb]; exact hm) (hn _ _ _ (RR_th h))
end CC
