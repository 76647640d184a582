/-! THE RELATION AT THE LAW'S LOOP HEAD, in parts; each part stays where the cells that it speaks of stay -/
def TP (n : Nat) (I : Mi) : Prop := I 65 1 = nI n ∧ I 420 1 = nI n ∧ n ≤ 1000 ∧ I 66 = I 421 ∧ ∀ k, k < n → ∃ c, I 66 k = nI c ∧ okc c = true
def GP (I : Mi) (J : Mj) : Prop := okG (gI I) ∧ okX (gI I) ∧ agG (gI I) (mG I) ∧ (gN (gI I) = 0 ∨ gN (gI I) = 3 ∨ gN (gI I) = 5) ∧ (∃ K, K ≤ 4 ∧ I 76 1 = nI K) ∧ can 8 (I 80) ∧ ∀ c, c < gM (gI I) → NmP (J 82 c) (J 423 c)
def ST (B : Nat) (I : Mi) (W : Vw) : Prop := okV B (gI I) (vw I 102) ∧ I 451 = row W ∧ smV (gI I) (vw I 102) W
def CN (I : Mi) : Prop := can 8 (I 127) ∧ cS (vw I 114) ∧ can 291 (I 452) ∧ can 291 (I 453)
def WK (I : Mi) (t j m : Nat) (Q : Wq) : Prop := WoC I t m Q ∧ WoM I j m Q ∧ okW (gN (gI I)) (gM (gI I)) m Q
def SE (I : Mi) (t j m : Nat) (S : Sq) : Prop := SeC I t m S ∧ SeM I j m S ∧ okQ (gM (gI I)) m S
def HI (B : Nat) (I : Mi) (nx mn : Nat) (U : Uq) : Prop := HiC I nx mn U ∧ HiM I (gI I) mn U ∧ ∀ i, i < mn → okV B (gI I) (U i)
def MH (B : Nat) (I : Mi) (j : Nat) : Prop := ∃ W mw Q ms S, (okV B (gI I) (vw I (337 + 21 * j)) ∧ smV (gI I) (vw I (337 + 21 * j)) W ∧ ∀ k, k < 291 → I 454 (291 * j + k) = row W k) ∧ WK I (349 + 21 * j) (1 + j) mw Q ∧ SE I (353 + 21 * j) (1 + j) ms S
def MK (B : Nat) (I : Mi) : Prop := ∀ j, j < 4 → cS (vw I (337 + 21 * j)) ∧ ((I (336 + 21 * j) 0 = nI 0 ∧ I 456 j = nI 0) ∨ ((I (336 + 21 * j) 0 = nI 1 ∧ I 456 j = nI 1) ∧ MH B I j))
def RR (B : Nat) (I : Mi) (J : Mj) : Prop := ∃ n W mw Q ms S nx mn U, TP n I ∧ GP I J ∧ ST B I W ∧ CN I ∧ WK I 90 0 mw Q ∧ SE I 98 0 ms S ∧ HI B I nx mn U ∧ MK B I
set_option maxRecDepth 8192
section RE
variable {I I' : Mi} {J J' : Mj} {G G' G2 : Gv} {V V' W : Vw} {n m B B' nx mn t j : Nat} {Q : Wq} {S : Sq} {U : Uq}
theorem ag_sym (h : agG G G') : agG G' G := ⟨fun k hk => (h.1 k hk).symm, fun j c h1 h2 hc => (h.2 j c h1 h2 (by rw [ag_M h]; exact hc)).symm⟩
theorem ag_rf : agG G G := ⟨fun _ _ => rfl, fun _ _ _ _ _ => rfl⟩
theorem ag_tr (h : agG G G') (h' : agG G' G2) : agG G G2 := ⟨fun k hk => (h.1 k hk).trans (h'.1 k hk), fun j c h1 h2 hc => (h.2 j c h1 h2 hc).trans (h'.2 j c h1 h2 (by rw [← ag_M h]; exact hc))⟩
theorem ag_sm (h : agG G G') (hs : smV G V W) : smV G' V W := ⟨hs.1, ag_GR h hs.2.1, hs.2.2.1, by rw [← ag_M h]; exact hs.2.2.2.1, hs.2.2.2.2⟩
theorem gI_cg (h : ∀ a, 76 ≤ a → a ≤ 81 → I' a = I a) : agG (gI I) (gI I') := ⟨fun k _ => by show I (76 + 0) k = I' (76 + 0) k; rw [h _ (by omega) (by omega)], fun j c h1 h2 _ => by show I (76 + j) c = I' (76 + j) c; rw [h _ (by omega) (by omega)]⟩
theorem mG_cg (h : I' 422 = I 422) (h1 : ∀ a, 424 ≤ a → a ≤ 427 → I' a = I a) (h2 : I' 457 = I 457) : mG I' = mG I := by
  funext j
  unfold mG
  split
  · exact h
  · exact h1 _ (by omega) (by omega)
  · exact h1 _ (by omega) (by omega)
  · exact h1 _ (by omega) (by omega)
  · exact h1 _ (by omega) (by omega)
  · exact h2
theorem rowW (h : ∀ j, j < 12 → V j = V' j) : row V = row V' := row_cg fun j k hj _ => by rw [h j hj]
theorem TP_cg (h : TP n I) (h1 : I' 65 1 = I 65 1) (h2 : I' 420 1 = I 420 1) (h3 : I' 66 = I 66) (h4 : I' 421 = I 421) : TP n I' := by
  unfold TP at *; rw [h1, h2, h3, h4]; exact h
theorem GP_cg (h : GP I J) (h1 : ∀ a, 76 ≤ a → a ≤ 81 → I' a = I a) (h2 : agG (mG I) (mG I')) (h3 : ∀ c, c < 8 → J' 82 c = J 82 c ∧ J' 423 c = J 423 c) : GP I' J' := by
  obtain ⟨a1, a2, a3, a4, ⟨K, a5, a6⟩, a7, a8⟩ := h
  have hg := gI_cg h1
  refine ⟨ag_okG hg a1, ag_okX hg a2, ag_tr (ag_sym hg) (ag_tr a3 h2), by rw [← ag_N hg]; exact a4, ⟨K, a5, by rw [h1 76 (by omega) (by omega)]; exact a6⟩, by rw [h1 80 (by omega) (by omega)]; exact a7, fun c hc => ?_⟩
  rw [← ag_M hg] at hc
  have : gM (gI I) ≤ 8 := a1.2.1.2
  rw [(h3 c (by omega)).1, (h3 c (by omega)).2]; exact a8 c hc
theorem ST_cg (h : ST B I W) (hB : B ≤ B') (hg : agG (gI I) (gI I')) (h1 : ∀ j, j < 12 → I' (102 + j) = I (102 + j)) (h2 : I' 451 = I 451) : ∃ W', ST B' I' W' := by
  obtain ⟨a1, a2, a3⟩ := h
  have e : ∀ j, j < 12 → vw I 102 j = vw I' 102 j := fun j hj => (h1 j hj).symm
  obtain ⟨W', e1, e2⟩ := sm_cg e a3
  exact ⟨W', okV_mono (ag_okV hg (okV_cg e a1)) hB, by rw [h2, a2]; exact rowW fun j hj => (e1 j hj).symm, ag_sm hg e2⟩
theorem CN_cg (h : CN I) (h1 : ∀ a, 114 ≤ a → a < 129 → I' a = I a) (h2 : I' 452 = I 452) (h3 : I' 453 = I 453) : CN I' := by
  obtain ⟨a1, a2, a3, a4⟩ := h
  refine ⟨by rw [h1 127 (by omega) (by omega)]; exact a1, cS_cg (V := vw I 114) (fun j hj => (h1 (114 + j) (by omega) (by omega)).symm) a2, by rw [h2]; exact a3, by rw [h3]; exact a4⟩
theorem WoM_cg (hm : m ≤ 40) (hW : WoM I j m Q) (h0 : I' 443 j = I 443 j) (h1 : ∀ a k, 444 ≤ a → a ≤ 446 → k < 40 → I' a (40 * j + k) = I a (40 * j + k)) : WoM I' j m Q := by
  obtain ⟨a0, a1⟩ := hW
  refine ⟨by rw [h0]; exact a0, fun k hk => ?_⟩
  rw [h1 444 k (by omega) (by omega) (by omega), h1 445 k (by omega) (by omega) (by omega), h1 446 k (by omega) (by omega) (by omega)]
  exact a1 k hk
theorem SeM_cg (hS : SeM I j m S) (h1 : ∀ a, 447 ≤ a → a ≤ 450 → I' a = I a) : SeM I' j m S := by
  unfold SeM at *
  rw [h1 447 (by omega) (by omega), h1 448 (by omega) (by omega), h1 449 (by omega) (by omega), h1 450 (by omega) (by omega)]; exact hS
theorem okW_cg (hg : agG G G') (h : okW (gN G) (gM G) m Q) : okW (gN G') (gM G') m Q := by rw [← ag_N hg, ← ag_M hg]; exact h
theorem okQ_cg (hg : agG G G') (h : okQ (gM G) m S) : okQ (gM G') m S := by rw [← ag_M hg]; exact h
theorem WK_cg (h : WK I t j m Q) (hg : agG (gI I) (gI I')) (h1 : ∀ a, a < 4 → I' (t + a) = I (t + a)) (h0 : I' 443 j = I 443 j) (h2 : ∀ a k, 444 ≤ a → a ≤ 446 → k < 40 → I' a (40 * j + k) = I a (40 * j + k)) : WK I' t j m Q := ⟨WoC_cg h1 h.1, WoM_cg h.2.2.1 h.2.1 h0 h2, okW_cg hg h.2.2⟩
theorem SE_cg (h : SE I t j m S) (hg : agG (gI I) (gI I')) (h1 : ∀ a, a < 4 → I' (t + a) = I (t + a)) (h2 : ∀ a, 447 ≤ a → a ≤ 450 → I' a = I a) : SE I' t j m S := ⟨SeC_cg h1 h.1, SeM_cg h.2.1 h2, okQ_cg hg h.2.2⟩
theorem HiC_cg (h : HiC I nx mn U) (h1 : ∀ a, 129 ≤ a → a < 335 → I' a = I a) : HiC I' nx mn U := by
  obtain ⟨a1, a2, a3, a4⟩ := h
  refine ⟨by rw [h1 129 (by omega) (by omega)]; exact a1, by rw [h1 129 (by omega) (by omega)]; exact a2, fun k hk => cS_cg (V := vw I (131 + 12 * k)) (fun j hj => (h1 (131 + 12 * k + j) (by omega) (by omega)).symm) (a3 k hk), fun i hi j hj => ?_⟩
  rw [h1 _ (by unfold slo; omega) (by unfold slo; omega)]; exact a4 i hi j hj
theorem HiM_cg (h : HiM I G mn U) (hg : agG G G') (h1 : I' 420 47 = I 420 47) (h2 : I' 455 = I 455) : HiM I' G' mn U := by
  refine ⟨by rw [h1]; exact h.1, fun i hi => ?_⟩
  obtain ⟨W, e1, e2⟩ := h.2 i hi
  exact ⟨W, ag_sm hg e1, by rw [h2]; exact e2⟩
theorem HI_cg (h : HI B I nx mn U) (hB : B ≤ B') (hg : agG (gI I) (gI I')) (h1 : ∀ a, 129 ≤ a → a < 335 → I' a = I a) (h2 : I' 420 47 = I 420 47) (h3 : I' 455 = I 455) : HI B' I' nx mn U := ⟨HiC_cg h.1 h1, HiM_cg h.2.1 hg h2 h3, fun i hi => okV_mono (ag_okV hg (h.2.2 i hi)) hB⟩
theorem MH_cg (hj : j < 4) (h : MH B I j) (hB : B ≤ B') (hg : agG (gI I) (gI I')) (h1 : ∀ a, 336 + 21 * j ≤ a → a < 357 + 21 * j → I' a = I a) (h2 : ∀ k, k < 291 → I' 454 (291 * j + k) = I 454 (291 * j + k)) (h4 : ∀ m Q, m ≤ 40 → WoM I (1 + j) m Q → WoM I' (1 + j) m Q) (h5 : ∀ m S, m ≤ 8 → SeM I (1 + j) m S → SeM I' (1 + j) m S) : MH B' I' j := by
  obtain ⟨W, mw, Q, ms, S, ⟨a1, a2, a3⟩, a4, a5⟩ := h
  have e : ∀ i, i < 12 → vw I (337 + 21 * j) i = vw I' (337 + 21 * j) i := fun i hi => (h1 (337 + 21 * j + i) (by omega) (by omega)).symm
  obtain ⟨W', e1, e2⟩ := sm_cg e a2
  refine ⟨W', mw, Q, ms, S, ⟨okV_mono (ag_okV hg (okV_cg e a1)) hB, ag_sm hg e2, fun k hk => ?_⟩, ⟨WoC_cg (fun a ha => h1 _ (by omega) (by omega)) a4.1, h4 _ _ a4.2.2.1 a4.2.1, okW_cg hg a4.2.2⟩, SeC_cg (fun a ha => h1 _ (by omega) (by omega)) a5.1, h5 _ _ a5.2.2.1 a5.2.1, okQ_cg hg a5.2.2⟩
  rw [h2 k hk, a3 k hk, rowW e1]
theorem MK_cg (h : MK B I) (hB : B ≤ B') (hg : agG (gI I) (gI I')) (h1 : ∀ a, 336 ≤ a → a < 420 → I' a = I a) (h2 : I' 454 = I 454) (h3 : I' 456 = I 456) (h0 : ∀ j, j < 5 → I' 443 j = I 443 j) (h4 : ∀ a k, 444 ≤ a → a ≤ 446 → k < 200 → I' a k = I a k) (h5 : ∀ j m S, j < 4 → m ≤ 8 → SeM I (1 + j) m S → SeM I' (1 + j) m S) : MK B' I' := by
  intro j hj
  obtain ⟨a1, a2⟩ := h j hj
  refine ⟨cS_cg (V := vw I (337 + 21 * j)) (fun i hi => (h1 (337 + 21 * j + i) (by omega) (by omega)).symm) a1, ?_⟩
  rw [h1 (336 + 21 * j) (by omega) (by omega), h3]
  rcases a2 with a2 | ⟨a2, a3⟩
  · exact Or.inl a2
  · exact Or.inr ⟨a2, MH_cg hj a3 hB hg (fun a q1 q2 => h1 a (by omega) (by omega)) (fun k _ => by rw [h2]) (fun m Q q1 q2 => WoM_cg q1 q2 (h0 _ (by omega)) (fun a k w1 w2 w3 => h4 a _ w1 w2 (by omega))) (fun m S q1 q2 => h5 j m S hj q1 q2)⟩
/-- the cells that readers and trials may change -/
theorem RR_cg (h : RR B I J) (hB : B ≤ B') (h1 : ∀ a, a ≠ 420 → (a < 114 ∨ 129 ≤ a) → a ≠ 452 → a ≠ 453 → I' a = I a) (h2 : I' 420 1 = I 420 1) (h3 : I' 420 47 = I 420 47) (h4 : CN I') (h5 : ∀ c, c < 8 → J' 82 c = J 82 c ∧ J' 423 c = J 423 c) : RR B' I' J' := by
  obtain ⟨n, W, mw, Q, ms, S, nx, mn, U, a1, a2, a3, a4, a5, a6, a7, a8⟩ := h
  have hg : agG (gI I) (gI I') := gI_cg fun a q1 q2 => h1 a (by omega) (by omega) (by omega) (by omega)
  have hm : mG I' = mG I := mG_cg (h1 _ (by omega) (by omega) (by omega) (by omega)) (fun a q1 q2 => h1 _ (by omega) (by omega) (by omega) (by omega)) (h1 _ (by omega) (by omega) (by omega) (by omega))
  obtain ⟨W', a3'⟩ := ST_cg (I' := I') a3 hB hg (fun j hj => h1 _ (by omega) (by omega) (by omega) (by omega)) (h1 _ (by omega) (by omega) (by omega) (by omega))
  refine ⟨n, W', mw, Q, ms, S, nx, mn, U, TP_cg a1 (by rw [h1 65 (by omega) (by omega) (by omega) (by omega)]) h2 (h1 _ (by omega) (by omega) (by omega) (by omega)) (h1 _ (by omega) (by omega) (by omega) (by omega)), GP_cg a2 (fun a q1 q2 => h1 a (by omega) (by omega) (by omega) (by omega)) (by rw [hm]; exact ag_rf) h5, a3', h4, ?_, ?_, ?_, ?_⟩
  · exact WK_cg a5 hg (fun a ha => h1 _ (by omega) (by omega) (by omega) (by omega)) (by rw [h1 443 (by omega) (by omega) (by omega) (by omega)]) (fun a k q1 q2 _ => by rw [h1 a (by omega) (by omega) (by omega) (by omega)])
  · exact SE_cg a6 hg (fun a ha => h1 _ (by omega) (by omega) (by omega) (by omega)) (fun a q1 q2 => h1 a (by omega) (by omega) (by omega) (by omega))
  · exact HI_cg a7 hB hg (fun a q1 q2 => h1 a (by omega) (by omega) (by omega) (by omega)) h3 (h1 _ (by omega) (by omega) (by omega) (by omega))
  · exact MK_cg a8 hB hg (fun a q1 q2 => h1 a (by omega) (by omega) (by omega) (by omega)) (h1 _ (by omega) (by omega) (by omega) (by omega)) (h1 _ (by omega) (by omega) (by omega) (by omega)) (fun j _ => by rw [h1 443 (by omega) (by omega) (by omega) (by omega)]) (fun a k q1 q2 _ => by rw [h1 a (by omega) (by omega) (by omega) (by omega)]) (fun j m S _ _ hS => SeM_cg hS fun a q1 q2 => h1 a (by omega) (by omega) (by omega) (by omega))
theorem RR_fr {n' mw ms : Nat} {Q : Wq} {S : Sq} (h : RR B I J) (hB : B ≤ B') (ht : TP n' I') (hW : WK I' 90 0 mw Q) (hS : SE I' 98 0 ms S) (hc : CN I') (c1 : ∀ a, (76 ≤ a ∧ a ≤ 81) ∨ (102 ≤ a ∧ a < 114) ∨ (129 ≤ a ∧ a < 420) → I' a = I a) (cm : agG (mG I) (mG I')) (c451 : I' 451 = I 451) (c454 : I' 454 = I 454) (c455 : I' 455 = I 455) (c456 : I' 456 = I 456) (c47 : I' 420 47 = I 420 47) (cSe : ∀ j m S, j < 4 → m ≤ 8 → SeM I (1 + j) m S → SeM I' (1 + j) m S) (c443 : ∀ j, 1 ≤ j → j < 5 → I' 443 j = I 443 j) (c444 : ∀ a k, 444 ≤ a → a ≤ 446 → 40 ≤ k → k < 200 → I' a k = I a k) (hJ : ∀ c, c < 8 → J' 82 c = J 82 c ∧ J' 423 c = J 423 c) : RR B' I' J' := by
  obtain ⟨n, W, mw0, Q0, ms0, S0, nx, mn, U, a1, a2, a3, a4, a5, a6, a7, a8⟩ := h
  have hg : agG (gI I) (gI I') := gI_cg fun a q1 q2 => c1 a (by omega)
  obtain ⟨W', a3'⟩ := ST_cg (I' := I') a3 hB hg (fun j hj => c1 _ (by omega)) c451
  refine ⟨n', W', mw, Q, ms, S, nx, mn, U, ht, GP_cg a2 (fun a q1 q2 => c1 a (by omega)) cm hJ, a3', hc, hW, hS, HI_cg a7 hB hg (fun a q1 q2 => c1 a (by omega)) c47 c455, fun j hj => ?_⟩
  obtain ⟨b1, b2⟩ := a8 j hj
  refine ⟨cS_cg (V := vw I (337 + 21 * j)) (fun i hi => (c1 (337 + 21 * j + i) (by omega)).symm) b1, ?_⟩
  rw [c1 (336 + 21 * j) (by omega), c456]
  rcases b2 with b2 | ⟨b2, b3⟩
  · exact Or.inl b2
  · exact Or.inr ⟨b2, MH_cg hj b3 hB hg (fun a q1 q2 => c1 a (by omega)) (fun k _ => by rw [c454]) (fun m Q q1 q2 => WoM_cg q1 q2 (c443 _ (by omega) (by omega)) (fun a k w1 w2 w3 => c444 a _ w1 w2 (by omega) (by omega))) (fun m S q1 q2 => cSe j m S hj q1 q2)⟩
/-- a reader of the model sets thrown alone -/
theorem RR_th (h : RR B I J) {x : Int32} : RR (B + 1) (st I 420 (upd (I 420) 0 x)) J := by
  have hc : CN I := by obtain ⟨n, W, mw, Q, ms, S, nx, mn, U, a1, a2, a3, a4, a5⟩ := h; exact a4
  refine RR_cg h (by omega) (fun a q _ _ _ => st_ne q) (by rw [st_eq, upd_ne (by decide)]) (by rw [st_eq, upd_ne (by decide)]) (CN_cg hc (fun a q1 q2 => st_ne (by omega)) (st_ne (by decide)) (st_ne (by decide))) (fun _ _ => ⟨rfl, rfl⟩)
theorem pmS (h : ST B I W) : pm I W = I := by unfold pm; rw [← h.2.1, st_id]
theorem pmT (h : ST B I W) {x : Int32} : pm (st I 420 (upd (I 420) 0 x)) W = st I 420 (upd (I 420) 0 x) := by
  unfold pm; rw [← h.2.1, st_cm (by decide), st_id]
end RE
