/-! the law's start: its memory and that the relation holds there; written by wip/gen/gend.py -/
set_option maxRecDepth 100000
section S0
variable {L : Nat} {xs : Nat → Int32} {d z a k n : Nat} {P : Option Value → Hp → Prop} {l5 l6 : Option Value}
def I0 : Mi := fun a => if a = 451 then zf 291 else fun _ => 0
def J0 : Mj := fun _ _ => 0
def R0 : Mr := fun a => if a = 71 then rT 1001 else fun _ => none
theorem I0_z (h : a ≠ 451) : I0 a = z0 := by unfold I0; rw [if_neg h]; rfl
theorem I0_r : I0 451 = zf 291 := if_pos rfl
def goC (a : Nat) : List (Nat × Nat × List Nat) → List AC
  | [] => []
  | s :: r => celS I0 J0 R0 a s :: goC (a + 1) r
theorem goC_map : ∀ (S : List (Nat × Nat × List Nat)) (a : Nat), (List.range S.length).map (fun k => match S[k]? with
  | some s => celS I0 J0 R0 (a + k) s
  | none => .inr (99, [])) = goC a S
  | [], _ => rfl
  | s :: r, a => by
    rw [List.length_cons, List.range_succ_eq_map, List.map_cons, List.map_map]
    refine congr (congrArg List.cons rfl) ?_
    rw [← goC_map r (a + 1)]
    refine List.map_congr_left fun k _ => ?_
    show (match (s :: r)[k + 1]? with
      | some s => celS I0 J0 R0 (a + (k + 1)) s
      | none => .inr (99, [])) = _
    rw [List.getElem?_cons_succ, show a + (k + 1) = a + 1 + k by omega]
theorem goC_ap : ∀ (S T : List (Nat × Nat × List Nat)) (a : Nat), goC a (S ++ T) = goC a S ++ goC (a + S.length) T
  | [], _, _ => rfl
  | s :: r, T, a => by
    show celS I0 J0 R0 a s :: goC (a + 1) (r ++ T) = _
    rw [goC_ap r T (a + 1), List.length_cons, show a + (r.length + 1) = a + 1 + r.length by omega]
    rfl
theorem rH_l {s n m : Nat} {l : List Nat} (hl : l.length = m) (h : ∀ k, k < m → rH s n m k = l[k]?) : rH s n m = fun i => l[i]? := by
  funext k
  by_cases hk : k < m
  · exact h k hk
  · unfold rH
    rw [if_neg hk, List.getElem?_eq_none (by omega)]
theorem a10_e : a10 65 17 = .inl (5, 17, .inr (.inr (.inr (.inr fun i => ([131, 143, 155, 167, 179, 191, 203, 215, 227, 239, 251, 263, 275, 287, 299, 311, 323] : List Nat)[i]?)))) := by
  unfold a10
  rw [rH_l (m := 17) (s := 12) (n := 65 + 2) (l := [131, 143, 155, 167, 179, 191, 203, 215, 227, 239, 251, 263, 275, 287, 299, 311, 323]) rfl (by decide)]
theorem a114_e : a114 4 = .inl (6, 4, .inr (.inr (.inr (.inr fun i => ([336, 357, 378, 399] : List Nat)[i]?)))) := by
  unfold a114
  rw [rH_l (m := 4) (s := 21) (n := 272) (l := [336, 357, 378, 399]) rfl (by decide)]
def hp0 : List AC := ((c114 ++ .inr (11, v171) :: t171a) ++ .inl (0, 291, .inl (zf 291)) :: t171b) ++ [.inl (1, 1, .inr (.inl fun _ => 0))]
theorem SHT_s : SHT = SHT.take 65 ++ (SHT.drop 65).take 2 ++ (SHT.drop 67).take 204 ++ (SHT.drop 271).take 1 ++ (SHT.drop 272).take 84 ++ (SHT.drop 356).take 31 ++ (SHT.drop 387).take 1 ++ SHT.drop 388 := by decide +kernel
theorem sg_1 : goC 64 (SHT.take 65) = .inr (10, v114) :: (c100 1 ++ c25 65 8 ++ c1 12 ++ c1 19 ++ c109 40 26 ++ c109 40 30 ++ c109 8 34 ++ c85 38 ++ c85 50 ++ c74 76 62 ++ c49 76 126) := rfl
theorem sg_2 : goC 129 ((SHT.drop 65).take 2) = [o10 65, a10 65 17] := by
  rw [a10_e]
  rfl
theorem sg_3 : goC 131 ((SHT.drop 67).take 204) = cH 67 17 := rfl
theorem sg_4 : goC 335 ((SHT.drop 271).take 1) = [a114 4] := by
  rw [a114_e]
  rfl
theorem sg_5 : goC 336 ((SHT.drop 272).take 84) = cM 4 := rfl
theorem sg_6 : goC 420 ((SHT.drop 356).take 31) = .inr (11, v171) :: t171a := rfl
theorem sg_7 : goC 451 ((SHT.drop 387).take 1) = [.inl (0, 291, .inl (zf 291))] := by
  rw [← I0_r]
  rfl
theorem sg_8 : goC 452 (SHT.drop 388) = t171b ++ [.inl (1, 1, .inr (.inl fun _ => 0))] := rfl
theorem hp0_e : goC 64 SHT = hp0 := by
  rw [SHT_s, goC_ap, goC_ap, goC_ap, goC_ap, goC_ap, goC_ap, goC_ap]
  have l1 : (SHT.take 65).length = 65 := by decide +kernel
  have l2 : ((SHT.drop 65).take 2).length = 2 := by decide +kernel
  have l3 : ((SHT.drop 67).take 204).length = 204 := by decide +kernel
  have l4 : ((SHT.drop 271).take 1).length = 1 := by decide +kernel
  have l5 : ((SHT.drop 272).take 84).length = 84 := by decide +kernel
  have l6 : ((SHT.drop 356).take 31).length = 31 := by decide +kernel
  have l7 : ((SHT.drop 387).take 1).length = 1 := by decide +kernel
  simp only [List.length_append, l1, l2, l3, l4, l5, l6, l7, Nat.reduceAdd, sg_1, sg_2, sg_3, sg_4, sg_5, sg_6, sg_7, sg_8]
  unfold hp0 c114 t114 c10
  simp only [List.append_assoc, List.cons_append, List.nil_append, Nat.reduceAdd]
theorem mk_0 : mk I0 J0 R0 ([], z) = (hp0, z) := by
  unfold mk
  rw [← hp0_e, ← goC_map SHT 64, SHT_len, List.append_nil]
  rfl
theorem c114_len : c114.length = 356 := by
  unfold c114
  rw [List.length_append, List.length_cons, List.length_cons, cM_len, show t114.length = 270 from by unfold t114; simp only [List.length_append, c100_len, c25_len, c1_len, c109_len, c85_len, c10_len]; rfl]
theorem h394 : ((c114 ++ .inr (11, v171) :: t171a) ++ .inl (0, 291, .inl (zf 291)) :: t171b : List AC).length = 394 := by
  rw [List.length_append, List.length_append, c114_len]
  rfl
theorem law_0 : Wp L xs (d + 21) 0 0 [some (.ref 31), none, none, none, none, l5, l6] [] ([], 0) P = Wp L xs (d + 21) 0 23 [some (.ref 31), some (.ref 64), some (.ref 420), some (.ref 458), some (.int (nI 0)), l5, l6] [] (mk I0 J0 R0 ([], 25893)) P := by
  have r1 : (ip_rc ([.inr (10, [.null, .null, .null, .null, .null, .null, .null, .null, .null, .null, .null, .null, .null])], 13) 10 [.ref 64] = true) = True := eq_true rfl
  have e1 : Wp L xs (d + 21) 0 0 [some (.ref 31), none, none, none, none, l5, l6] [] ([], 0) P = Wp L xs (d + 21) 0 8 [some (.ref 31), some (.ref 64), none, none, none, l5, l6] [] (c114, 15099) P := by
    rw [w0_0, w0_3]
    show Wp L xs (d + 21) 0 4 [some (.ref 31), none, none, none, none, l5, l6] [.ref 64, .ref 64] ([.inr (10, [.null, .null, .null, .null, .null, .null, .null, .null, .null, .null, .null, .null, .null])], 13) P = _
    rw [w0_4, r1, true_and, k_i114 (d := d + 16), kc_n, w0_7, frT2, true_and]
  rw [e1, w0_8, w0_11, w0_12, rc_at, true_and]
  show Wp L xs (d + 19 + 1) 171 0 [some (.ref (64 + c114.length))] [] (c114 ++ [.inr (11, [.int 0, .int 0, .null, .int 0, .int 0, .int 0, .int 0, .long 0, .int 0, .int 0, .null, .null, .null, .null, .null, .null, .null, .null, .null, .int 0, .null, .null, .null, .null, .null, .null, .null, .null, .null, .null, .null, .null, .int 0, .null, .null, .null, .null, .null, .null, .null, .null, .null, .null, .null, .null, .null, .null, .int 0, .null, .long 0])], 15149) _ = _
  rw [k_i171 c114_len, kc_n, w0_15, frT2, true_and, w0_16, w0_17]
  have i1 : (ip_in (nI 1) 65536 = true) = True := eq_true (by decide)
  have c1' : (nI 1).toNatClampNeg = 1 := nI_clamp (by omega)
  rw [i1, true_and, c1']
  show Wp L xs (d + 21) 0 19 [some (.ref 31), some (.ref 64), some (.ref (64 + c114.length)), none, none, l5, l6] [.ref (64 + ((c114 ++ .inr (11, v171) :: t171a) ++ .inl (0, 291, .inl (zf 291)) :: t171b : List AC).length)] (hp0, 25893) P = _
  rw [h394, c114_len, w0_19, frT2, true_and, w0_20, w0_21, frT2, true_and, mk_0]
theorem RR_0 : RR 0 I0 J0 := by
  have z : ∀ a k, a ≠ 451 → I0 a k = nI 0 := fun a k h => by rw [I0_z h]; rfl
  have hD : GDt I0 J0 (fun _ => 0) 0 0 (0, 0, 0, fun _ => 0, 0) 76 := ⟨⟨z _ _ (by decide), z _ _ (by decide), z _ _ (by decide)⟩, fun c hc => absurd hc (Nat.not_lt_zero c)⟩
  have hM : MGt I0 J0 (fun _ => 0) 0 0 (0, 0, 0, fun _ => 0, 0) := ⟨⟨z _ _ (by decide), z _ _ (by decide), z _ _ (by decide)⟩, fun c hc => absurd hc (Nat.not_lt_zero c)⟩
  have hW : WD (fun _ => 0) 0 0 (0, 0, 0, fun _ => 0, 0) := WD_0
  have h80 : ∀ k, 8 ≤ k → I0 80 k = nI 0 := fun k _ => z _ _ (by decide)
  obtain ⟨d1, d2, d3, d4⟩ := gI_D hD hW
  obtain ⟨d5, d6⟩ := agG_D hD hM hW
  obtain ⟨d7, d8⟩ := fr_D hD hM hW h80
  have hN2 : gN (mG I0) = 0 := by rw [← ag_N d5]; exact d3
  have hM2 : gM (mG I0) = 0 := by rw [← ag_M d5]; exact d2
  have ha0 : allR 0 = nI 0 := by decide
  have hu : upd (upd z0 0 (nI 0)) 1 (nI 0) = z0 := by
    funext k; unfold upd z0
    by_cases h1 : k = 1
    · rw [if_pos h1]
    · rw [if_neg h1]
      by_cases h0 : k = 0
      · rw [if_pos h0]
      · rw [if_neg h0]
  have hu0 : upd z0 0 (nI 0) = z0 := by
    funext k; unfold upd z0
    by_cases h0 : k = 0
    · rw [if_pos h0]
    · rw [if_neg h0]
  have hVe : ∀ j, j < 12 → frs 0 (I0 80) j = vw I0 102 j := fun j hj => by
    show _ = I0 (102 + j)
    rw [I0_z (a := 102 + j) (by omega), I0_z (a := 80) (by decide)]
    unfold frs
    rw [ha0, hu]
    rcases (show j = 0 ∨ j = 1 ∨ j = 2 ∨ j = 3 ∨ j = 4 ∨ j = 5 ∨ j = 6 ∨ j = 7 ∨ j = 8 ∨ j = 9 ∨ j = 10 ∨ j = 11 by omega) with rfl | rfl | rfl | rfl | rfl | rfl | rfl | rfl | rfl | rfl | rfl | rfl <;> rfl
  obtain ⟨W', w1, w2⟩ := sm_cg hVe d8
  have cSz : ∀ s, s + 12 ≤ 420 → cS (vw I0 s) := fun s hs j k hj _ => z _ _ (by omega)
  refine ⟨0, W', 0, fun _ => (0, 0, 0), 0, fun _ => (0, 0, false), 0, 0, fun _ => vw I0 102, ⟨z _ _ (by decide), z _ _ (by decide), by omega, by rw [I0_z (by decide), I0_z (by decide)], fun k hk => absurd hk (by omega)⟩, ⟨d1, d4, d5, Or.inl d3, ⟨0, by omega, z _ _ (by decide)⟩, h80, fun c hc => d6 c (by rw [d2] at hc; exact hc)⟩, ⟨okV_cg hVe d7, ?_, w2⟩, ⟨fun k _ => z _ _ (by decide), cSz _ (by omega), fun k _ => z _ _ (by decide), fun k _ => z _ _ (by decide)⟩, ⟨⟨z _ _ (by decide), fun k q => absurd q (by omega)⟩, ⟨z _ _ (by decide), fun k q => absurd q (by omega)⟩, by omega, fun k q => absurd q (by omega)⟩, ⟨⟨z _ _ (by decide), fun k q => absurd q (by omega)⟩, ⟨z _ _ (by decide), fun k q => absurd q (by omega)⟩, by omega, fun k q => absurd q (by omega)⟩, ⟨⟨⟨z _ _ (by decide), by omega⟩, ⟨z _ _ (by decide), by omega⟩, fun k hk => cSz _ (by omega), fun k q => absurd q (by omega)⟩, ⟨z _ _ (by decide), fun k q => absurd q (by omega)⟩, fun k q => absurd q (by omega)⟩, fun j hj => ⟨cSz _ (by omega), Or.inl ⟨z _ _ (by omega), z _ _ (by decide)⟩⟩⟩
  rw [I0_r]
  have hzM : row W' = row zM := rowW fun j hj => by
    rw [w1 j hj]
    unfold frM
    rw [hN2, hM2, ha0, hu0]
    by_cases h0 : j = 0
    · subst h0; rw [st_eq]; rfl
    · rw [st_ne h0]
      by_cases h9 : j = 9
      · subst h9; rw [st_eq]
        funext c
        show (if c < 0 then _ else nI 0) = nI 0
        rw [if_neg (by omega)]
      · rw [st_ne h9]
  rw [hzM]
  funext k
  rw [row_zM]
  rfl
end S0
