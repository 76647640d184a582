/-! THE LINES OF A WORK: m of them (step, command, replica) -/
abbrev Wq : Type := Nat → Nat × Nat × Nat
def rc_ (w : Nat) : Prop := w % 2 = 1 ∨ w = 6 ∨ w = 8
def okW (N M m : Nat) (Q : Wq) : Prop := m ≤ 40 ∧ ∀ k, k < m → (Q k).1 < 11 ∧ ((Q k).1 < 7 → (Q k).2.1 < M) ∧ (rc_ (Q k).1 → (Q k).2.2 < N)
def WoC (I : Mi) (t m : Nat) (Q : Wq) : Prop := I t 0 = nI m ∧ ∀ k, k < m → I (t + 1) k = nI (Q k).1 ∧ ((Q k).1 < 7 → I (t + 2) k = nI (Q k).2.1) ∧ (rc_ (Q k).1 → I (t + 3) k = nI (Q k).2.2)
def WoM (I : Mi) (j m : Nat) (Q : Wq) : Prop := I 443 j = nI m ∧ ∀ k, k < m → I 444 (40 * j + k) = nI (Q k).1 ∧ ((Q k).1 < 7 → I 445 (40 * j + k) = nI (Q k).2.1) ∧ (rc_ (Q k).1 → I 446 (40 * j + k) = nI (Q k).2.2)
abbrev Jq : Type := Vw × Option Nat × Option Nat
def jS (G : Gv) (Q : Wq) (k : Nat) (q : Jq) : Jq := (fun V' => (V', if cnd G q.1 (Q k).1 (Q k).2.1 (Q k).2.2 = false ∧ q.2.1 = none then some k else q.2.1, if q.2.2 = none ∧ nI 0 < rIA V' then some k else q.2.2)) (stp G q.1 (Q k).1 (Q k).2.1 (Q k).2.2).2
def jA (G : Gv) (Q : Wq) (V0 : Vw) (m : Nat) : Jq := lp (jS G Q) m (V0, none, none)
def vJud (G : Gv) (Q : Wq) (m : Nat) (y : Int32) : Int32 := if isR 3 y = true then (fun q : Jq => if y = nI 2 then rIA q.1 else if y = nI 0 then oN q.2.1 else oN q.2.2) (jA G Q (frs (gN G) (G 4)) m) else -2
section F1
variable {L : Nat} {xs : Nat → Int32} {d : Nat} {P : Option Value → Hp → Prop} {I : Mi} {J : Mj} {R : Mr} {Z : Mz} {r c r' c' k l N M o n m B a b t w nx mn s : Nat} {x y z : Int32} {V V' V0 W : Vw} {f f1 f4 g : Nat → Int32} {G : Gv} {U : Uq} {Q : Wq}
theorem stp_un (hw : w < 11) (hc : w < 7 → c = c') (hr : rc_ w → r = r') : stp G V w c r = stp G V w c' r' ∧ cnd G V w c r = cnd G V w c' r' := by
  unfold rc_ at hr
  match w, hw with
  | 0, _ => rw [hc (by decide)]; exact ⟨(rfl : stP G V c' = stP G V c'), by simp only [cnd]⟩
  | 1, _ => rw [hc (by decide), hr (by decide)]; exact ⟨rfl, rfl⟩
  | 2, _ => rw [hc (by decide)]; exact ⟨(rfl : stD G V c' = stD G V c'), by simp only [cnd]⟩
  | 3, _ => rw [hc (by decide), hr (by decide)]; exact ⟨rfl, rfl⟩
  | 4, _ => rw [hc (by decide)]; exact ⟨(rfl : stS G V c' = stS G V c'), by simp only [cnd]⟩
  | 5, _ => rw [hc (by decide), hr (by decide)]; exact ⟨rfl, rfl⟩
  | 6, _ => rw [hc (by decide), hr (by decide)]; exact ⟨rfl, rfl⟩
  | 7, _ => rw [hr (by decide)]; exact ⟨(rfl : stX G V r' = stX G V r'), by simp only [cnd]⟩
  | 8, _ => rw [hr (by decide)]; exact ⟨(rfl : stU V r' true = stU V r' true), by simp only [cnd]⟩
  | 9, _ => rw [hr (by decide)]; exact ⟨(rfl : stU V r' false = stU V r' false), by simp only [cnd]⟩
  | 10, _ => exact ⟨(rfl : stL G V = stL G V), by simp only [cnd]⟩
theorem of32 (x : Int32) : ∃ n, x = nI n := ⟨x.toBitVec.toNat, Int32.toBitVec_inj.mp (by show x.toBitVec = BitVec.ofNat 32 x.toBitVec.toNat; simp)⟩
theorem pcn_z : pcn (nI 0) = 0 := by decide +kernel
theorem allR_lt (h5 : N ≤ 5) : ∀ k, tb (allR N) k = true → k < N := by
  intro k hk
  have := tb_lt hk
  unfold allR at hk
  rw [tb_all N (by omega) k this] at hk
  simpa using hk
theorem rn_z : rn z0 r = nI 0 := by
  apply tb_ext
  intro k _
  unfold rn z0
  rw [tb_cAt, inr_eq, tb_0]
  have : ¬ nI 0 = nI 4 := by decide
  simp [this]
theorem frs_ok (hG : okG G) (h4 : can 8 (G 4)) : okV 0 G (frs (gN G) (G 4)) := by
  have h5 := hG.1.2
  have cz : ∀ n, can n z0 := fun n k _ => rfl
  refine ⟨⟨fun k hk => ?_, ?_, ?_⟩, ⟨cz 40, cz 5, fun q _ => ⟨0, by omega, rfl⟩, fun _ _ _ _ _ => rfl, fun _ _ _ _ _ => rfl, fun r _ => ?_⟩, ⟨cz 40, fun q _ => ⟨0, by omega, rfl⟩⟩, ⟨cz 40, fun q _ => ⟨0, by omega, rfl⟩⟩, ⟨cz 40, fun q _ o ho => ?_⟩, cz 40, cz 40, cz 20, ⟨h4, fun c hc => hG.2.2.1 c hc⟩, ⟨cz 8, fun c _ k hk => ?_⟩, ⟨cz 8, fun c _ k hk => ?_⟩⟩
  · show upd (upd z0 0 (allR (gN G))) 1 (nI 0) k = nI 0
    rw [upd_ne (by omega), upd_ne (by omega)]; rfl
  · show ∀ k, tb (upd (upd z0 0 (allR (gN G))) 1 (nI 0) 0) k = true → k < gN G
    rw [upd_ne (by decide), upd_eq]; exact allR_lt h5
  · show ∀ k, tb (upd (upd z0 0 (allR (gN G))) 1 (nI 0) 1) k = true → k < gM G
    rw [upd_eq]; exact z_M
  · show z0 r = nI (pcn (rn z0 r))
    rw [rn_z, pcn_z]; rfl
  · exact z_M (p := fun o => o < gM G) o ho
  · exact z_M (p := fun o => o < gN G) k hk
  · exact z_M (p := fun o => o < gN G) k hk
theorem jA_s : jA G Q V0 (n + 1) = jS G Q n (jA G Q V0 n) := rfl
theorem jA_ok (hG : okG G) (hX : okX G) (hV : okV B G V0) (hW : okW (gN G) (gM G) m Q) (hB : B + 100 < 2147483648) : ∀ n, n ≤ m → okV (B + n) G (jA G Q V0 n).1
  | 0, _ => hV
  | n + 1, hn => by
    have hm := hW.1
    obtain ⟨h1, h2, h3⟩ := hW.2 n (by omega)
    have := jA_ok hG hX hV hW hB n (by omega)
    exact (okV_stp h1 this hG hX h2 h3 (by omega)).1
theorem jA_lt {q : Nat} : ∀ {n : Nat}, (jA G Q V0 n).2.1 = some q ∨ (jA G Q V0 n).2.2 = some q → q < n
  | 0, h => by rcases h with h | h <;> cases h
  | n + 1, h => by
    rw [jA_s] at h
    unfold jS at h
    dsimp only at h
    rcases h with h | h
    · split at h
      · cases h; omega
      · have := jA_lt (Or.inl h); omega
    · split at h
      · cases h; omega
      · have := jA_lt (Or.inr h); omega
theorem oN_m1 {o : Option Nat} (h : ∀ q, o = some q → q < 40) : (oN o = -1) = (o = none) := by
  cases o with
  | none => exact propext ⟨fun _ => rfl, fun _ => rfl⟩
  | some q =>
    have := h q rfl
    refine propext ⟨fun z => ?_, fun z => by cases z⟩
    have z' : nI q = -1 := z
    rw [m1F (by omega)] at z'; exact z'.elim
theorem oN_l0 {o : Option Nat} (h : ∀ q, o = some q → q < 40) : (oN o < nI 0) = (o = none) := by
  cases o with
  | none => exact propext ⟨fun _ => rfl, fun _ => by decide⟩
  | some q =>
    have := h q rfl
    refine propext ⟨fun z => ?_, fun z => by cases z⟩
    exact absurd z (nI_nlt (by omega) (by omega))
theorem k_judged (hG : okG (gI I)) (hX : okX (gI I)) (h4 : can 8 (I 80)) (hl : can 8 (I 127)) (ht : cS (vw I 114)) (hC : WoC I 90 m Q) (hW : okW (gN (gI I)) (gM (gI I)) m Q) : ∃ I', trE I I' ∧ ∀ P, Wp L xs (d+6) 137 0 [some (.ref (64)), some (.int (y)), none, none, none, none] [] (mk I J R Z) P = P (some (.int (vJud (gI I) Q m y))) (mk I' J R Z) := by
  have hN : I 76 0 = nI (gN (gI I)) := hG.1.1
  have h5 := hG.1.2
  have hm40 := hW.1
  unfold vJud
  by_cases hy : isR 3 y = true
  · rw [if_pos hy]
    have hsa := fun P => k_startAnew (L := L) (xs := xs) (d := d + 4) (I := I) (J := J) (R := R) (Z := Z) (P := P) isS_114 hN h5 h4 ht
    have hfr : okV 0 (gI I) (frs (gN (gI I)) (I 80)) := frs_ok hG h4
    generalize hI1 : putS I 114 (frs (gN (gI I)) (I 80)) = I1 at *
    have e1 : ∀ a, (a < 114 ∨ 126 ≤ a) → I1 a = I a := fun a ha => by rw [← hI1]; exact ps_ne (by omega)
    have key : ∀ n, n ≤ m → ∃ I' t, trE I I' ∧ (∀ j, j < 12 → I' (114 + j) = (jA (gI I) Q (frs (gN (gI I)) (I 80)) n).1 j) ∧ ∀ P, Wp L xs (d+6) 137 30 [some (.ref (64)), some (.int (y)), some (.int (-1)), some (.int (-1)), some (.int (nI 0)), none] [] (mk I1 J R Z) P = Wp L xs (d+6) 137 30 [some (.ref (64)), some (.int (y)), some (.int (oN (jA (gI I) Q (frs (gN (gI I)) (I 80)) n).2.1)), some (.int (oN (jA (gI I) Q (frs (gN (gI I)) (I 80)) n).2.2)), some (.int (nI n)), t] [] (mk I' J R Z) P := by
      intro n
      induction n with
      | zero =>
        intro _
        refine ⟨I1, none, ⟨fun a ha => e1 a (by omega), fun k hk => by rw [e1 _ (by omega)]; exact hl k hk, ?_⟩, fun j hj => by rw [← hI1, ps_j hj]; rfl, fun P => rfl⟩
        exact cS_cg (V := frs (gN (gI I)) (I 80)) (fun j hj => by show _ = I1 (114 + j); rw [← hI1, ps_j hj]) (okV_cS hfr)
      | succ n ih =>
        intro hn
        obtain ⟨I', t, hE, hV', hw⟩ := ih (by omega)
        have hokn := jA_ok (B := 0) hG hX hfr hW (by omega) n (by omega)
        have hblt := fun q (h : (jA (gI I) Q (frs (gN (gI I)) (I 80)) n).2.1 = some q) => Nat.lt_of_lt_of_le (jA_lt (Or.inl h)) (show n ≤ 40 by omega)
        have hflt := fun q (h : (jA (gI I) Q (frs (gN (gI I)) (I 80)) n).2.2 = some q) => Nat.lt_of_lt_of_le (jA_lt (Or.inr h)) (show n ≤ 40 by omega)
        rw [jA_s]
        generalize hq : jA (gI I) Q (frs (gN (gI I)) (I 80)) n = q at *
        obtain ⟨w1, w2, w3⟩ := hW.2 n (by omega)
        obtain ⟨s1, s2, s3⟩ := hC.2 n (by omega)
        obtain ⟨c', hc', hcc⟩ : ∃ c', I 92 n = nI c' ∧ ((Q n).1 < 7 → c' = (Q n).2.1) := by
          by_cases h : (Q n).1 < 7
          · exact ⟨_, s2 h, fun _ => rfl⟩
          · obtain ⟨u, hu⟩ := of32 (I 92 n)
            exact ⟨u, hu, fun z => absurd z h⟩
        obtain ⟨r', hr', hrr⟩ : ∃ r', I 93 n = nI r' ∧ (rc_ (Q n).1 → r' = (Q n).2.2) := by
          by_cases h : rc_ (Q n).1
          · exact ⟨_, s3 h, fun _ => rfl⟩
          · obtain ⟨u, hu⟩ := of32 (I 93 n)
            exact ⟨u, hu, fun z => absurd z h⟩
        have s1' : I' 91 n = nI (Q n).1 := by rw [hE.1 91 (by omega)]; exact s1
        have s2' : I' 92 n = nI c' := by rw [hE.1 92 (by omega)]; exact hc'
        have s3' : I' 93 n = nI r' := by rw [hE.1 93 (by omega)]; exact hr'
        have hm : I' 90 0 = nI m := by rw [hE.1 90 (by omega)]; exact hC.1
        have hag : agG (gI I) (gI I') := ⟨fun k _ => by show I (76 + 0) k = I' (76 + 0) k; rw [hE.1 _ (by omega)], fun j c h1 h2 _ => by show I (76 + j) c = I' (76 + j) c; rw [hE.1 _ (by omega)]⟩
        have hun := stp_un (G := gI I) (V := q.1) (w := (Q n).1) (c := c') (c' := (Q n).2.1) (r := r') (r' := (Q n).2.2) w1 hcc hrr
        have hps : putS I' 114 q.1 = I' := ps_of hV'
        obtain ⟨I2, hsc, hst⟩ := k_doStep (L := L) (xs := xs) (d := d) (I := I') (J := J) (R := R) (Z := Z) (s := 114) (V := q.1) (w := (Q n).1) (c := c') (r := r') w1 isS_114 (ag_okG hag hG) (okV_S (ag_okG hag hG) (ag_okV hag hokn)) hE.2.1 (fun z => by rw [← ag_M hag, hcc z]; exact w2 z) (fun z => by rw [← ag_N hag, hrr z]; exact w3 z)
        rw [hps, ← ag_stp w1 hag (fun z => by rw [hcc z]; exact w2 z), hun.1] at hst
        have hans := okV_stp w1 hokn hG hX w2 w3 (by omega)
        have hjS : jS (gI I) Q n q = ((stp (gI I) q.1 (Q n).1 (Q n).2.1 (Q n).2.2).2, if cnd (gI I) q.1 (Q n).1 (Q n).2.1 (Q n).2.2 = false ∧ q.2.1 = none then some n else q.2.1, if q.2.2 = none ∧ nI 0 < rIA (stp (gI I) q.1 (Q n).1 (Q n).2.1 (Q n).2.2).2 then some n else q.2.2) := rfl
        rw [hjS]
        generalize stp (gI I) q.1 (Q n).1 (Q n).2.1 (Q n).2.2 = sv at *
        have hI3 : ∀ j, j < 12 → putS I2 114 sv.2 (114 + j) = sv.2 j := fun j hj => ps_j hj
        have hria : lp (fun r a => a + putS I2 114 sv.2 (114 + 7) r) 5 (nI 0) = rIA sv.2 := by unfold rIA; rw [hI3 7 (by decide)]
        have hri := fun P => k_ranInAll (L := L) (xs := xs) (d := d + 5) (I := putS I2 114 sv.2) (J := J) (R := R) (Z := Z) (P := P) isS_114
        rw [hria] at hri
        refine ⟨putS I2 114 sv.2, some (.int (sv.1)), ⟨fun a ha => by rw [ps_ne (by omega), hsc.1 a (by omega) (by omega) (by omega)]; exact hE.1 a ha, fun k hk => by rw [ps_ne (by omega)]; exact hsc.2 k hk, cS_cg (V := sv.2) (fun j hj => (hI3 j hj).symm) (okV_cS hans.1)⟩, hI3, fun P => (hw P).trans (w137_30.trans ?_)⟩
        have hle : (rIA sv.2 ≤ nI 0) = (¬ nI 0 < rIA sv.2) := propext Int32.not_lt.symm
        have hb1 := oN_m1 hblt
        have hf1 := oN_m1 hflt
        rcases hans.2 with ⟨q1, q2⟩ | ⟨q1, q2⟩
        · have hv : sv.1 = -1 := by rw [q2]
          simp (discharger := omega) only [↓w137_0, ↓w137_1, ↓w137_4, ↓w137_5, ↓w137_6, ↓w137_9, ↓w137_11, ↓w137_12, ↓w137_13, ↓w137_16, ↓w137_17, ↓w137_20, ↓w137_23, ↓w137_24, ↓w137_25, ↓w137_26, ↓w137_27, ↓w137_28, ↓w137_32, ↓w137_33, ↓w137_36, ↓w137_39, ↓w137_42, ↓w137_43, ↓w137_46, ↓w137_47, ↓w137_50, ↓w137_51, ↓w137_54, ↓w137_57, ↓w137_59, ↓w137_60, ↓w137_61, ↓w137_64, ↓w137_67, ↓w137_69, ↓w137_70, ↓w137_71, ↓w137_74, ↓w137_77, ↓w137_79, ↓w137_80, ↓w137_83, ↓w137_85, ↓w137_87, ↓w137_88, ↓w137_91, ↓w137_92, ↓w137_93, ↓w137_96, ↓w137_98, ↓w137_99, ↓w137_100, ↓w137_101, ↓w137_104, ↓w137_105, ↓w137_108, ↓w137_111, ↓w137_114, ↓w137_116, ↓w137_117, ↓w137_120, ↓w137_123, ↓w137_124, ↓w137_125, ↓w137_128, ↓w137_129, ↓w137_132, ↓w137_135, ↓w137_136, ↓w137_137, ↓w137_140, ↓w137_141, ↓w137_144, ↓w137_145, rc64, g64_0, g64_1, g64_2, g64_3, g64_4, g64_5, g64_6, g64_7, g64_8, g64_9, g64_10, g64_11, g64_12, rc128, g128_0, g128_1, g128_2, p128_2, g128_3, p128_3, rc90, g90_0, p90_0, g90_1, g90_2, g90_3, gi91, si91, gi92, si92, gi93, si93, rc114, g114_0, p114_0, g114_1, p114_1, g114_2, g114_3, g114_4, g114_5, g114_6, g114_7, g114_8, g114_9, g114_10, g114_11, g114_12, hm, s1', s2', s3', ↓hst, ↓hri, ↓kc_i, ↓kc_l, ↓kc_r, ↓kc_n, hb1, hf1, hv, hle, q1, mul8, mul8', mul4, mul4', nI_add, inT, nclN, ltT, ltF, leT, leF, eqT, eqF, nzF, m1F, m1T, shr, shg, bI0, bI1, bo_bI, bo_1, bo_0, eq10, eq00, frT1, frT2, frT3, fit0, fit1, fit2, fit3, true_and, and_true, ↓reduceIte, Nat.reduceAdd, Nat.reduceMul, and_self, not_false_eq_true, not_true_eq_false, Nat.zero_add, Nat.add_zero]
          by_cases hb : q.2.1 = none <;> by_cases hf : q.2.2 = none <;> by_cases h0 : nI 0 < rIA sv.2 <;> simp [hb, hf, h0, oN]
        · have hv := isA_ne q2
          simp (discharger := omega) only [↓w137_0, ↓w137_1, ↓w137_4, ↓w137_5, ↓w137_6, ↓w137_9, ↓w137_11, ↓w137_12, ↓w137_13, ↓w137_16, ↓w137_17, ↓w137_20, ↓w137_23, ↓w137_24, ↓w137_25, ↓w137_26, ↓w137_27, ↓w137_28, ↓w137_32, ↓w137_33, ↓w137_36, ↓w137_39, ↓w137_42, ↓w137_43, ↓w137_46, ↓w137_47, ↓w137_50, ↓w137_51, ↓w137_54, ↓w137_57, ↓w137_59, ↓w137_60, ↓w137_61, ↓w137_64, ↓w137_67, ↓w137_69, ↓w137_70, ↓w137_71, ↓w137_74, ↓w137_77, ↓w137_79, ↓w137_80, ↓w137_83, ↓w137_85, ↓w137_87, ↓w137_88, ↓w137_91, ↓w137_92, ↓w137_93, ↓w137_96, ↓w137_98, ↓w137_99, ↓w137_100, ↓w137_101, ↓w137_104, ↓w137_105, ↓w137_108, ↓w137_111, ↓w137_114, ↓w137_116, ↓w137_117, ↓w137_120, ↓w137_123, ↓w137_124, ↓w137_125, ↓w137_128, ↓w137_129, ↓w137_132, ↓w137_135, ↓w137_136, ↓w137_137, ↓w137_140, ↓w137_141, ↓w137_144, ↓w137_145, rc64, g64_0, g64_1, g64_2, g64_3, g64_4, g64_5, g64_6, g64_7, g64_8, g64_9, g64_10, g64_11, g64_12, rc128, g128_0, g128_1, g128_2, p128_2, g128_3, p128_3, rc90, g90_0, p90_0, g90_1, g90_2, g90_3, gi91, si91, gi92, si92, gi93, si93, rc114, g114_0, p114_0, g114_1, p114_1, g114_2, g114_3, g114_4, g114_5, g114_6, g114_7, g114_8, g114_9, g114_10, g114_11, g114_12, hm, s1', s2', s3', ↓hst, ↓hri, ↓kc_i, ↓kc_l, ↓kc_r, ↓kc_n, hv, hf1, hle, q1, mul8, mul8', mul4, mul4', nI_add, inT, nclN, ltT, ltF, leT, leF, eqT, eqF, nzF, m1F, m1T, shr, shg, bI0, bI1, bo_bI, bo_1, bo_0, eq10, eq00, frT1, frT2, frT3, fit0, fit1, fit2, fit3, true_and, and_true, ↓reduceIte, Nat.reduceAdd, Nat.reduceMul, and_self, not_false_eq_true, not_true_eq_false, Nat.zero_add, Nat.add_zero]
          by_cases hf : q.2.2 = none <;> by_cases h0 : nI 0 < rIA sv.2 <;> simp [hf, h0, oN]
    obtain ⟨I', t, hE, hV', hw⟩ := key m (Nat.le_refl m)
    have hm : I' 90 0 = nI m := by rw [hE.1 90 (by omega)]; exact hC.1
    obtain ⟨j, hj, rfl⟩ := isR_t hy (by omega)
    refine ⟨I', hE, fun P => ?_⟩
    have hria : lp (fun r a => a + I' (114 + 7) r) 5 (nI 0) = rIA (jA (gI I) Q (frs (gN (gI I)) (I 80)) m).1 := by unfold rIA; rw [hV' 7 (by decide)]
    have hri := fun P => k_ranInAll (L := L) (xs := xs) (d := d + 5) (I := I') (J := J) (R := R) (Z := Z) (P := P) isS_114
    rw [hria] at hri
    show _ = P (some (.int ((fun q : Jq => if nI j = nI 2 then rIA q.1 else if nI j = nI 0 then oN q.2.1 else oN q.2.2) (jA (gI I) Q (frs (gN (gI I)) (I 80)) m)))) (mk I' J R Z)
    have hj' : j = 0 ∨ j = 1 ∨ j = 2 := by omega
    rcases hj' with rfl | rfl | rfl
    · simp (discharger := omega) only [↓w137_0, ↓w137_1, ↓w137_4, ↓w137_5, ↓w137_6, ↓w137_9, ↓w137_11, ↓w137_12, ↓w137_13, ↓w137_16, ↓w137_17, ↓w137_20, ↓w137_23, ↓w137_24, ↓w137_25, ↓w137_26, ↓w137_27, ↓w137_28, ↓w137_32, ↓w137_33, ↓w137_36, ↓w137_39, ↓w137_42, ↓w137_43, ↓w137_46, ↓w137_47, ↓w137_50, ↓w137_51, ↓w137_54, ↓w137_57, ↓w137_59, ↓w137_60, ↓w137_61, ↓w137_64, ↓w137_67, ↓w137_69, ↓w137_70, ↓w137_71, ↓w137_74, ↓w137_77, ↓w137_79, ↓w137_80, ↓w137_83, ↓w137_85, ↓w137_87, ↓w137_88, ↓w137_91, ↓w137_92, ↓w137_93, ↓w137_96, ↓w137_98, ↓w137_99, ↓w137_100, ↓w137_101, ↓w137_104, ↓w137_105, ↓w137_108, ↓w137_111, ↓w137_114, ↓w137_116, ↓w137_117, ↓w137_120, ↓w137_123, ↓w137_124, ↓w137_125, ↓w137_128, ↓w137_129, ↓w137_132, ↓w137_135, ↓w137_136, ↓w137_137, ↓w137_140, ↓w137_141, ↓w137_144, ↓w137_145, ↓hsa, ↓kc_i, ↓kc_l, ↓kc_r, ↓kc_n, rc64, g64_0, g64_1, g64_2, g64_3, g64_4, g64_5, g64_6, g64_7, g64_8, g64_9, g64_10, g64_11, g64_12, rc76, g76_0, p76_0, g76_1, p76_1, g76_2, p76_2, g76_3, g76_4, g76_5, g76_6, g76_7, g76_8, rc114, g114_0, p114_0, g114_1, p114_1, g114_2, g114_3, g114_4, g114_5, g114_6, g114_7, g114_8, g114_9, g114_10, g114_11, g114_12, mul8, mul8', mul4, mul4', nI_add, inT, nclN, ltT, ltF, leT, leF, eqT, eqF, nzF, m1F, m1T, shr, shg, bI0, bI1, bo_bI, bo_1, bo_0, eq10, eq00, frT1, frT2, frT3, fit0, fit1, fit2, fit3, true_and, and_true, ↓reduceIte, Nat.reduceAdd, Nat.reduceMul, and_self, not_false_eq_true, not_true_eq_false, Nat.zero_add, Nat.add_zero]
      rw [hw]
      refine w137_30.trans ?_
      simp (discharger := omega) only [↓w137_0, ↓w137_1, ↓w137_4, ↓w137_5, ↓w137_6, ↓w137_9, ↓w137_11, ↓w137_12, ↓w137_13, ↓w137_16, ↓w137_17, ↓w137_20, ↓w137_23, ↓w137_24, ↓w137_25, ↓w137_26, ↓w137_27, ↓w137_28, ↓w137_32, ↓w137_33, ↓w137_36, ↓w137_39, ↓w137_42, ↓w137_43, ↓w137_46, ↓w137_47, ↓w137_50, ↓w137_51, ↓w137_54, ↓w137_57, ↓w137_59, ↓w137_60, ↓w137_61, ↓w137_64, ↓w137_67, ↓w137_69, ↓w137_70, ↓w137_71, ↓w137_74, ↓w137_77, ↓w137_79, ↓w137_80, ↓w137_83, ↓w137_85, ↓w137_87, ↓w137_88, ↓w137_91, ↓w137_92, ↓w137_93, ↓w137_96, ↓w137_98, ↓w137_99, ↓w137_100, ↓w137_101, ↓w137_104, ↓w137_105, ↓w137_108, ↓w137_111, ↓w137_114, ↓w137_116, ↓w137_117, ↓w137_120, ↓w137_123, ↓w137_124, ↓w137_125, ↓w137_128, ↓w137_129, ↓w137_132, ↓w137_135, ↓w137_136, ↓w137_137, ↓w137_140, ↓w137_141, ↓w137_144, ↓w137_145, rc64, g64_0, g64_1, g64_2, g64_3, g64_4, g64_5, g64_6, g64_7, g64_8, g64_9, g64_10, g64_11, g64_12, rc90, g90_0, p90_0, g90_1, g90_2, g90_3, hm, mul8, mul8', mul4, mul4', nI_add, inT, nclN, ltT, ltF, leT, leF, eqT, eqF, nzF, m1F, m1T, shr, shg, bI0, bI1, bo_bI, bo_1, bo_0, eq10, eq00, frT1, frT2, frT3, fit0, fit1, fit2, fit3, true_and, and_true, ↓reduceIte, Nat.reduceAdd, Nat.reduceMul, and_self, not_false_eq_true, not_true_eq_false, Nat.zero_add, Nat.add_zero]
    · simp (discharger := omega) only [↓w137_0, ↓w137_1, ↓w137_4, ↓w137_5, ↓w137_6, ↓w137_9, ↓w137_11, ↓w137_12, ↓w137_13, ↓w137_16, ↓w137_17, ↓w137_20, ↓w137_23, ↓w137_24, ↓w137_25, ↓w137_26, ↓w137_27, ↓w137_28, ↓w137_32, ↓w137_33, ↓w137_36, ↓w137_39, ↓w137_42, ↓w137_43, ↓w137_46, ↓w137_47, ↓w137_50, ↓w137_51, ↓w137_54, ↓w137_57, ↓w137_59, ↓w137_60, ↓w137_61, ↓w137_64, ↓w137_67, ↓w137_69, ↓w137_70, ↓w137_71, ↓w137_74, ↓w137_77, ↓w137_79, ↓w137_80, ↓w137_83, ↓w137_85, ↓w137_87, ↓w137_88, ↓w137_91, ↓w137_92, ↓w137_93, ↓w137_96, ↓w137_98, ↓w137_99, ↓w137_100, ↓w137_101, ↓w137_104, ↓w137_105, ↓w137_108, ↓w137_111, ↓w137_114, ↓w137_116, ↓w137_117, ↓w137_120, ↓w137_123, ↓w137_124, ↓w137_125, ↓w137_128, ↓w137_129, ↓w137_132, ↓w137_135, ↓w137_136, ↓w137_137, ↓w137_140, ↓w137_141, ↓w137_144, ↓w137_145, ↓hsa, ↓kc_i, ↓kc_l, ↓kc_r, ↓kc_n, rc64, g64_0, g64_1, g64_2, g64_3, g64_4, g64_5, g64_6, g64_7, g64_8, g64_9, g64_10, g64_11, g64_12, rc76, g76_0, p76_0, g76_1, p76_1, g76_2, p76_2, g76_3, g76_4, g76_5, g76_6, g76_7, g76_8, rc114, g114_0, p114_0, g114_1, p114_1, g114_2, g114_3, g114_4, g114_5, g114_6, g114_7, g114_8, g114_9, g114_10, g114_11, g114_12, mul8, mul8', mul4, mul4', nI_add, inT, nclN, ltT, ltF, leT, leF, eqT, eqF, nzF, m1F, m1T, shr, shg, bI0, bI1, bo_bI, bo_1, bo_0, eq10, eq00, frT1, frT2, frT3, fit0, fit1, fit2, fit3, true_and, and_true, ↓reduceIte, Nat.reduceAdd, Nat.reduceMul, and_self, not_false_eq_true, not_true_eq_false, Nat.zero_add, Nat.add_zero]
      rw [hw]
      refine w137_30.trans ?_
      simp (discharger := omega) only [↓w137_0, ↓w137_1, ↓w137_4, ↓w137_5, ↓w137_6, ↓w137_9, ↓w137_11, ↓w137_12, ↓w137_13, ↓w137_16, ↓w137_17, ↓w137_20, ↓w137_23, ↓w137_24, ↓w137_25, ↓w137_26, ↓w137_27, ↓w137_28, ↓w137_32, ↓w137_33, ↓w137_36, ↓w137_39, ↓w137_42, ↓w137_43, ↓w137_46, ↓w137_47, ↓w137_50, ↓w137_51, ↓w137_54, ↓w137_57, ↓w137_59, ↓w137_60, ↓w137_61, ↓w137_64, ↓w137_67, ↓w137_69, ↓w137_70, ↓w137_71, ↓w137_74, ↓w137_77, ↓w137_79, ↓w137_80, ↓w137_83, ↓w137_85, ↓w137_87, ↓w137_88, ↓w137_91, ↓w137_92, ↓w137_93, ↓w137_96, ↓w137_98, ↓w137_99, ↓w137_100, ↓w137_101, ↓w137_104, ↓w137_105, ↓w137_108, ↓w137_111, ↓w137_114, ↓w137_116, ↓w137_117, ↓w137_120, ↓w137_123, ↓w137_124, ↓w137_125, ↓w137_128, ↓w137_129, ↓w137_132, ↓w137_135, ↓w137_136, ↓w137_137, ↓w137_140, ↓w137_141, ↓w137_144, ↓w137_145, rc64, g64_0, g64_1, g64_2, g64_3, g64_4, g64_5, g64_6, g64_7, g64_8, g64_9, g64_10, g64_11, g64_12, rc90, g90_0, p90_0, g90_1, g90_2, g90_3, hm, mul8, mul8', mul4, mul4', nI_add, inT, nclN, ltT, ltF, leT, leF, eqT, eqF, nzF, m1F, m1T, shr, shg, bI0, bI1, bo_bI, bo_1, bo_0, eq10, eq00, frT1, frT2, frT3, fit0, fit1, fit2, fit3, true_and, and_true, ↓reduceIte, Nat.reduceAdd, Nat.reduceMul, and_self, not_false_eq_true, not_true_eq_false, Nat.zero_add, Nat.add_zero]
    · simp (discharger := omega) only [↓w137_0, ↓w137_1, ↓w137_4, ↓w137_5, ↓w137_6, ↓w137_9, ↓w137_11, ↓w137_12, ↓w137_13, ↓w137_16, ↓w137_17, ↓w137_20, ↓w137_23, ↓w137_24, ↓w137_25, ↓w137_26, ↓w137_27, ↓w137_28, ↓w137_32, ↓w137_33, ↓w137_36, ↓w137_39, ↓w137_42, ↓w137_43, ↓w137_46, ↓w137_47, ↓w137_50, ↓w137_51, ↓w137_54, ↓w137_57, ↓w137_59, ↓w137_60, ↓w137_61, ↓w137_64, ↓w137_67, ↓w137_69, ↓w137_70, ↓w137_71, ↓w137_74, ↓w137_77, ↓w137_79, ↓w137_80, ↓w137_83, ↓w137_85, ↓w137_87, ↓w137_88, ↓w137_91, ↓w137_92, ↓w137_93, ↓w137_96, ↓w137_98, ↓w137_99, ↓w137_100, ↓w137_101, ↓w137_104, ↓w137_105, ↓w137_108, ↓w137_111, ↓w137_114, ↓w137_116, ↓w137_117, ↓w137_120, ↓w137_123, ↓w137_124, ↓w137_125, ↓w137_128, ↓w137_129, ↓w137_132, ↓w137_135, ↓w137_136, ↓w137_137, ↓w137_140, ↓w137_141, ↓w137_144, ↓w137_145, ↓hsa, ↓kc_i, ↓kc_l, ↓kc_r, ↓kc_n, rc64, g64_0, g64_1, g64_2, g64_3, g64_4, g64_5, g64_6, g64_7, g64_8, g64_9, g64_10, g64_11, g64_12, rc76, g76_0, p76_0, g76_1, p76_1, g76_2, p76_2, g76_3, g76_4, g76_5, g76_6, g76_7, g76_8, rc114, g114_0, p114_0, g114_1, p114_1, g114_2, g114_3, g114_4, g114_5, g114_6, g114_7, g114_8, g114_9, g114_10, g114_11, g114_12, mul8, mul8', mul4, mul4', nI_add, inT, nclN, ltT, ltF, leT, leF, eqT, eqF, nzF, m1F, m1T, shr, shg, bI0, bI1, bo_bI, bo_1, bo_0, eq10, eq00, frT1, frT2, frT3, fit0, fit1, fit2, fit3, true_and, and_true, ↓reduceIte, Nat.reduceAdd, Nat.reduceMul, and_self, not_false_eq_true, not_true_eq_false, Nat.zero_add, Nat.add_zero]
      rw [hw]
      refine w137_30.trans ?_
      simp (discharger := omega) only [↓w137_0, ↓w137_1, ↓w137_4, ↓w137_5, ↓w137_6, ↓w137_9, ↓w137_11, ↓w137_12, ↓w137_13, ↓w137_16, ↓w137_17, ↓w137_20, ↓w137_23, ↓w137_24, ↓w137_25, ↓w137_26, ↓w137_27, ↓w137_28, ↓w137_32, ↓w137_33, ↓w137_36, ↓w137_39, ↓w137_42, ↓w137_43, ↓w137_46, ↓w137_47, ↓w137_50, ↓w137_51, ↓w137_54, ↓w137_57, ↓w137_59, ↓w137_60, ↓w137_61, ↓w137_64, ↓w137_67, ↓w137_69, ↓w137_70, ↓w137_71, ↓w137_74, ↓w137_77, ↓w137_79, ↓w137_80, ↓w137_83, ↓w137_85, ↓w137_87, ↓w137_88, ↓w137_91, ↓w137_92, ↓w137_93, ↓w137_96, ↓w137_98, ↓w137_99, ↓w137_100, ↓w137_101, ↓w137_104, ↓w137_105, ↓w137_108, ↓w137_111, ↓w137_114, ↓w137_116, ↓w137_117, ↓w137_120, ↓w137_123, ↓w137_124, ↓w137_125, ↓w137_128, ↓w137_129, ↓w137_132, ↓w137_135, ↓w137_136, ↓w137_137, ↓w137_140, ↓w137_141, ↓w137_144, ↓w137_145, ↓hri, ↓kc_i, ↓kc_l, ↓kc_r, ↓kc_n, rc64, g64_0, g64_1, g64_2, g64_3, g64_4, g64_5, g64_6, g64_7, g64_8, g64_9, g64_10, g64_11, g64_12, rc90, g90_0, p90_0, g90_1, g90_2, g90_3, rc114, g114_0, p114_0, g114_1, p114_1, g114_2, g114_3, g114_4, g114_5, g114_6, g114_7, g114_8, g114_9, g114_10, g114_11, g114_12, hm, mul8, mul8', mul4, mul4', nI_add, inT, nclN, ltT, ltF, leT, leF, eqT, eqF, nzF, m1F, m1T, shr, shg, bI0, bI1, bo_bI, bo_1, bo_0, eq10, eq00, frT1, frT2, frT3, fit0, fit1, fit2, fit3, true_and, and_true, ↓reduceIte, Nat.reduceAdd, Nat.reduceMul, and_self, not_false_eq_true, not_true_eq_false, Nat.zero_add, Nat.add_zero]
  · rw [if_neg hy]
    refine ⟨I, trE_r hl ht, fun P => ?_⟩
    unfold isR at hy
    simp (discharger := omega) only [↓w137_0, ↓w137_1, ↓w137_4, ↓w137_5, ↓w137_6, ↓w137_9, ↓w137_11, ↓w137_12, ↓w137_13, ↓w137_16, ↓w137_17, ↓w137_20, ↓w137_23, ↓w137_24, ↓w137_25, ↓w137_26, ↓w137_27, ↓w137_28, ↓w137_32, ↓w137_33, ↓w137_36, ↓w137_39, ↓w137_42, ↓w137_43, ↓w137_46, ↓w137_47, ↓w137_50, ↓w137_51, ↓w137_54, ↓w137_57, ↓w137_59, ↓w137_60, ↓w137_61, ↓w137_64, ↓w137_67, ↓w137_69, ↓w137_70, ↓w137_71, ↓w137_74, ↓w137_77, ↓w137_79, ↓w137_80, ↓w137_83, ↓w137_85, ↓w137_87, ↓w137_88, ↓w137_91, ↓w137_92, ↓w137_93, ↓w137_96, ↓w137_98, ↓w137_99, ↓w137_100, ↓w137_101, ↓w137_104, ↓w137_105, ↓w137_108, ↓w137_111, ↓w137_114, ↓w137_116, ↓w137_117, ↓w137_120, ↓w137_123, ↓w137_124, ↓w137_125, ↓w137_128, ↓w137_129, ↓w137_132, ↓w137_135, ↓w137_136, ↓w137_137, ↓w137_140, ↓w137_141, ↓w137_144, ↓w137_145, mul8, mul8', mul4, mul4', nI_add, inT, nclN, ltT, ltF, leT, leF, eqT, eqF, nzF, m1F, m1T, shr, shg, bI0, bI1, bo_bI, bo_1, bo_0, eq10, eq00, frT1, frT2, frT3, fit0, fit1, fit2, fit3, true_and, and_true, ↓reduceIte, Nat.reduceAdd, Nat.reduceMul, and_self, not_false_eq_true, not_true_eq_false, Nat.zero_add, Nat.add_zero]
    by_cases h1 : y < nI 0
    · simp [h1]
    · by_cases h2 : y ≤ nI 2
      · exfalso; apply hy
        have h3 : y < nI 3 := Int32.lt_of_le_of_lt h2 (by decide)
        simp [Int32.not_lt.mp h1, h3]
      · simp [h1, h2]
end F1
