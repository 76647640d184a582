/-! DRIVES: draws, and steps by them -/
def nd (n : Nat) : Nat := (n * 1103515245 + 12345) % 2147483648
abbrev Dq : Type := Vw × Nat × Nat
def dW (V : Vw) (w r : Nat) : Nat := if w = 8 ∧ tb (V 0 0) r = false then 9 else w
def dw (g : Nat) : Nat := nd g / 65536 % 9
def dc (G : Gv) (g : Nat) : Nat := nd (nd g) / 65536 % gM G
def dr (G : Gv) (g : Nat) : Nat := nd (nd (nd g)) / 65536 % gN G
def dS (G : Gv) (q : Dq) : Dq := ((stp G q.1 (dW q.1 (dw q.2.1) (dr G q.2.1)) (dc G q.2.1) (dr G q.2.1)).2, nd (nd (nd q.2.1)), if cnd G q.1 (dW q.1 (dw q.2.1) (dr G q.2.1)) (dc G q.2.1) (dr G q.2.1) = true then q.2.2 + 1 else q.2.2)
section F3
variable {L : Nat} {xs : Nat → Int32} {d : Nat} {P : Option Value → Hp → Prop} {I : Mi} {J : Mj} {R : Mr} {Z : Mz} {r c r' c' k l N M o n m B a b t w nx mn s sd : Nat} {x y z : Int32} {V V' V0 W0 W : Vw} {f f1 f4 g : Nat → Int32} {G G' : Gv} {U : Uq} {Q : Wq} {h : Hp}
theorem nd_lt : nd n < 2147483648 := Nat.mod_lt _ (by decide)
theorem lnz (h : 0 < n) (hn : n < 9223372036854775808) : ¬ lN n = 0 := fun z => by
  have := (pk_lEQ (a := n) (b := 0) hn (by decide)).mp z
  omega
theorem k_nextDraw (hn : n < 2147483648) : Wp L xs d 169 0 [some (.long (lN n)), none] [] h P = P (some (.long (lN (nd n)))) h := by
  have e1 : lN n * lN 1103515245 = lN (n * 1103515245) := lN_mul _ _
  have e2 : lN (n * 1103515245) + lN 12345 = lN (n * 1103515245 + 12345) := lN_add _ _
  have e3 : lN (n * 1103515245 + 12345) - lN (n * 1103515245 + 12345) / lN 2147483648 * lN 2147483648 = lN (nd n) := pk_lRem (by omega) (by decide) (by decide)
  have e4 : ¬ lN 2147483648 = 0 := lnz (by decide) (by decide)
  simp only [↓w169_0, ↓w169_1, ↓w169_4, ↓w169_5, ↓w169_8, ↓w169_9, ↓w169_12, ↓w169_13, e1, e2, e3, e4, not_false_eq_true, true_and]
theorem dwP (hn : n < 2147483648) (h0 : 0 < k) (hk : k < 2147483648) : lN n / lN 65536 - lN n / lN 65536 / lN k * lN k = lN (n / 65536 % k) := by
  rw [pk_lDiv (by omega) (by decide) (by decide)]
  exact pk_lRem (by omega) h0 (by omega)
theorem dW_lt (hw : w < 9) : dW V w r < 11 := by unfold dW; split <;> omega
theorem dw_lt : dw n < 9 := by unfold dw; exact Nat.mod_lt _ (by decide)
theorem dc_lt (h : 0 < gM G) : dc G n < gM G := by unfold dc; exact Nat.mod_lt _ h
theorem dr_lt (h : 0 < gN G) : dr G n < gN G := by unfold dr; exact Nat.mod_lt _ h
def dL (G : Gv) (V : Vw) (s : Nat) : Nat → Dq
  | 0 => (V, s, 0)
  | n + 1 => dS G (dL G V s n)
theorem dL_s : dL G V s (n + 1) = dS G (dL G V s n) := rfl
theorem mk_1 {α β γ : Type} (a : α) (b : β) (c : γ) : (a, b, c).1 = a := rfl
theorem mk_2 {α β γ : Type} (a : α) (b : β) (c : γ) : (a, b, c).2.1 = b := rfl
theorem mk_3 {α β γ : Type} (a : α) (b : β) (c : γ) : (a, b, c).2.2 = c := rfl
theorem dS_1 {q : Dq} : (dS G q).1 = (stp G q.1 (dW q.1 (dw q.2.1) (dr G q.2.1)) (dc G q.2.1) (dr G q.2.1)).2 := by unfold dS; exact mk_1 _ _ _
theorem dS_2 {q : Dq} : (dS G q).2.1 = nd (nd (nd q.2.1)) := by unfold dS; exact mk_2 _ _ _
theorem dS_3 {q : Dq} : (dS G q).2.2 = if cnd G q.1 (dW q.1 (dw q.2.1) (dr G q.2.1)) (dc G q.2.1) (dr G q.2.1) = true then q.2.2 + 1 else q.2.2 := by unfold dS; exact mk_3 _ _ _
theorem dA_ok (hG : okG G) (hX : okX G) (hV : okV B G V) (hB : B + 200 < 2147483648) (hN : 0 < gN G) (hM : 0 < gM G) (n : Nat) (hn : n ≤ 99) : okV (B + n) G (dL G V s n).1 := by
  induction n with
  | zero => exact hV
  | succ n ih =>
    have ih := ih (by omega)
    rw [dL_s, dS_1]
    generalize dL G V s n = q at *
    have := (okV_stp (dW_lt (V := q.1) (r := dr G q.2.1) (dw_lt (n := q.2.1))) ih hG hX (c := dc G q.2.1) (r := dr G q.2.1) (fun _ => dc_lt hM) (fun _ => dr_lt hN) (by omega)).1
    exact this
theorem dA_g (hs : s < 2147483648) (n : Nat) : (dL G V s n).2.1 < 2147483648 := by
  cases n with
  | zero => exact hs
  | succ n => rw [dL_s, dS_2]; exact nd_lt
theorem dA_c (n : Nat) : (dL G V s n).2.2 ≤ n := by
  induction n with
  | zero => exact Nat.le_refl 0
  | succ n ih =>
    rw [dL_s, dS_3]
    split <;> omega
def dA (G : Gv) (V : Vw) (s n : Nat) : Dq := if gN G = 0 ∨ gM G = 0 then (V, s, 0) else dL G V s n
theorem k_driveTrial (hG : okG (gI I)) (hX : okX (gI I)) (hV : okV B (gI I) V) (hT : ∀ j, j < 12 → I (114 + j) = V j) (hB : B + 200 < 2147483648) (hl : can 8 (I 127)) (hsd : sd < 2147483648) (hmn : mn ≤ 99) : ∃ I', trE I I' ∧ (∀ j, j < 12 → I' (114 + j) = (dA (gI I) V sd mn).1 j) ∧ ∀ P, Wp L xs (d+6) 167 0 [some (.ref (64)), some (.int (nI sd)), some (.int (nI mn)), none, none, none, none, none, none, none] [] (mk I J R Z) P = P (some (.int (nI (dA (gI I) V sd mn).2.2))) (mk I' J R Z) := by
  have hN : I 76 0 = nI (gN (gI I)) := hG.1.1
  have hM : I 76 2 = nI (gM (gI I)) := hG.2.1.1
  have h5 := hG.1.2
  have h8 := hG.2.1.2
  have hct : cS (vw I 114) := cS_cg (V := V) (fun j hj => (hT j hj).symm) (okV_cS hV)
  unfold dA
  by_cases h0 : gN (gI I) = 0 ∨ gM (gI I) = 0
  · rw [if_pos h0]
    refine ⟨I, trE_r hl hct, hT, fun P => ?_⟩
    by_cases hn0 : gN (gI I) = 0
    · simp (discharger := omega) only [↓w167_0, ↓w167_1, ↓w167_4, ↓w167_7, ↓w167_10, ↓w167_11, ↓w167_14, ↓w167_17, ↓w167_20, ↓w167_21, ↓w167_22, ↓w167_23, ↓w167_24, ↓w167_25, ↓w167_26, ↓w167_28, ↓w167_29, ↓w167_33, ↓w167_34, ↓w167_37, ↓w167_39, ↓w167_42, ↓w167_44, ↓w167_46, ↓w167_49, ↓w167_50, ↓w167_53, ↓w167_54, ↓w167_55, ↓w167_57, ↓w167_59, ↓w167_62, ↓w167_64, ↓w167_66, ↓w167_69, ↓w167_70, ↓w167_71, ↓w167_74, ↓w167_77, ↓w167_78, ↓w167_79, ↓w167_80, ↓w167_82, ↓w167_84, ↓w167_87, ↓w167_89, ↓w167_91, ↓w167_94, ↓w167_95, ↓w167_96, ↓w167_99, ↓w167_102, ↓w167_103, ↓w167_104, ↓w167_105, ↓w167_107, ↓w167_109, ↓w167_111, ↓w167_114, ↓w167_115, ↓w167_118, ↓w167_120, ↓w167_123, ↓w167_126, ↓w167_128, ↓w167_130, ↓w167_131, ↓w167_134, ↓w167_135, ↓w167_138, ↓w167_140, ↓w167_142, ↓w167_144, ↓w167_147, ↓w167_148, ↓w167_151, ↓w167_154, ↓w167_157, ↓w167_160, ↓w167_161, rc64, g64_0, g64_1, g64_2, g64_3, g64_4, g64_5, g64_6, g64_7, g64_8, g64_9, g64_10, g64_11, g64_12, rc76, g76_0, p76_0, g76_1, p76_1, g76_2, p76_2, g76_3, g76_4, g76_5, g76_6, g76_7, g76_8, hN, hn0, mul8, mul8', mul4, mul4', nI_add, inT, nclN, ltT, ltF, leT, leF, eqT, eqF, nzF, m1F, m1T, shr, shg, bI0, bI1, bo_bI, bo_1, bo_0, eq10, eq00, frT1, frT2, frT3, fit0, fit1, fit2, fit3, true_and, and_true, ↓reduceIte, Nat.reduceAdd, Nat.reduceMul, and_self, not_false_eq_true, not_true_eq_false, Nat.zero_add, Nat.add_zero]
    · have hm0 : gM (gI I) = 0 := by omega
      simp (discharger := omega) only [↓w167_0, ↓w167_1, ↓w167_4, ↓w167_7, ↓w167_10, ↓w167_11, ↓w167_14, ↓w167_17, ↓w167_20, ↓w167_21, ↓w167_22, ↓w167_23, ↓w167_24, ↓w167_25, ↓w167_26, ↓w167_28, ↓w167_29, ↓w167_33, ↓w167_34, ↓w167_37, ↓w167_39, ↓w167_42, ↓w167_44, ↓w167_46, ↓w167_49, ↓w167_50, ↓w167_53, ↓w167_54, ↓w167_55, ↓w167_57, ↓w167_59, ↓w167_62, ↓w167_64, ↓w167_66, ↓w167_69, ↓w167_70, ↓w167_71, ↓w167_74, ↓w167_77, ↓w167_78, ↓w167_79, ↓w167_80, ↓w167_82, ↓w167_84, ↓w167_87, ↓w167_89, ↓w167_91, ↓w167_94, ↓w167_95, ↓w167_96, ↓w167_99, ↓w167_102, ↓w167_103, ↓w167_104, ↓w167_105, ↓w167_107, ↓w167_109, ↓w167_111, ↓w167_114, ↓w167_115, ↓w167_118, ↓w167_120, ↓w167_123, ↓w167_126, ↓w167_128, ↓w167_130, ↓w167_131, ↓w167_134, ↓w167_135, ↓w167_138, ↓w167_140, ↓w167_142, ↓w167_144, ↓w167_147, ↓w167_148, ↓w167_151, ↓w167_154, ↓w167_157, ↓w167_160, ↓w167_161, rc64, g64_0, g64_1, g64_2, g64_3, g64_4, g64_5, g64_6, g64_7, g64_8, g64_9, g64_10, g64_11, g64_12, rc76, g76_0, p76_0, g76_1, p76_1, g76_2, p76_2, g76_3, g76_4, g76_5, g76_6, g76_7, g76_8, hN, hM, hm0, mul8, mul8', mul4, mul4', nI_add, inT, nclN, ltT, ltF, leT, leF, eqT, eqF, nzF, m1F, m1T, shr, shg, bI0, bI1, bo_bI, bo_1, bo_0, eq10, eq00, frT1, frT2, frT3, fit0, fit1, fit2, fit3, true_and, and_true, ↓reduceIte, Nat.reduceAdd, Nat.reduceMul, and_self, not_false_eq_true, not_true_eq_false, Nat.zero_add, Nat.add_zero]
  · rw [if_neg h0]
    have hN0 : 0 < gN (gI I) := by omega
    have hM0 : 0 < gM (gI I) := by omega
    have key : ∀ n, n ≤ mn → ∃ (I' : Mi) (t : Option Value × Option Value × Option Value), trE I I' ∧ (∀ j, j < 12 → I' (114 + j) = (dL (gI I) V sd n).1 j) ∧ ∀ P, Wp L xs (d+6) 167 31 [some (.ref (64)), some (.int (nI sd)), some (.int (nI mn)), some (.int (nI 0)), some (.long (lN sd)), none, some (.int (nI 0)), none, none, none] [] (mk I J R Z) P = Wp L xs (d+6) 167 31 [some (.ref (64)), some (.int (nI sd)), some (.int (nI mn)), some (.int (nI (dL (gI I) V sd n).2.2)), some (.long (lN (dL (gI I) V sd n).2.1)), none, some (.int (nI n)), t.1, t.2.1, t.2.2] [] (mk I' J R Z) P := by
      intro n
      induction n with
      | zero => intro _; exact ⟨I, ((none : Option Value), (none : Option Value), (none : Option Value)), trE_r hl hct, hT, fun P => rfl⟩
      | succ n ih =>
        intro hn
        obtain ⟨I', t, hE, hV', hw⟩ := ih (by omega)
        have hokn := dA_ok (s := sd) hG hX hV hB hN0 hM0 n (by omega)
        have hg := dA_g (G := gI I) (V := V) hsd n
        rw [dL_s]
        generalize dL (gI I) V sd n = q at *
        simp only [dS_1, dS_2, dS_3]
        have hps : putS I' 114 q.1 = I' := ps_of hV'
        have hag : agG (gI I) (gI I') := ⟨fun k _ => by show I (76 + 0) k = I' (76 + 0) k; rw [hE.1 _ (by omega)], fun j c h1 h2 _ => by show I (76 + j) c = I' (76 + j) c; rw [hE.1 _ (by omega)]⟩
        have hN' : I' 76 0 = nI (gN (gI I)) := by rw [hE.1 76 (by omega)]; exact hN
        have hM' : I' 76 2 = nI (gM (gI I)) := by rw [hE.1 76 (by omega)]; exact hM
        have hc8 : dc (gI I) q.2.1 < gM (gI I) := dc_lt hM0
        have hr5 : dr (gI I) q.2.1 < gN (gI I) := dr_lt hN0
        have hw9 : dw q.2.1 < 9 := dw_lt
        have hwl : dW q.1 (dw q.2.1) (dr (gI I) q.2.1) < 11 := dW_lt hw9
        obtain ⟨I2, hsc, hst⟩ := k_doStep (L := L) (xs := xs) (d := d) (I := I') (J := J) (R := R) (Z := Z) (s := 114) (V := q.1) (w := dW q.1 (dw q.2.1) (dr (gI I) q.2.1)) (c := dc (gI I) q.2.1) (r := dr (gI I) q.2.1) hwl isS_114 (ag_okG hag hG) (okV_S (ag_okG hag hG) (ag_okV hag hokn)) hE.2.1 (fun _ => by rw [← ag_M hag]; exact hc8) (fun _ => by rw [← ag_N hag]; exact hr5)
        rw [hps, ← ag_stp hwl hag (fun _ => hc8)] at hst
        have hans := okV_stp hwl hokn hG hX (fun _ => hc8) (fun _ => hr5) (by omega)
        have hup := fun P => k_isUp (L := L) (xs := xs) (d := d + 5) (I := I') (J := J) (R := R) (Z := Z) (P := P) (s := 114) (r := dr (gI I) q.2.1) isS_114 (by omega)
        have hu0 : I' 114 0 = q.1 0 0 := by rw [show I' 114 = q.1 0 from hV' 0 (by decide)]
        rw [hu0] at hup
        have d1 := fun P => k_nextDraw (L := L) (xs := xs) (d := d + 5) (h := mk I' J R Z) (P := P) hg
        have d2 := fun P => k_nextDraw (L := L) (xs := xs) (d := d + 5) (h := mk I' J R Z) (P := P) (n := nd q.2.1) nd_lt
        have d3 := fun P => k_nextDraw (L := L) (xs := xs) (d := d + 5) (h := mk I' J R Z) (P := P) (n := nd (nd q.2.1)) nd_lt
        have v1 : lN (nd q.2.1) / lN 65536 - lN (nd q.2.1) / lN 65536 / lN 9 * lN 9 = lN (dw q.2.1) := dwP nd_lt (by decide) (by decide)
        have v2 : lN (nd (nd q.2.1)) / lN 65536 - lN (nd (nd q.2.1)) / lN 65536 / lN (gM (gI I)) * lN (gM (gI I)) = lN (dc (gI I) q.2.1) := dwP nd_lt hM0 (by omega)
        have v3 : lN (nd (nd (nd q.2.1))) / lN 65536 - lN (nd (nd (nd q.2.1))) / lN 65536 / lN (gN (gI I)) * lN (gN (gI I)) = lN (dr (gI I) q.2.1) := dwP nd_lt hN0 (by omega)
        have z1 : ¬ lN 65536 = 0 := lnz (by decide) (by decide)
        have z2 : ¬ lN 9 = 0 := lnz (by decide) (by decide)
        have z3 : ¬ lN (gM (gI I)) = 0 := lnz hM0 (by omega)
        have z4 : ¬ lN (gN (gI I)) = 0 := lnz hN0 (by omega)
        have t1 : (nI (gM (gI I))).toInt64 = lN (gM (gI I)) := nI_l (by omega)
        have t2 : (nI (gN (gI I))).toInt64 = lN (gN (gI I)) := nI_l (by omega)
        generalize hsv : stp (gI I) q.1 (dW q.1 (dw q.2.1) (dr (gI I) q.2.1)) (dc (gI I) q.2.1) (dr (gI I) q.2.1) = sv at *
        have hI3 : ∀ j, j < 12 → putS I2 114 sv.2 (114 + j) = sv.2 j := fun j hj => ps_j hj
        refine ⟨putS I2 114 sv.2, (some (.int (nI (dW q.1 (dw q.2.1) (dr (gI I) q.2.1)))), some (.int (nI (dc (gI I) q.2.1))), some (.int (nI (dr (gI I) q.2.1)))), ⟨fun a ha => by rw [ps_ne (by omega), hsc.1 a (by omega) (by omega) (by omega)]; exact hE.1 a ha, fun k hk => by rw [ps_ne (by omega)]; exact hsc.2 k hk, cS_cg (V := sv.2) (fun j hj => (hI3 j hj).symm) (okV_cS hans.1)⟩, hI3, fun P => (hw P).trans (w167_31.trans ?_)⟩
        have eC : ∀ P, (Wp L xs (d+5+1) 167 147 [some (.ref 64), some (.int (nI sd)), some (.int (nI mn)), some (.int (nI q.2.2)), some (.long (lN (nd (nd (nd q.2.1))))), none, some (.int (nI n)), some (.int (nI (dW q.1 (dw q.2.1) (dr (gI I) q.2.1)))), some (.int (nI (dc (gI I) q.2.1))), some (.int (nI (dr (gI I) q.2.1)))] [.int sv.1] (mk (putS I2 114 sv.2) J R Z) P) = Wp L xs (d+6) 167 31 [some (.ref (64)), some (.int (nI sd)), some (.int (nI mn)), some (.int (nI (if cnd (gI I) q.1 (dW q.1 (dw q.2.1) (dr (gI I) q.2.1)) (dc (gI I) q.2.1) (dr (gI I) q.2.1) = true then q.2.2 + 1 else q.2.2))), some (.long (lN (nd (nd (nd q.2.1))))), none, some (.int (nI (n + 1))), some (.int (nI (dW q.1 (dw q.2.1) (dr (gI I) q.2.1)))), some (.int (nI (dc (gI I) q.2.1))), some (.int (nI (dr (gI I) q.2.1)))] [] (mk (putS I2 114 sv.2) J R Z) P := fun P => by
          rcases hans.2 with ⟨q1, q2⟩ | ⟨q1, q2⟩
          · have hv : sv.1 = -1 := by rw [q2]
            rw [q1, hv]
            simp (discharger := omega) only [↓w167_0, ↓w167_1, ↓w167_4, ↓w167_7, ↓w167_10, ↓w167_11, ↓w167_14, ↓w167_17, ↓w167_20, ↓w167_21, ↓w167_22, ↓w167_23, ↓w167_24, ↓w167_25, ↓w167_26, ↓w167_28, ↓w167_29, ↓w167_33, ↓w167_34, ↓w167_37, ↓w167_39, ↓w167_42, ↓w167_44, ↓w167_46, ↓w167_49, ↓w167_50, ↓w167_53, ↓w167_54, ↓w167_55, ↓w167_57, ↓w167_59, ↓w167_62, ↓w167_64, ↓w167_66, ↓w167_69, ↓w167_70, ↓w167_71, ↓w167_74, ↓w167_77, ↓w167_78, ↓w167_79, ↓w167_80, ↓w167_82, ↓w167_84, ↓w167_87, ↓w167_89, ↓w167_91, ↓w167_94, ↓w167_95, ↓w167_96, ↓w167_99, ↓w167_102, ↓w167_103, ↓w167_104, ↓w167_105, ↓w167_107, ↓w167_109, ↓w167_111, ↓w167_114, ↓w167_115, ↓w167_118, ↓w167_120, ↓w167_123, ↓w167_126, ↓w167_128, ↓w167_130, ↓w167_131, ↓w167_134, ↓w167_135, ↓w167_138, ↓w167_140, ↓w167_142, ↓w167_144, ↓w167_147, ↓w167_148, ↓w167_151, ↓w167_154, ↓w167_157, ↓w167_160, ↓w167_161, mul8, mul8', mul4, mul4', nI_add, inT, nclN, ltT, ltF, leT, leF, eqT, eqF, nzF, m1F, m1T, shr, shg, bI0, bI1, bo_bI, bo_1, bo_0, eq10, eq00, frT1, frT2, frT3, fit0, fit1, fit2, fit3, true_and, and_true, ↓reduceIte, Nat.reduceAdd, Nat.reduceMul, and_self, not_false_eq_true, not_true_eq_false, Nat.zero_add, Nat.add_zero, Bool.false_eq_true]
          · have hv := isA_ne q2
            rw [q1]
            simp (discharger := omega) only [↓w167_0, ↓w167_1, ↓w167_4, ↓w167_7, ↓w167_10, ↓w167_11, ↓w167_14, ↓w167_17, ↓w167_20, ↓w167_21, ↓w167_22, ↓w167_23, ↓w167_24, ↓w167_25, ↓w167_26, ↓w167_28, ↓w167_29, ↓w167_33, ↓w167_34, ↓w167_37, ↓w167_39, ↓w167_42, ↓w167_44, ↓w167_46, ↓w167_49, ↓w167_50, ↓w167_53, ↓w167_54, ↓w167_55, ↓w167_57, ↓w167_59, ↓w167_62, ↓w167_64, ↓w167_66, ↓w167_69, ↓w167_70, ↓w167_71, ↓w167_74, ↓w167_77, ↓w167_78, ↓w167_79, ↓w167_80, ↓w167_82, ↓w167_84, ↓w167_87, ↓w167_89, ↓w167_91, ↓w167_94, ↓w167_95, ↓w167_96, ↓w167_99, ↓w167_102, ↓w167_103, ↓w167_104, ↓w167_105, ↓w167_107, ↓w167_109, ↓w167_111, ↓w167_114, ↓w167_115, ↓w167_118, ↓w167_120, ↓w167_123, ↓w167_126, ↓w167_128, ↓w167_130, ↓w167_131, ↓w167_134, ↓w167_135, ↓w167_138, ↓w167_140, ↓w167_142, ↓w167_144, ↓w167_147, ↓w167_148, ↓w167_151, ↓w167_154, ↓w167_157, ↓w167_160, ↓w167_161, mul8, mul8', mul4, mul4', nI_add, inT, nclN, ltT, ltF, leT, leF, eqT, eqF, nzF, m1F, m1T, shr, shg, bI0, bI1, bo_bI, bo_1, bo_0, eq10, eq00, frT1, frT2, frT3, fit0, fit1, fit2, fit3, true_and, and_true, ↓reduceIte, Nat.reduceAdd, Nat.reduceMul, and_self, not_false_eq_true, not_true_eq_false, Nat.zero_add, Nat.add_zero, hv]
        refine Eq.trans ?_ (eC P)
        by_cases hw8 : dw q.2.1 = 8
        · by_cases hu : tb (q.1 0 0) (dr (gI I) q.2.1) = true
          · have eW : dW q.1 (dw q.2.1) (dr (gI I) q.2.1) = 8 := by unfold dW; rw [if_neg (by simp [hu]), hw8]
            rw [eW] at hst ⊢
            rw [hw8] at v1
            simp (discharger := omega) only [↓w167_0, ↓w167_1, ↓w167_4, ↓w167_7, ↓w167_10, ↓w167_11, ↓w167_14, ↓w167_17, ↓w167_20, ↓w167_21, ↓w167_22, ↓w167_23, ↓w167_24, ↓w167_25, ↓w167_26, ↓w167_28, ↓w167_29, ↓w167_33, ↓w167_34, ↓w167_37, ↓w167_39, ↓w167_42, ↓w167_44, ↓w167_46, ↓w167_49, ↓w167_50, ↓w167_53, ↓w167_54, ↓w167_55, ↓w167_57, ↓w167_59, ↓w167_62, ↓w167_64, ↓w167_66, ↓w167_69, ↓w167_70, ↓w167_71, ↓w167_74, ↓w167_77, ↓w167_78, ↓w167_79, ↓w167_80, ↓w167_82, ↓w167_84, ↓w167_87, ↓w167_89, ↓w167_91, ↓w167_94, ↓w167_95, ↓w167_96, ↓w167_99, ↓w167_102, ↓w167_103, ↓w167_104, ↓w167_105, ↓w167_107, ↓w167_109, ↓w167_111, ↓w167_114, ↓w167_115, ↓w167_118, ↓w167_120, ↓w167_123, ↓w167_126, ↓w167_128, ↓w167_130, ↓w167_131, ↓w167_134, ↓w167_135, ↓w167_138, ↓w167_140, ↓w167_142, ↓w167_144, ↓w167_148, ↓w167_151, ↓w167_154, ↓w167_157, ↓w167_160, ↓w167_161, ↓d1, ↓d2, ↓d3, v1, v2, v3, z1, z2, z3, z4, t1, t2, lN_i, hN', hM', ↓hup, hu, bI_t, ↓hst, ↓kc_i, ↓kc_l, ↓kc_r, ↓kc_n, rc64, g64_0, g64_1, g64_2, g64_3, g64_4, g64_5, g64_6, g64_7, g64_8, g64_9, g64_10, g64_11, g64_12, rc76, g76_0, p76_0, g76_1, p76_1, g76_2, p76_2, g76_3, g76_4, g76_5, g76_6, g76_7, g76_8, rc128, g128_0, g128_1, g128_2, p128_2, g128_3, p128_3, rc114, g114_0, p114_0, g114_1, p114_1, g114_2, g114_3, g114_4, g114_5, g114_6, g114_7, g114_8, g114_9, g114_10, g114_11, g114_12, mul8, mul8', mul4, mul4', nI_add, inT, nclN, ltT, ltF, leT, leF, eqT, eqF, nzF, m1F, m1T, shr, shg, bI0, bI1, bo_bI, bo_1, bo_0, eq10, eq00, frT1, frT2, frT3, fit0, fit1, fit2, fit3, true_and, and_true, ↓reduceIte, Nat.reduceAdd, Nat.reduceMul, and_self, not_false_eq_true, not_true_eq_false, Nat.zero_add, Nat.add_zero]
          · have hu' := Bool.eq_false_iff.mpr hu
            have eW : dW q.1 (dw q.2.1) (dr (gI I) q.2.1) = 9 := by unfold dW; rw [if_pos ⟨hw8, hu'⟩]
            rw [eW] at hst ⊢
            rw [hw8] at v1
            simp (discharger := omega) only [↓w167_0, ↓w167_1, ↓w167_4, ↓w167_7, ↓w167_10, ↓w167_11, ↓w167_14, ↓w167_17, ↓w167_20, ↓w167_21, ↓w167_22, ↓w167_23, ↓w167_24, ↓w167_25, ↓w167_26, ↓w167_28, ↓w167_29, ↓w167_33, ↓w167_34, ↓w167_37, ↓w167_39, ↓w167_42, ↓w167_44, ↓w167_46, ↓w167_49, ↓w167_50, ↓w167_53, ↓w167_54, ↓w167_55, ↓w167_57, ↓w167_59, ↓w167_62, ↓w167_64, ↓w167_66, ↓w167_69, ↓w167_70, ↓w167_71, ↓w167_74, ↓w167_77, ↓w167_78, ↓w167_79, ↓w167_80, ↓w167_82, ↓w167_84, ↓w167_87, ↓w167_89, ↓w167_91, ↓w167_94, ↓w167_95, ↓w167_96, ↓w167_99, ↓w167_102, ↓w167_103, ↓w167_104, ↓w167_105, ↓w167_107, ↓w167_109, ↓w167_111, ↓w167_114, ↓w167_115, ↓w167_118, ↓w167_120, ↓w167_123, ↓w167_126, ↓w167_128, ↓w167_130, ↓w167_131, ↓w167_134, ↓w167_135, ↓w167_138, ↓w167_140, ↓w167_142, ↓w167_144, ↓w167_148, ↓w167_151, ↓w167_154, ↓w167_157, ↓w167_160, ↓w167_161, ↓d1, ↓d2, ↓d3, v1, v2, v3, z1, z2, z3, z4, t1, t2, lN_i, hN', hM', ↓hup, hu', bI_f, ↓hst, ↓kc_i, ↓kc_l, ↓kc_r, ↓kc_n, rc64, g64_0, g64_1, g64_2, g64_3, g64_4, g64_5, g64_6, g64_7, g64_8, g64_9, g64_10, g64_11, g64_12, rc76, g76_0, p76_0, g76_1, p76_1, g76_2, p76_2, g76_3, g76_4, g76_5, g76_6, g76_7, g76_8, rc128, g128_0, g128_1, g128_2, p128_2, g128_3, p128_3, rc114, g114_0, p114_0, g114_1, p114_1, g114_2, g114_3, g114_4, g114_5, g114_6, g114_7, g114_8, g114_9, g114_10, g114_11, g114_12, mul8, mul8', mul4, mul4', nI_add, inT, nclN, ltT, ltF, leT, leF, eqT, eqF, nzF, m1F, m1T, shr, shg, bI0, bI1, bo_bI, bo_1, bo_0, eq10, eq00, frT1, frT2, frT3, fit0, fit1, fit2, fit3, true_and, and_true, ↓reduceIte, Nat.reduceAdd, Nat.reduceMul, and_self, not_false_eq_true, not_true_eq_false, Nat.zero_add, Nat.add_zero]
        · have eW : dW q.1 (dw q.2.1) (dr (gI I) q.2.1) = dw q.2.1 := by unfold dW; rw [if_neg (fun z => hw8 z.1)]
          rw [eW] at hst ⊢
          simp (discharger := omega) only [↓w167_0, ↓w167_1, ↓w167_4, ↓w167_7, ↓w167_10, ↓w167_11, ↓w167_14, ↓w167_17, ↓w167_20, ↓w167_21, ↓w167_22, ↓w167_23, ↓w167_24, ↓w167_25, ↓w167_26, ↓w167_28, ↓w167_29, ↓w167_33, ↓w167_34, ↓w167_37, ↓w167_39, ↓w167_42, ↓w167_44, ↓w167_46, ↓w167_49, ↓w167_50, ↓w167_53, ↓w167_54, ↓w167_55, ↓w167_57, ↓w167_59, ↓w167_62, ↓w167_64, ↓w167_66, ↓w167_69, ↓w167_70, ↓w167_71, ↓w167_74, ↓w167_77, ↓w167_78, ↓w167_79, ↓w167_80, ↓w167_82, ↓w167_84, ↓w167_87, ↓w167_89, ↓w167_91, ↓w167_94, ↓w167_95, ↓w167_96, ↓w167_99, ↓w167_102, ↓w167_103, ↓w167_104, ↓w167_105, ↓w167_107, ↓w167_109, ↓w167_111, ↓w167_114, ↓w167_115, ↓w167_118, ↓w167_120, ↓w167_123, ↓w167_126, ↓w167_128, ↓w167_130, ↓w167_131, ↓w167_134, ↓w167_135, ↓w167_138, ↓w167_140, ↓w167_142, ↓w167_144, ↓w167_148, ↓w167_151, ↓w167_154, ↓w167_157, ↓w167_160, ↓w167_161, ↓d1, ↓d2, ↓d3, v1, v2, v3, z1, z2, z3, z4, t1, t2, lN_i, hN', hM', ↓hst, ↓kc_i, ↓kc_l, ↓kc_r, ↓kc_n, rc64, g64_0, g64_1, g64_2, g64_3, g64_4, g64_5, g64_6, g64_7, g64_8, g64_9, g64_10, g64_11, g64_12, rc76, g76_0, p76_0, g76_1, p76_1, g76_2, p76_2, g76_3, g76_4, g76_5, g76_6, g76_7, g76_8, rc128, g128_0, g128_1, g128_2, p128_2, g128_3, p128_3, rc114, g114_0, p114_0, g114_1, p114_1, g114_2, g114_3, g114_4, g114_5, g114_6, g114_7, g114_8, g114_9, g114_10, g114_11, g114_12, mul8, mul8', mul4, mul4', nI_add, inT, nclN, ltT, ltF, leT, leF, eqT, eqF, nzF, m1F, m1T, shr, shg, bI0, bI1, bo_bI, bo_1, bo_0, eq10, eq00, frT1, frT2, frT3, fit0, fit1, fit2, fit3, true_and, and_true, ↓reduceIte, Nat.reduceAdd, Nat.reduceMul, and_self, not_false_eq_true, not_true_eq_false, Nat.zero_add, Nat.add_zero]
    obtain ⟨I', t, hE, hV', hw⟩ := key mn (Nat.le_refl mn)
    refine ⟨I', hE, hV', fun P => ?_⟩
    have hs64 : (nI sd).toInt64 = lN sd := nI_l (by omega)
    simp (discharger := omega) only [↓w167_0, ↓w167_1, ↓w167_4, ↓w167_7, ↓w167_10, ↓w167_11, ↓w167_14, ↓w167_17, ↓w167_20, ↓w167_21, ↓w167_22, ↓w167_23, ↓w167_24, ↓w167_25, ↓w167_26, ↓w167_28, ↓w167_29, ↓w167_33, ↓w167_34, ↓w167_37, ↓w167_39, ↓w167_42, ↓w167_44, ↓w167_46, ↓w167_49, ↓w167_50, ↓w167_53, ↓w167_54, ↓w167_55, ↓w167_57, ↓w167_59, ↓w167_62, ↓w167_64, ↓w167_66, ↓w167_69, ↓w167_70, ↓w167_71, ↓w167_74, ↓w167_77, ↓w167_78, ↓w167_79, ↓w167_80, ↓w167_82, ↓w167_84, ↓w167_87, ↓w167_89, ↓w167_91, ↓w167_94, ↓w167_95, ↓w167_96, ↓w167_99, ↓w167_102, ↓w167_103, ↓w167_104, ↓w167_105, ↓w167_107, ↓w167_109, ↓w167_111, ↓w167_114, ↓w167_115, ↓w167_118, ↓w167_120, ↓w167_123, ↓w167_126, ↓w167_128, ↓w167_130, ↓w167_131, ↓w167_134, ↓w167_135, ↓w167_138, ↓w167_140, ↓w167_142, ↓w167_144, ↓w167_147, ↓w167_148, ↓w167_151, ↓w167_154, ↓w167_157, ↓w167_160, ↓w167_161, rc64, g64_0, g64_1, g64_2, g64_3, g64_4, g64_5, g64_6, g64_7, g64_8, g64_9, g64_10, g64_11, g64_12, rc76, g76_0, p76_0, g76_1, p76_1, g76_2, p76_2, g76_3, g76_4, g76_5, g76_6, g76_7, g76_8, hN, hM, hs64, mul8, mul8', mul4, mul4', nI_add, inT, nclN, ltT, ltF, leT, leF, eqT, eqF, nzF, m1F, m1T, shr, shg, bI0, bI1, bo_bI, bo_1, bo_0, eq10, eq00, frT1, frT2, frT3, fit0, fit1, fit2, fit3, true_and, and_true, ↓reduceIte, Nat.reduceAdd, Nat.reduceMul, and_self, not_false_eq_true, not_true_eq_false, Nat.zero_add, Nat.add_zero]
    rw [hw]
    refine w167_31.trans ?_
    simp (discharger := omega) only [↓w167_0, ↓w167_1, ↓w167_4, ↓w167_7, ↓w167_10, ↓w167_11, ↓w167_14, ↓w167_17, ↓w167_20, ↓w167_21, ↓w167_22, ↓w167_23, ↓w167_24, ↓w167_25, ↓w167_26, ↓w167_28, ↓w167_29, ↓w167_33, ↓w167_34, ↓w167_37, ↓w167_39, ↓w167_42, ↓w167_44, ↓w167_46, ↓w167_49, ↓w167_50, ↓w167_53, ↓w167_54, ↓w167_55, ↓w167_57, ↓w167_59, ↓w167_62, ↓w167_64, ↓w167_66, ↓w167_69, ↓w167_70, ↓w167_71, ↓w167_74, ↓w167_77, ↓w167_78, ↓w167_79, ↓w167_80, ↓w167_82, ↓w167_84, ↓w167_87, ↓w167_89, ↓w167_91, ↓w167_94, ↓w167_95, ↓w167_96, ↓w167_99, ↓w167_102, ↓w167_103, ↓w167_104, ↓w167_105, ↓w167_107, ↓w167_109, ↓w167_111, ↓w167_114, ↓w167_115, ↓w167_118, ↓w167_120, ↓w167_123, ↓w167_126, ↓w167_128, ↓w167_130, ↓w167_131, ↓w167_134, ↓w167_135, ↓w167_138, ↓w167_140, ↓w167_142, ↓w167_144, ↓w167_147, ↓w167_148, ↓w167_151, ↓w167_154, ↓w167_157, ↓w167_160, ↓w167_161, mul8, mul8', mul4, mul4', nI_add, inT, nclN, ltT, ltF, leT, leF, eqT, eqF, nzF, m1F, m1T, shr, shg, bI0, bI1, bo_bI, bo_1, bo_0, eq10, eq00, frT1, frT2, frT3, fit0, fit1, fit2, fit3, true_and, and_true, ↓reduceIte, Nat.reduceAdd, Nat.reduceMul, and_self, not_false_eq_true, not_true_eq_false, Nat.zero_add, Nat.add_zero]
end F3
