section M5
variable {L : Nat} {xs : Nat → Int32} {d : Nat} {P : Option Value → Hp → Prop} {I I' I2 I0 Ic : Mi} {J J' J2 J0 Jc : Mj} {R Rc : Mr} {Z : Mz} {k n i j p w b m c lo hi K i0 q dep f T F lv : Nat} {g : Nat → Nat} {y : Int64} {v : Int32} {op cp op' cp' : Nat → Int32} {A B C : Ms} {Q : Nat → Er}
theorem pE_ge (h : (pE g n F lv dep i).2.1 = 0) : i ≤ (pE g n F lv dep i).1 := by have := pE_len F lv dep i h; omega
theorem m_pE (hn : n ≤ 1000) (hT : cutT Ic Jc Rc g n T) : ∀ F,
    (∀ dep i op cp, dep ≤ 5 → i0 ≤ i → i ≤ T → 5 * (5 - dep) < F → (((pE g n F 4 dep i).2.1 = 0 → ∃ op' cp', (∀ k, k ≤ dep → op' k = op k) ∧ (∀ k, k ≤ dep → cp' k = cp k) ∧ Go L xs d I0 J0 R Z g n i0 (i, op, cp, dep, 1) ((pE g n F 4 dep i).1, op', cp', popN op dep, 0)) ∧ ((pE g n F 4 dep i).2.1 ≠ 0 → Fa L xs d I0 J0 R Z g n i0 (i, op, cp, dep, 1) (pE g n F 4 dep i).2.1))) ∧
    (∀ lv dep i op cp, lv ≤ 3 → dep ≤ 5 → i0 ≤ i → i ≤ T → 5 * (5 - dep) + (4 - lv) < F → popN op dep = dep → (lv ≤ 1 → cp dep = nI 0) → (cp dep = nI 0 ∨ cp dep = nI 1) → (((pE g n F lv dep i).2.1 = 0 → ∃ op' cp', (∀ k, k ≤ dep → op' k = op k) ∧ (∀ k, k < dep → cp' k = cp k) ∧ (2 ≤ lv → cp' dep = cp dep) ∧ (cp' dep = nI 0 ∨ cp' dep = nI 1) ∧ (∀ l', lv ≤ l' → l' ≤ 3 → l' ≠ 1 → jn g n l' (pE g n F lv dep i).1 = nI 0) ∧ (lv ≤ 1 → cp' dep = nI 0 → jn g n 1 (pE g n F lv dep i).1 = nI 0) ∧ Go L xs d I0 J0 R Z g n i0 (i, op, cp, dep, 1) ((pE g n F lv dep i).1, op', cp', dep, 0)) ∧ ((pE g n F lv dep i).2.1 ≠ 0 → Fa L xs d I0 J0 R Z g n i0 (i, op, cp, dep, 1) (pE g n F lv dep i).2.1))) := by
  have hTn := cutT_T hT
  have hkT : ∀ i, i ≤ T → (kd g n i ≠ 0 ↔ i < T) := fun i hi => cutT_lt hT hi
  intro F
  induction F with
  | zero => exact ⟨fun dep i op cp _ _ _ h => by omega, fun lv dep i op cp _ _ _ _ h => by omega⟩
  | succ F ih =>
    refine ⟨fun dep i op cp hdep hi hiT hF => ?_, fun lv dep i op cp hlv hdep hi hiT hF hpop hc0 hc01 => ?_⟩
    · have e4 : pE g n (F + 1) 4 dep i = prtE g n (pE g n F 0) (pE g n F 4) dep i := by rw [pE, if_pos (Nat.le_refl 4)]
      rw [e4]
      unfold prtE
      by_cases hno : kd g n i ≠ 2 ∧ isFc g n i = false ∧ wd g n i ≠ 7 ∧ isSgn g n 40 i = false
      · rw [if_pos hno]
        exact ⟨fun z => absurd z (by show 1 + 16 * bg g n i ≠ 0; omega), fun _ => f_one hn hno.1 hno.2.1 hno.2.2.1 hno.2.2.2⟩
      · rw [if_neg hno]
        by_cases h5 : 5 ≤ dep
        · rw [if_pos h5]
          have : dep = 5 := by omega
          subst this
          exact ⟨fun z => absurd z (by show 5 + 16 * bg g n i ≠ 0; omega), fun _ => f_deep hn hno⟩
        · rw [if_neg h5]
          by_cases q1 : kd g n i = 2
          · rw [if_pos q1]
            exact ⟨fun _ => ⟨op, cp, fun _ _ => rfl, fun _ _ => rfl, s_opd hn hi (by omega) (Or.inl q1)⟩, fun z => absurd rfl z⟩
          · rw [if_neg q1]
            by_cases q2 : isFc g n i = true
            · rw [if_pos q2]
              exact ⟨fun _ => ⟨op, cp, fun _ _ => rfl, fun _ _ => rfl, s_opd hn hi (by omega) (Or.inr q2)⟩, fun z => absurd rfl z⟩
            · rw [if_neg q2]
              by_cases q3 : wd g n i = 7
              · rw [if_pos q3]
                have hlt : i < T := (hkT i hiT).mp (by rw [(nt_kd q3).1]; decide)
                have g1 := s_not (L := L) (xs := xs) (d := d) (I0 := I0) (J0 := J0) (R := R) (Z := Z) (op := op) (cp := cp) hn hi (show dep < 5 by omega) q3
                obtain ⟨a1, a2⟩ := ih.1 (dep + 1) (i + 1) (upd op (dep + 1) (nI 1)) (upd cp (dep + 1) (nI 0)) (by omega) (by omega) (by omega) (by omega)
                refine ⟨fun z => ?_, fun z => go_f g1 (a2 z)⟩
                obtain ⟨op1, cp1, b1, b2, b3⟩ := a1 z
                refine ⟨op1, cp1, fun k hk => (b1 k (by omega)).trans (upd_ne (by omega)), fun k hk => (b2 k (by omega)).trans (upd_ne (by omega)), ?_⟩
                have ep : popN (upd op (dep + 1) (nI 1)) (dep + 1) = popN op dep := by
                  rw [popN, upd_eq, if_pos rfl]
                  exact popN_cg dep (fun k hk => upd_ne (show k ≠ dep + 1 by omega))
                rw [ep] at b3
                exact go_t g1 b3
              · rw [if_neg q3]
                have q4 : isSgn g n 40 i = true := by
                  cases h : isSgn g n 40 i
                  · exact absurd ⟨q1, Bool.eq_false_iff.mpr q2, q3, h⟩ hno
                  · rfl
                have hlt : i < T := (hkT i hiT).mp (by rw [(isSgn_k q4).1]; decide)
                have g1 := s_opn (L := L) (xs := xs) (d := d) (I0 := I0) (J0 := J0) (R := R) (Z := Z) (op := op) (cp := cp) hn hi (show dep < 5 by omega) q4
                have ep : popN (upd op (dep + 1) (nI 2)) (dep + 1) = dep + 1 := by
                  unfold popN
                  rw [upd_eq, if_neg (by decide)]
                obtain ⟨a1, a2⟩ := ih.2 0 (dep + 1) (i + 1) (upd op (dep + 1) (nI 2)) (upd cp (dep + 1) (nI 0)) (by decide) (by omega) (by omega) (by omega) (by omega) ep (fun _ => upd_eq) (Or.inl upd_eq)
                by_cases hz : (pE g n F 0 (dep + 1) (i + 1)).2.1 = 0
                · obtain ⟨op1, cp1, b1, b2, -, b4, b5, b6, b7⟩ := a1 hz
                  have hge := pE_ge hz
                  have g2 := go_t g1 b7
                  cases hs : isSgn g n 41 (pE g n F 0 (dep + 1) (i + 1)).1
                  · have et : tkS g n 41 ((pE g n F 0 (dep + 1) (i + 1)).1, (pE g n F 0 (dep + 1) (i + 1)).2.1) = ((pE g n F 0 (dep + 1) (i + 1)).1, 1 + 16 * bg g n (pE g n F 0 (dep + 1) (i + 1)).1) := by rw [hz, tkS_n hs]
                    rw [et]
                    refine ⟨fun z => absurd z (by show 1 + 16 * bg g n _ ≠ 0; omega), fun _ => go_f g2 ?_⟩
                    exact f_two hn (by omega) (b5 0 (Nat.le_refl _) (by decide) (by decide)) (b5 2 (by decide) (by decide) (by decide)) (b5 3 (by decide) (by decide) (by decide)) b4 (b6 (by decide)) (fun _ => hs) (fun z => by omega)
                  · have et : tkS g n 41 ((pE g n F 0 (dep + 1) (i + 1)).1, (pE g n F 0 (dep + 1) (i + 1)).2.1) = ((pE g n F 0 (dep + 1) (i + 1)).1 + 1, 0) := by rw [hz, tkS_t hs]
                    rw [et]
                    have g3 := s_cls (L := L) (xs := xs) (d := d) (I0 := I0) (J0 := J0) (R := R) (Z := Z) (op := op1) (cp := cp1) hn (show i0 ≤ (pE g n F 0 (dep + 1) (i + 1)).1 by omega) (show dep < 5 by omega) hs
                    have ep2 : popN op1 dep = popN op dep := popN_cg dep (fun k hk => (b1 k (by omega)).trans (upd_ne (by omega)))
                    rw [ep2] at g3
                    exact ⟨fun _ => ⟨op1, cp1, fun k hk => (b1 k (by omega)).trans (upd_ne (by omega)), fun k hk => (b2 k (by omega)).trans (upd_ne (by omega)), go_t g2 g3⟩, fun z => absurd rfl z⟩
                · have et : tkS g n 41 ((pE g n F 0 (dep + 1) (i + 1)).1, (pE g n F 0 (dep + 1) (i + 1)).2.1) = ((pE g n F 0 (dep + 1) (i + 1)).1, (pE g n F 0 (dep + 1) (i + 1)).2.1) := tkS_f hz
                  rw [et]
                  exact ⟨fun z => absurd z hz, fun _ => go_f g1 (a2 hz)⟩
    · have e35 : pE g n (F + 1) lv dep i = lpE g n lv (pE g n F (lv + 1) dep) (rou lv) (pE g n F (lv + 1) dep i) := by
        rw [pE, if_neg (by omega)]
      have hS : Sub L xs d I0 J0 R Z g n i0 T dep lv (pE g n F (lv + 1) dep) := by
        intro i op cp hi hiT hpop h0 h01
        by_cases h3 : lv = 3
        · subst h3
          obtain ⟨a1, a2⟩ := ih.1 dep i op cp hdep hi hiT (by omega)
          refine ⟨fun z => ?_, a2⟩
          obtain ⟨op1, cp1, b1, b2, b3⟩ := a1 z
          rw [hpop] at b3
          exact ⟨op1, cp1, b1, fun k hk => b2 k (by omega), fun _ => b2 dep (Nat.le_refl _), by rw [b2 dep (Nat.le_refl _)]; exact h01, fun l' h1 h2 => by omega, fun z => by omega, b3⟩
        · obtain ⟨a1, a2⟩ := ih.2 (lv + 1) dep i op cp (by omega) hdep hi hiT (by omega) hpop (fun z => h0 (by omega)) h01
          refine ⟨fun z => ?_, a2⟩
          obtain ⟨op1, cp1, b1, b2, b3, b4, b5, b6, b7⟩ := a1 z
          exact ⟨op1, cp1, b1, b2, fun z => b3 (by omega), b4, b5, fun z => b6 (by omega), b7⟩
      rw [e35]
      obtain ⟨s1, s2⟩ := hS i op cp hi hiT hpop (fun z => hc0 (by omega)) hc01
      by_cases hz : (pE g n F (lv + 1) dep i).2.1 = 0
      · obtain ⟨op1, cp1, b1, b2, b3, b4, b5, b6, b7⟩ := s1 hz
        have hge := pE_ge hz
        have hok := pE_ok hT hn F (lv + 1) dep i hiT
        have hpop1 : popN op1 dep = dep := (popN_cg dep b1).trans hpop
        by_cases h1 : lv = 1
        · subst h1
          have er1 : rou 1 = 1 := rfl
          rw [er1]
          have c1 : cp1 dep = nI 0 := (b3 (by decide)).trans (hc0 (by decide))
          by_cases hjn : jn g n 1 (pE g n F (1 + 1) dep i).1 = nI 0
          · have el : lpE g n 1 (pE g n F (1 + 1) dep) 1 (pE g n F (1 + 1) dep i) = pE g n F (1 + 1) dep i := by rw [lpE, if_pos (Or.inl hjn)]
            rw [el]
            refine ⟨fun _ => ⟨op1, cp1, b1, b2, fun z => by omega, b4, fun l' h1 h2 h3 => b5 l' (by omega) h2 h3, fun _ _ => hjn, b7⟩, fun z => absurd hz z⟩
          · have el : lpE g n 1 (pE g n F (1 + 1) dep) 1 (pE g n F (1 + 1) dep i) = ((pE g n F (1 + 1) dep ((pE g n F (1 + 1) dep i).1 + 1)).1, (pE g n F (1 + 1) dep ((pE g n F (1 + 1) dep i).1 + 1)).2.1, (pE g n F (1 + 1) dep i).2.2.1 ++ (pE g n F (1 + 1) dep ((pE g n F (1 + 1) dep i).1 + 1)).2.2.1 ++ [jn g n 1 (pE g n F (1 + 1) dep i).1], fun φ => jo (jn g n 1 (pE g n F (1 + 1) dep i).1) ((pE g n F (1 + 1) dep i).2.2.2 φ) ((pE g n F (1 + 1) dep ((pE g n F (1 + 1) dep i).1 + 1)).2.2.2 φ)) := by
              rw [lpE, if_neg (by simp [hjn, hz])]
              rfl
            rw [el]
            have hlt : (pE g n F (1 + 1) dep i).1 < T := (hkT _ hok.1).mp (jn_kd hjn)
            have hsg : ∃ c, (c = 60 ∨ c = 61) ∧ isSgn g n c (pE g n F (1 + 1) dep i).1 = true := by
              unfold jn at hjn
              rw [if_neg (by decide), if_pos rfl] at hjn
              cases x1 : isSgn g n 60 (pE g n F (1 + 1) dep i).1
              · rw [x1, if_neg (by decide)] at hjn
                cases x2 : isSgn g n 61 (pE g n F (1 + 1) dep i).1
                · rw [x2, if_neg (by decide)] at hjn; exact absurd rfl hjn
                · exact ⟨61, Or.inr rfl, x2⟩
              · exact ⟨60, Or.inl rfl, x1⟩
            obtain ⟨c, hc, hs⟩ := hsg
            have g1 := s_cmp (L := L) (xs := xs) (d := d) (I0 := I0) (J0 := J0) (R := R) (Z := Z) (op := op1) (cp := cp1) hn (show i0 ≤ (pE g n F (1 + 1) dep i).1 by omega) hdep c1 hc hs
            obtain ⟨t1, t2⟩ := hS ((pE g n F (1 + 1) dep i).1 + 1) op1 (upd cp1 dep (nI 1)) (by omega) (by omega) hpop1 (fun z => by omega) (Or.inr upd_eq)
            have g2 := go_t b7 g1
            refine ⟨fun z => ?_, fun z => go_f g2 (t2 z)⟩
            obtain ⟨op2, cp2, y1, y2, y3, y4, y5, y6, y7⟩ := t1 z
            have c2 : cp2 dep = nI 1 := (y3 (by decide)).trans upd_eq
            exact ⟨op2, cp2, fun k hk => (y1 k hk).trans (b1 k hk), fun k hk => ((y2 k hk).trans (upd_ne (by omega))).trans (b2 k hk), fun z => by omega, y4, fun l' h1 h2 h3 => y5 l' (by omega) h2 h3, fun _ z => by rw [c2] at z; exact absurd z (by decide), go_t g2 y7⟩
        · have er1 : rou lv = 1000 := if_neg h1
          rw [er1]
          obtain ⟨t1, t2⟩ := m_loop (L := L) (xs := xs) (d := d) (I0 := I0) (J0 := J0) (R := R) (Z := Z) hn hTn hkT hdep (show lv = 0 ∨ lv = 2 ∨ lv = 3 by omega) hS (fun i hi => pE_ok hT hn F (lv + 1) dep i hi) (fun i h => pE_ge h) 1000 (pE g n F (lv + 1) dep i) op1 cp1 hz (by omega) (by omega) hok.1 hpop1 b4 b5 b6
          refine ⟨fun z => ?_, fun z => go_f b7 (t2 z)⟩
          obtain ⟨op2, cp2, y1, y2, y3, y4, y5, y6, y7⟩ := t1 z
          exact ⟨op2, cp2, fun k hk => (y1 k hk).trans (b1 k hk), fun k hk => (y2 k hk).trans (b2 k hk), fun z => (y3 (by omega)).trans (b3 (by omega)), y4, y5, fun z => y6 (by omega), go_t b7 y7⟩
      · have el : lpE g n lv (pE g n F (lv + 1) dep) (rou lv) (pE g n F (lv + 1) dep i) = pE g n F (lv + 1) dep i := lpE_f (Or.inr hz) hz
        rw [el]
        exact ⟨fun z => absurd z hz, fun _ => s2 hz⟩
theorem m_reads (hn : n ≤ 1000) (hF : 29 < F) (hk : kd g n (i0 - 1) ≠ 0) (h0 : 0 < i0) (hT : mTk I0 J0 g n i0) (h19 : I0 420 19 = nI 1000) : ∃ I' J', (((∀ a, a ≠ 420 → a ≠ 430 → a ≠ 431 → a ≠ 432 → I' a = I0 a) ∧ (∀ k, k ≠ 4 → k ≠ 5 → k ≠ 6 → k ≠ 8 → k ≠ 9 → k ≠ 19 → k ≠ 32 → I' 420 k = I0 420 k) ∧ (∀ a, a ≠ 420 → J' a = J0 a) ∧ ∀ k, k ≠ 7 → J' 420 k = J0 420 k) ∧ ((tkS g n 59 (er (pE g n F 0 0 i0))).2 = 0 → mTk I' J' g n (tkS g n 59 (er (pE g n F 0 0 i0))).1 ∧ I' 420 19 = nI (1000 + ((pE g n F 0 0 i0).1 - i0)) ∧ ∀ k, k < (pE g n F 0 0 i0).1 - i0 → I' 430 (1000 + k) = nI (mcd g n (i0 + k))) ∧ ((tkS g n 59 (er (pE g n F 0 0 i0))).2 ≠ 0 → I' 420 9 = nI (tkS g n 59 (er (pE g n F 0 0 i0))).2)) ∧ ∀ P, Wp L xs (d+2) 184 0 [some (.ref (420)), none, none, none, none, none] [] (mk I0 J0 R Z) P = P (some (.int (bI (decide ((tkS g n 59 (er (pE g n F 0 0 i0))).2 = 0))))) (mk I' J' R Z) := by
  obtain ⟨T, hTn, hT1, hT2⟩ := ex_T (g := g) (n := n)
  obtain ⟨Ic, Jc, Rc, hc⟩ := ex_cut hT1 hT2
  have hi0 : i0 ≤ T := by
    by_cases z : i0 ≤ T
    · exact z
    · exact absurd hT2 (kd_mono2 hk (by omega))
  have hst : RSg I0 J0 g n i0 (st I0 432 (upd (I0 432) 0 (nI 0))) J0 i0 (i0 - i0) (I0 431) (upd (I0 432) 0 (nI 0)) := by
    refine ⟨mTk_o hT (by decide) (by decide), by rw [st_ne (by decide), h19, Nat.sub_self], fun k hk => by omega, st_ne (by decide), st_eq, fun a a1 a2 a3 a4 => st_ne a4, fun k _ _ _ _ _ _ _ => by rw [st_ne (by decide)], fun _ _ => rfl, fun _ _ => rfl⟩
  have hent : ∀ P, Wp L xs (d+2) 184 0 [some (.ref (420)), none, none, none, none, none] [] (mk I0 J0 R Z) P = Wp L xs (d+2) 184 11 [some (.ref (420)), some (.int (nI 0)), some (.int (nI 1)), none, none, none] [] (mk (st I0 432 (upd (I0 432) 0 (nI 0))) J0 R Z) P := fun P => by
    simp (discharger := omega) only [↓w184_0, ↓w184_1, ↓w184_2, ↓w184_3, ↓w184_4, ↓w184_5, ↓w184_8, ↓w184_9, ↓w184_10, ↓w184_12, ↓w184_15, ↓w184_16, ↓w184_19, ↓w184_20, ↓w184_21, ↓w184_24, ↓w184_27, ↓w184_29, ↓w184_30, ↓w184_32, ↓w184_35, ↓w184_37, ↓w184_38, ↓w184_41, ↓w184_43, ↓w184_46, ↓w184_48, ↓w184_51, ↓w184_52, ↓w184_55, ↓w184_56, ↓w184_59, ↓w184_60, ↓w184_61, ↓w184_64, ↓w184_65, ↓w184_66, ↓w184_67, ↓w184_70, ↓w184_71, ↓w184_72, ↓w184_75, ↓w184_76, ↓w184_78, ↓w184_81, ↓w184_83, ↓w184_86, ↓w184_87, ↓w184_89, ↓w184_92, ↓w184_94, ↓w184_97, ↓w184_99, ↓w184_102, ↓w184_105, ↓w184_106, ↓w184_109, ↓w184_110, ↓w184_112, ↓w184_115, ↓w184_116, ↓w184_119, ↓w184_120, ↓w184_121, ↓w184_122, ↓w184_125, ↓w184_126, ↓w184_127, ↓w184_128, ↓w184_131, ↓w184_132, ↓w184_133, ↓w184_136, ↓w184_137, ↓w184_140, ↓w184_142, ↓w184_143, ↓w184_146, ↓w184_147, ↓w184_150, ↓w184_151, ↓w184_152, ↓w184_153, ↓w184_156, ↓w184_157, ↓w184_160, ↓w184_161, ↓w184_162, ↓w184_163, ↓w184_166, ↓w184_169, ↓w184_172, ↓w184_173, ↓w184_176, ↓w184_179, ↓w184_180, ↓w184_182, ↓w184_185, ↓w184_188, ↓w184_189, ↓w184_191, ↓w184_194, ↓w184_197, ↓w184_198, ↓w184_200, ↓w184_203, ↓w184_206, ↓w184_207, ↓w184_208, ↓w184_210, ↓w184_213, ↓w184_216, ↓w184_218, ↓w184_221, ↓w184_222, ↓w184_224, ↓w184_227, ↓w184_230, ↓w184_232, ↓w184_235, ↓w184_237, ↓w184_240, ↓w184_241, ↓w184_242, ↓w184_245, ↓w184_246, ↓w184_248, ↓w184_251, ↓w184_254, ↓w184_255, ↓w184_257, ↓w184_260, ↓w184_263, ↓w184_264, ↓w184_267, ↓w184_268, ↓w184_269, ↓w184_272, ↓w184_273, ↓w184_274, ↓w184_276, ↓w184_279, ↓w184_282, ↓w184_284, ↓w184_287, ↓w184_289, ↓w184_292, ↓w184_293, ↓w184_296, ↓w184_297, ↓w184_298, ↓w184_299, ↓w184_300, ↓w184_301, ↓w184_304, ↓w184_305, ↓w184_308, ↓w184_311, ↓w184_314, ↓w184_315, ↓w184_318, ↓w184_321, ↓w184_324, ↓w184_325, ↓w184_326, ↓w184_329, ↓w184_332, ↓w184_335, ↓w184_337, ↓w184_340, ↓w184_342, ↓w184_345, ↓w184_346, ↓w184_349, ↓w184_350, ↓w184_351, ↓w184_352, ↓w184_353, ↓w184_354, ↓w184_357, ↓w184_358, ↓w184_360, ↓w184_363, ↓w184_366, ↓w184_367, ↓w184_370, ↓w184_371, ↓w184_373, ↓w184_376, ↓w184_379, ↓w184_380, ↓w184_383, ↓w184_384, ↓w184_387, ↓w184_388, ↓w184_389, ↓w184_390, ↓w184_393, ↓w184_396, ↓w184_399, ↓w184_400, ↓w184_403, ↓w184_404, ↓w184_406, ↓w184_409, ↓w184_412, ↓w184_413, ↓w184_416, ↓w184_417, ↓w184_418, ↓w184_419, ↓w184_420, ↓w184_423, ↓w184_424, ↓w184_425, ↓w184_428, rc420, g420_0, p420_0, g420_1, p420_1, g420_2, g420_3, p420_3, g420_4, p420_4, g420_5, p420_5, g420_6, p420_6, g420_7, p420_7, g420_8, p420_8, g420_9, p420_9, g420_10, g420_11, g420_12, g420_13, g420_14, g420_15, g420_16, g420_17, g420_18, g420_19, p420_19, g420_20, g420_21, g420_22, g420_23, g420_24, g420_25, g420_26, g420_27, g420_28, g420_29, g420_30, g420_31, g420_32, p420_32, g420_33, g420_34, g420_35, g420_36, g420_37, g420_38, g420_39, g420_40, g420_41, g420_42, g420_43, g420_44, g420_45, g420_46, g420_47, p420_47, g420_48, g420_49, p420_49, gi432, si432, na30, ↓kc_i, ↓kc_l, ↓kc_r, ↓kc_n, mul8, mul8', mul4, mul4', nI_add, inT, nclN, ltT, ltF, leT, leF, eqT, eqF, nzF, m1F, m1T, shr, shg, bI0, bI1, bo_bI, bo_1, bo_0, eq10, eq00, frT1, frT2, frT3, fit0, fit1, fit2, fit3, true_and, and_true, ↓reduceIte, Nat.reduceAdd, Nat.reduceMul, and_self, not_false_eq_true, not_true_eq_false, Nat.zero_add, Nat.add_zero]
  obtain ⟨a1, a2⟩ := (m_pE (L := L) (xs := xs) (d := d) (I0 := I0) (J0 := J0) (R := R) (Z := Z) (i0 := i0) hn hc F).2 0 0 i0 (I0 431) (upd (I0 432) 0 (nI 0)) (by decide) (by decide) (Nat.le_refl _) hi0 (by omega) rfl (fun _ => upd_eq) (Or.inl upd_eq)
  have pge := pE_ge (g := g) (n := n) (F := F) (lv := 0) (dep := 0) (i := i0)
  generalize hr : pE g n F 0 0 i0 = r at *
  by_cases hz : r.2.1 = 0
  · obtain ⟨op1, cp1, b1, b2, -, b4, b5, b6, b7⟩ := a1 hz
    have hge := pge hz
    obtain ⟨I1, J1, t3, t4, t5, c1, c2⟩ := b7 _ _ none none none hst
    have ee : er r = (r.1, 0) := by unfold er; rw [hz]
    rw [ee]
    cases hs : isSgn g n 59 r.1
    · rw [tkS_n hs]
      have ff := f_two (L := L) (xs := xs) (d := d) (I0 := I0) (J0 := J0) (R := R) (Z := Z) (i0 := i0) (op := op1) (cp := cp1) hn (show (0 : Nat) ≤ 5 by decide) (b5 0 (Nat.le_refl _) (by decide) (by decide)) (b5 2 (by decide) (by decide) (by decide)) (b5 3 (by decide) (by decide) (by decide)) b4 (b6 (by decide)) (fun z => by omega) (fun _ => hs)
      obtain ⟨I2, J2, ⟨d1, d2, d3, d4, d5⟩, d6⟩ := ff I1 J1 t3 t4 t5 c1
      refine ⟨I2, J2, ⟨⟨d2, d3, d4, d5⟩, fun z => absurd z (by show 1 + 16 * bg g n _ ≠ 0; omega), fun _ => d1⟩, fun P => ?_⟩
      have e : decide (((r.1, 1 + 16 * bg g n r.1) : Rs).2 = 0) = false := decide_eq_false (by show 1 + 16 * bg g n _ ≠ 0; omega)
      rw [hent, c2, d6, e, bI_f]
    · rw [tkS_t hs]
      obtain ⟨I2, J2, d1, d2⟩ := s_end (L := L) (xs := xs) (d := d) (R := R) (Z := Z) (t3 := t3) (t4 := t4) (t5 := t5) hn hs c1
      refine ⟨I2, J2, ⟨d1.2.2.2.2.2, fun _ => ⟨d1.1, d1.2.1, d1.2.2.1⟩, fun z => absurd rfl z⟩, fun P => ?_⟩
      rw [hent, c2, d2]
      rfl
  · have et : tkS g n 59 (er r) = er r := tkS_f hz
    rw [et]
    obtain ⟨I2, J2, ⟨d1, d2, d3, d4, d5⟩, d6⟩ := a2 hz _ _ none none none hst
    refine ⟨I2, J2, ⟨⟨d2, d3, d4, d5⟩, fun z => absurd z hz, fun _ => d1⟩, fun P => ?_⟩
    have e : decide ((er r).2 = 0) = false := decide_eq_false hz
    rw [hent, d6, e, bI_f]
end M5
