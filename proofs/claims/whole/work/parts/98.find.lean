section FE
variable {f1 f2 f3 f4 cl ld : Nat → Int32} {r c o a b k l n N M B : Nat} {x y z up cn0 : Int32} {V : Vw}
theorem tb_ask : tb (rW f1 c (nI 1) (nI 1) &&& up) r = (decide (r < 5) && aup up f1 r c) := by
  rw [tb_and, tb_rW, inr_eq]
  unfold aup
  cases decide (r < 5) <;> cases tb up r <;> cases decide (f1 (8 * r + c) = nI 1) <;> rfl
theorem ask_0 (hN : N ≤ 5) (hc : c < 8) (hZ : okN N f1) : (ff N fun r => aup up f1 r c).isSome = true ↔ ¬ rW f1 c (nI 1) (nI 1) &&& up = nI 0 := by
  constructor
  · intro h h0
    cases hf : ff N fun r => aup up f1 r c with
    | none => rw [hf] at h; cases h
    | some j =>
      have hj := ff_some.mp hf
      have h2 : tb (rW f1 c (nI 1) (nI 1) &&& up) j = true := by
        rw [tb_ask]; simp only [show j < 5 by omega, decide_true, Bool.true_and]; exact hj.2.1
      rw [h0, tb_0] at h2; cases h2
  · intro h
    cases hf : ff N fun r => aup up f1 r c with
    | some j => rfl
    | none =>
      exfalso; apply h
      apply tb_ext
      intro k _
      rw [tb_0, tb_ask]
      by_cases h5 : k < 5
      · by_cases hk : k < N
        · rw [ff_none.mp hf k hk]; simp
        · unfold aup
          rw [hZ k c (by omega) h5 hc]
          have : ¬ nI 0 = nI 1 := by decide
          simp [this]
      · simp [h5]
theorem mxs_f {f : Nat → Int32} : ∀ {n : Nat}, mxs n (tb (nI 0)) f = nI 0
  | 0 => rfl
  | n + 1 => by rw [mxs_s, tb_0, mxs_f]; simp
theorem ors_f {f : Nat → Int32} {n : Nat} : ors n (tb (nI 0)) f = nI 0 := by
  apply tb_ext
  intro k _
  rw [Bool.eq_iff_iff, tb_ors, tb_0]
  exact ⟨fun ⟨i, _, h, _⟩ => (by rw [tb_0] at h; cases h), fun h => (by cases h)⟩
theorem mfd_eq (hN : N ≤ 5) (h8 : M ≤ 8) (hc : c < 8) (hl : l < 5) (hT : okT (V 1)) (hZ : okN N (V 1)) (hB : okB B (V 2)) (hBl : B < 2147483648) (hcl : ∀ o, tb (cl c) o = true → o < M) : mfd N M cl V l c = fnd N M (V 1) (V 2) (V 3) (V 4) (cl c) (V 0 1) l (V 0 0) c := by
  unfold mfd fnd
  rw [fdn_eq hN hc hT hZ, lat_eq hN hc hB hBl, alk_eq hN hl]
  cases ff 8 (tb (rW (V 1) c (nI 3) (nI 4) &&& V 0 0)) with
  | some t => rfl
  | none =>
    dsimp only
    cases abst N (V 0 0) (V 1) (V 2) c with
    | some t => rfl
    | none =>
      dsimp only
      cases alik N (V 0 0) (V 1) (V 3) (V 4) l c with
      | some t => rfl
      | none =>
        dsimp only
        have ha := ask_0 (up := V 0 0) hN hc hZ
        by_cases h0 : rW (V 1) c (nI 1) (nI 1) &&& V 0 0 = nI 0
        · rw [if_pos h0, if_neg (fun q => ha.mp q h0), mxs_f, ors_f]
        · rw [if_neg h0, if_pos (ha.mpr h0)]
          refine congrArg (fun q : Int32 × Int32 => (1, q)) ?_
          have hm : ∀ i, i < N → mmet M cl (V 1) (V 0 1) i c = met (V 1) (cl c) (V 0 1) i := fun i hi => mmet_eq h8 (by omega) hT hcl
          have hbd : ∀ i, i < N → bhd (V 3) 8 i (mmet M cl (V 1) (V 0 1) i c) = bhd (V 3) M i (met (V 1) (cl c) (V 0 1) i) := fun i hi => by
            rw [hm i hi]
            refine bhd_cut h8 (fun o ho => ?_)
            rw [tb_met] at ho
            have ho' : tb (cl c) o = true := by
              cases hq : tb (cl c) o
              · rw [hq] at ho; simp at ho
              · rfl
            exact hcl o ho'
          have hs1 : ∀ i, i < N → (tb (rW (V 1) c (nI 1) (nI 1) &&& V 0 0) i = true ↔ tb (V 0 0) i = true ∧ V 1 (8 * i + c) = nI 1) := fun i hi => by
            rw [tb_ask]; unfold aup
            simp [show i < 5 by omega]
          have hs2 : ∀ i, i < 5 → tb (rW (V 1) c (nI 1) (nI 1) &&& V 0 0) i = true → i < N := fun i hi q => by
            rw [tb_ask] at q; unfold aup at q
            by_cases hiN : i < N
            · exact hiN
            · rw [hZ i c (by omega) hi hc] at q
              have : ¬ nI 0 = nI 1 := by decide
              simp [this] at q
          refine Prod.ext ?_ ?_
          · refine eq_of_le fun z => ?_
            rw [tka_le]
            refine Iff.trans ?_ (cka_le (n := N) (am := V 0 0) (bh := fun r => bhd (V 3) M r (met (V 1) (cl c) (V 0 1) r)) (mt := fun r => met (V 1) (cl c) (V 0 1) r)).symm
            rw [mxs_le]
            constructor
            · rintro ⟨q0, q1⟩
              refine ⟨⟨q0, fun i hi hq => ?_⟩, fun i hi hq => ?_⟩
              · have hiN := hs2 i hi hq
                have := (hs1 i hiN).mp hq
                exact (q1 i hiN this.1).2 this.2
              · rw [← hbd i hi]; exact (q1 i hi hq).1
            · rintro ⟨⟨q0, q1⟩, q2⟩
              refine ⟨q0, fun i hi hq => ⟨?_, fun hq2 => ?_⟩⟩
              · rw [hbd i hi]; exact q2 i hi hq
              · exact q1 i (by omega) ((hs1 i hi).mpr ⟨hq, hq2⟩)
          · apply tb_ext
            intro k _
            rw [Bool.eq_iff_iff, tka_tb]
            refine Iff.trans ?_ (cka_tb (n := N) (am := V 0 0) (bh := fun r => bhd (V 3) M r (met (V 1) (cl c) (V 0 1) r)) (mt := fun r => met (V 1) (cl c) (V 0 1) r)).symm
            rw [tb_ors]
            constructor
            · rintro ⟨i, hi, q1, q2 | q2⟩
              · exact Or.inr ⟨i, hi, q1, by rw [← hm i hi]; exact q2⟩
              · exact Or.inl ⟨i, by omega, (hs1 i hi).mpr ⟨q1, q2.1⟩, q2.2⟩
            · rintro (⟨i, hi, q1, q2⟩ | ⟨i, hi, q1, q2⟩)
              · have hiN := hs2 i hi q1
                have := (hs1 i hiN).mp q1
                exact ⟨i, hiN, this.1, Or.inr ⟨this.2, q2⟩⟩
              · exact ⟨i, hi, q1, Or.inl (by rw [hm i hi]; exact q2)⟩
theorem tb_all : ∀ M, M < 9 → ∀ c, c < 32 → tb (sg M - nI 1) c = decide (c < M) := by decide +kernel
theorem rAll_tb (h8 : M ≤ 8) (hc : c < 32) : ∀ {n : Nat}, tb (rAll M n f1) c = true ↔ c < M ∧ ∀ r, r < n → f1 (8 * r + c) = nI 4
  | 0 => by
    show tb (sg M - nI 1) c = true ↔ _
    rw [tb_all M (by omega) c hc]
    simp
  | n + 1 => by
    have ih := rAll_tb h8 hc (n := n)
    show tb (rAll M n f1 &&& wSt M f1 n (nI 4) (nI 4)) c = true ↔ _
    rw [tb_and, Bool.and_eq_true, ih]
    unfold wSt
    rw [tb_bm (by omega), inr_eq]
    constructor
    · rintro ⟨⟨h1, h2⟩, h3⟩
      refine ⟨h1, fun r hr => ?_⟩
      by_cases hrn : r = n
      · subst hrn; simpa [h1] using h3
      · exact h2 r (by omega)
    · rintro ⟨h1, h2⟩
      exact ⟨⟨h1, fun r hr => h2 r (by omega)⟩, by simp [h1, h2 n (by omega)]⟩
theorem rW_all (hN : N ≤ 5) (hc : c < 8) (hZ : okN N f1) : rW f1 c (nI 4) (nI 4) = allR N ↔ ∀ r, r < N → f1 (8 * r + c) = nI 4 := by
  constructor
  · intro h r hr
    have h2 : tb (rW f1 c (nI 4) (nI 4)) r = true := by
      rw [h]; unfold allR; rw [tb_all N (by omega) r (by omega)]; simp [hr]
    rw [tb_rW, inr_eq] at h2
    simp at h2; exact h2.2
  · intro h
    apply tb_ext
    intro r hr
    unfold allR
    rw [tb_rW, inr_eq, tb_all N (by omega) r hr]
    by_cases h1 : r < N
    · simp [h1, h r h1, show r < 5 by omega]
    · by_cases h5 : r < 5
      · rw [hZ r c (by omega) h5 hc]
        have : ¬ nI 0 = nI 4 := by decide
        simp [h1, this]
      · simp [h1, h5]
theorem rev_cg {p p' q q' : Nat → Bool} : ∀ {k i : Nat} {a : Int32}, (∀ j, i ≤ j → j < i + k → p j = p' j ∧ q j = q' j) → rev p q i k a = rev p' q' i k a
  | 0, _, _, _ => rfl
  | k + 1, i, a, h => by
    rw [rev_s, rev_s, (h i (by omega) (by omega)).1, (h i (by omega) (by omega)).2, rev_cg (fun j h1 h2 => h j (by omega) (by omega)), rev_cg (a := a) (fun j h1 h2 => h j (by omega) (by omega))]
theorem lvl_cg {p p' q q' : Nat → Bool} : ∀ {k i : Nat} {a : Nat}, (∀ j, i ≤ j → j < i + k → p j = p' j ∧ q j = q' j) → lvl p q i k a = lvl p' q' i k a
  | 0, _, _, _ => rfl
  | k + 1, i, a, h => by
    rw [lvl_s, lvl_s, (h i (by omega) (by omega)).1, (h i (by omega) (by omega)).2, lvl_cg (fun j h1 h2 => h j (by omega) (by omega)), lvl_cg (a := a) (fun j h1 h2 => h j (by omega) (by omega))]
theorem rev_q (hN : N ≤ 5) (h8 : M ≤ 8) (hZ : okN N f1) {p : Nat → Bool} : rev p (fun c => tb (rAll M N f1) c) 0 M x = rev p (fun c => decide (rW f1 c (nI 4) (nI 4) = allR N)) 0 M x := by
  refine rev_cg fun j _ hj => ⟨rfl, ?_⟩
  rw [Bool.eq_iff_iff, rAll_tb h8 (by omega), decide_eq_true_eq, rW_all hN (by omega) hZ]
  exact ⟨fun h => h.2, fun h => ⟨by omega, h⟩⟩
theorem lvl_q (hN : N ≤ 5) (h8 : M ≤ 8) (hZ : okN N f1) {p : Nat → Bool} : lvl p (fun c => tb (rAll M N f1) c) 0 M a = lvl p (fun c => decide (rW f1 c (nI 4) (nI 4) = allR N)) 0 M a := by
  refine lvl_cg fun j _ hj => ⟨rfl, ?_⟩
  rw [Bool.eq_iff_iff, rAll_tb h8 (by omega), decide_eq_true_eq, rW_all hN (by omega) hZ]
  exact ⟨fun h => h.2, fun h => ⟨by omega, h⟩⟩
theorem clnd_q (hN : N ≤ 5) (h8 : M ≤ 8) (hZ : okN N f1) : lp (fun l a => a ||| rev (fun c => decide (ld c = nI l)) (fun c => tb (rAll M N f1) c) 0 M (nI 0)) N x = clnd M N ld f1 x := by
  unfold clnd
  exact lp_cg fun i _ s => by rw [rev_q hN h8 hZ]
theorem rev_ge {p q : Nat → Bool} : ∀ {k i : Nat}, i + k ≤ 32 → ∀ j, tb (rev p q i k (nI 0)) j = true → i ≤ j ∧ j < i + k
  | 0, i, _, j, h => by
    change tb (nI 0) j = true at h
    rw [tb_0] at h; cases h
  | k + 1, i, hb, j, h => by
    rw [rev_s] at h
    split at h
    · split at h
      · rw [rev_a, tb_or, tb_or, tb_0, Bool.or_eq_true] at h
        rcases h with h | h
        · rw [tb_sg (by omega)] at h; have : j = i := by simpa using h
          omega
        · have := rev_ge (by omega) j h; omega
      · rw [tb_0] at h; cases h
    · have := rev_ge (by omega) j h; omega
theorem cn_or {p q : Nat → Bool} (h : ∀ i, p i = true → q i = false) : ∀ n, cn n (fun i => p i || q i) = cn n p + cn n q
  | 0 => rfl
  | n + 1 => by
    have ih := cn_or h n
    rw [cn_s, cn_s, cn_s, ih]
    by_cases h1 : p n = true
    · have e1 : ¬ q n = true := by rw [h n h1]; simp
      have e2 : (p n || q n) = true := by rw [h1]; rfl
      rw [if_pos h1, if_neg e1, if_pos e2]; omega
    · by_cases h2 : q n = true
      · have e2 : (p n || q n) = true := by rw [h2]; simp
        rw [if_neg h1, if_pos h2, if_pos e2]; omega
      · have e2 : ¬ (p n || q n) = true := by simp [h1, h2]
        rw [if_neg h1, if_neg h2, if_neg e2]
theorem pcn_or (h : ∀ i, tb x i = true → tb y i = false) : pcn (x ||| y) = pcn x + pcn y := by
  unfold pcn
  rw [← cn_or h 8]
  exact cn_cg fun i _ => tb_or
theorem pcn_sg (h : c < 8) : pcn (sg c) = 1 := by
  have := pcn_set (x := nI 0) (y := sg c) h tb_0 (fun i => by rw [tb_0, tb_sg (by omega)]; rfl)
  rw [this]; rfl
theorem rev_pcn {p q : Nat → Bool} : ∀ {k i : Nat}, i + k ≤ 8 → pcn (rev p q i k (nI 0)) = lvl p q i k 0
  | 0, _, _ => show pcn (nI 0) = 0 by decide +kernel
  | k + 1, i, h => by
    rw [rev_s, lvl_s]
    split
    · split
      · rw [rev_a, lvl_a, pcn_or, rev_pcn (by omega)]
        · have : nI 0 ||| sg i = sg i := by apply tb_ext; intro j _; rw [tb_or, tb_0]; rfl
          rw [this, pcn_sg (by omega)]
        · intro j hj
          cases hq : tb (rev p q (i + 1) k (nI 0)) j
          · rfl
          · have := rev_ge (by omega) j hq
            rw [tb_or, tb_0, tb_sg (by omega)] at hj
            have : j = i := by simpa using hj
            omega
      · rfl
    · exact rev_pcn (by omega)
theorem pcn_sub (h : ∀ i, tb y i = true → tb x i = true) : nI (pcn x) - nI (pcn y) = nI (pcn (x &&& (y ^^^ (-1)))) := by
  have e : pcn x = pcn y + pcn (x &&& (y ^^^ (-1))) := by
    rw [← pcn_or]
    · congr 1
      apply tb_ext
      intro k hk
      rw [tb_or, tb_and, tb_nx hk]
      cases hy : tb y k
      · simp
      · rw [h k hy]; rfl
    · intro i hi
      rw [tb_and, tb_nx (tb_lt hi), hi]; simp
  have h1 := pcn_le (x := x)
  rw [pk_sub (by omega)]
  congr 1
  omega
theorem clnd_ge : ∀ i, tb x i = true → tb (clnd M N ld f1 x) i = true := by
  unfold clnd
  intro i hi
  suffices h : ∀ n, tb (lp (fun r a => a ||| rev (fun c => decide (ld c = nI r)) (fun c => decide (rW f1 c (nI 4) (nI 4) = allR N)) 0 M (nI 0)) n x) i = true from h N
  intro n
  induction n with
  | zero => exact hi
  | succ n ih =>
    show tb (lp _ n x ||| _) i = true
    rw [tb_or, ih]; rfl
theorem clnd_lt (h8 : M ≤ 8) (hx : ∀ i, tb x i = true → i < M) : ∀ i, tb (clnd M N ld f1 x) i = true → i < M := by
  unfold clnd
  intro i
  suffices h : ∀ n, tb (lp (fun r a => a ||| rev (fun c => decide (ld c = nI r)) (fun c => decide (rW f1 c (nI 4) (nI 4) = allR N)) 0 M (nI 0)) n x) i = true → i < M from h N
  intro n
  induction n with
  | zero => exact hx i
  | succ n ih =>
    intro h
    change tb (lp _ n x ||| _) i = true at h
    rw [tb_or, Bool.or_eq_true] at h
    rcases h with h | h
    · exact ih h
    · have := rev_ge (by omega) i h; omega
end FE
