section NP
variable {f1 f3 f4 : Nat → Int32} {r c o a b k n M : Nat} {x y : Int32}
theorem inr_eq : inr x y y = decide (x = y) := by
  unfold inr
  by_cases h : x = y
  · subst h; simp
  · by_cases h1 : x < y
    · simp [h, h1]
    · by_cases h2 : y < x
      · simp [h, h2]
      · exact absurd (Int32.le_antisymm (Int32.not_lt.mp h2) (Int32.not_lt.mp h1)) h
theorem tb_cAt {p q : Int32} : tb (cAt f1 r p q) c = (decide (c < 8) && inr (f1 (8 * r + c)) p q) := tb_bm (by decide)
theorem wSt_cAt {p q : Int32} (h8 : M ≤ 8) (h0 : inr (nI 0) p q = false) (hz : ∀ c, M ≤ c → c < 8 → f1 (8 * r + c) = nI 0) : wSt M f1 r p q = cAt f1 r p q := by
  apply tb_ext
  intro c _
  unfold wSt
  rw [tb_bm (by omega), tb_cAt]
  by_cases h1 : c < M
  · simp [h1, show c < 8 by omega]
  · by_cases h2 : c < 8
    · rw [hz c (by omega) h2, h0]; simp
    · simp [h1, h2]
/-- what is asked of the rows: behind the commands all is 0, and no DEPS reach there -/
def okD (M : Nat) (f1 f4 : Nat → Int32) (r : Nat) : Prop := (∀ c, M ≤ c → c < 8 → f1 (8 * r + c) = nI 0) ∧ ∀ c, c < 8 → ∀ o, tb (f4 (8 * r + c)) o = true → o < M
abbrev cm (f1 : Nat → Int32) (r c : Nat) : Prop := tb (cAt f1 r (nI 3) (nI 3)) c = true
abbrev rn (f1 : Nat → Int32) (r : Nat) : Int32 := cAt f1 r (nI 4) (nI 4)
theorem cm_iff : cm f1 r c ↔ c < 8 ∧ f1 (8 * r + c) = nI 3 := by
  unfold cm; rw [tb_cAt, inr_eq]; simp
theorem rn_iff : tb (rn f1 r) c = true ↔ c < 8 ∧ f1 (8 * r + c) = nI 4 := by
  unfold rn; rw [tb_cAt, inr_eq]; simp
theorem cm_rn (h : cm f1 r c) : tb (rn f1 r) c = false := by
  rw [Bool.eq_false_iff]; intro q
  rw [rn_iff] at q; rw [cm_iff] at h
  rw [h.2] at q
  exact absurd q.2 (by decide)
def f0 (f1 f4 : Nat → Int32) (r : Nat) : Nat → Int32 := lk0 (cAt f1 r (nI 3) (nI 3)) (rn f1 r) f4 r z0
theorem f0_tb (ho : o < 32) : tb (f0 f1 f4 r c) o = true ↔ cm f1 r c ∧ tb (f4 (8 * r + c)) o = true ∧ tb (rn f1 r) o = false := by
  unfold f0
  rw [lk0_can (f := z0) (fun _ _ => rfl)]
  by_cases hc : c < 8
  · simp only [hc, ↓reduceIte]
    by_cases h : tb (cAt f1 r (nI 3) (nI 3)) c = true
    · rw [if_pos h, tb_and, tb_nx ho, Bool.and_eq_true]
      simp only [Bool.not_eq_true']
      exact ⟨fun q => ⟨h, q⟩, fun q => q.2⟩
    · rw [if_neg h, tb_0]
      exact ⟨fun q => (by cases q), fun q => absurd q.1 h⟩
  · simp only [hc, ↓reduceIte, tb_0]
    constructor
    · intro q; cases q
    · rintro ⟨q, -⟩; rw [cm_iff] at q; exact absurd q.1 hc
theorem tb_lt {o : Nat} (h : tb x o = true) : o < 32 := by
  by_cases ho : o < 32
  · exact ho
  · rw [tb_ge (by omega)] at h; cases h
abbrev ww (f1 f4 : Nat → Int32) (r c o : Nat) : Prop := tb (lns f1 f4 r z0 c) o = true
theorem ww_E (hc : c < 8) (h : tb (f0 f1 f4 r c) o = true) : ww f1 f4 r c o := wsh_sub 8 (Nat.le_refl 8) hc h
theorem ww_t (ha : a < 8) (hc : c < 8) (h1 : ww f1 f4 r c a) (h2 : ww f1 f4 r a o) : ww f1 f4 r c o := wsh_trans 8 (Nat.le_refl 8) a c o ha hc h1 h2
theorem ww_l (T : Nat → Nat → Prop) (h0 : ∀ c o, c < 8 → tb (f0 f1 f4 r c) o = true → T c o) (ht : ∀ a b c, b < 8 → T a b → T b c → T a c) (hc : c < 8) (h : ww f1 f4 r c o) : T c o := wsh_least T h0 ht 8 (Nat.le_refl 8) c o hc h
theorem ww_cm (hc : c < 8) (h : ww f1 f4 r c o) : cm f1 r c := ww_l (fun c _ => cm f1 r c) (fun c o _ h => ((f0_tb (tb_lt h)).mp h).1) (fun a b c _ h _ => h) hc h
theorem ww_lt (hD : okD M f1 f4 r) (h8 : M ≤ 8) (hc : c < 8) (h : ww f1 f4 r c o) : o < 8 := ww_l (fun _ o => o < 8) (fun c o hc h => by have := hD.2 c hc o ((f0_tb (tb_lt h)).mp h).2.1; omega) (fun a b c _ _ h => h) hc h
/-- the model's rounds from one command -/
abbrev ll (f1 f4 : Nat → Int32) (r : Nat) (by_ : Int32) (c o : Nat) : Prop := tb (lsn f4 r by_ (rn f1 r) 8 (sg c)) o = true
theorem lea_eq (h8 : M ≤ 8) (hD : okD M f1 f4 r) {S by_ : Int32} : lea M f1 f4 r S by_ = lsn f4 r by_ (rn f1 r) 8 S := by
  unfold lea lsn lst1 rn
  rw [wSt_cAt h8 (by decide) hD.1]
section
variable {by_ : Int32}
theorem sg_ra (hc : c < 8) (h : tb (rn f1 r) c = false) : ∀ o, tb (sg c) o = true → tb (rn f1 r) o = false := by
  intro o ho; rw [tb_sg (by omega)] at ho; have : o = c := by simpa using ho
  rw [this]; exact h
theorem ll_self (hc : c < 8) (h : tb (rn f1 r) c = false) : ll f1 f4 r by_ c c := lsn_le (sg_ra hc h) (by rw [tb_sg (by omega)]; simp) 8
theorem ll_clo (hc : c < 8) (h : tb (rn f1 r) c = false) (ha : a < 8) (ho : o < 8) (h1 : ll f1 f4 r by_ c a) (h2 : tb by_ a = true) (h3 : tb (f4 (8 * r + a)) o = true) (h4 : tb (rn f1 r) o = false) : ll f1 f4 r by_ c o := lsn8_clo (sg_ra hc h) (o0 := c) (by rw [tb_sg (by omega)]; simp) hc a o ha ho h1 h2 h3 h4
theorem ll_least (X : Nat → Prop) (hc : c < 8) (h0 : X c) (hX : ∀ a o, a < 8 → o < 32 → X a → tb by_ a = true → tb (f4 (8 * r + a)) o = true → tb (rn f1 r) o = false → X o) (h : ll f1 f4 r by_ c o) : X o :=
  lsn_least X (fun q hq => by rw [tb_sg (by omega)] at hq; have : q = c := by simpa using hq
                              rw [this]; exact h0) hX 8 o h
end
theorem and_nx0 : x &&& (y ^^^ (-1)) = nI 0 ↔ ∀ o, tb x o = true → tb y o = true := by
  constructor
  · intro h o ho
    have ho' := tb_lt ho
    have h2 : tb (x &&& (y ^^^ (-1))) o = false := by rw [h, tb_0]
    rw [tb_and, tb_nx ho', ho] at h2
    simpa using h2
  · intro h
    apply tb_ext
    intro o ho
    rw [tb_and, tb_nx ho, tb_0]
    cases hx : tb x o
    · rfl
    · rw [h o hx]; rfl
theorem t255 (hc : c < 8) : tb (nI 255) c = true := t_255 c hc
def ofm (f1 f4 : Nat → Int32) (r c : Nat) : Prop := cm f1 r c ∧ ∀ o, ll f1 f4 r (nI 255) c o → cm f1 r o
theorem rnb_tb (h8 : M ≤ 8) (hD : okD M f1 f4 r) : tb (rnb M f1 f4 r) c = true ↔ ofm f1 f4 r c := by
  unfold rnb
  rw [tb_bm (by decide), wSt_cAt h8 (by decide) hD.1, lea_eq h8 hD]
  simp only [Bool.and_eq_true, decide_eq_true_eq, and_nx0]
  unfold ofm
  constructor
  · rintro ⟨h1, h2, h3⟩; exact ⟨h2, h3⟩
  · rintro ⟨h2, h3⟩; exact ⟨(cm_iff.mp h2).1, h2, h3⟩
/-- those that can be run lean on such alone -/
theorem ofm_ll (hD : okD M f1 f4 r) (h8 : M ≤ 8) (h : ofm f1 f4 r c) (ho : ll f1 f4 r (nI 255) c o) : ofm f1 f4 r o := by
  have hc := (cm_iff.mp h.1).1
  have hco := h.2 o ho
  have ho8 := (cm_iff.mp hco).1
  refine ⟨hco, fun q hq => h.2 q ?_⟩
  refine ll_least (fun q => ll f1 f4 r (nI 255) c q) ho8 ho ?_ hq
  intro a o' ha ho' h1 h2 h3 h4
  exact ll_clo hc (cm_rn h.1) ha (by have := hD.2 a ha o' h3; omega) h1 h2 h3 h4
theorem ofm_E (hD : okD M f1 f4 r) (h8 : M ≤ 8) (h : ofm f1 f4 r a) (h1 : tb (f4 (8 * r + a)) o = true) (h2 : tb (rn f1 r) o = false) : ofm f1 f4 r o := by
  have ha := (cm_iff.mp h.1).1
  exact ofm_ll hD h8 h (ll_clo ha (cm_rn h.1) ha (by have := hD.2 a ha o h1; omega) (ll_self ha (cm_rn h.1)) (t255 ha) h1 h2)
theorem ll_ww (hD : okD M f1 f4 r) (h8 : M ≤ 8) (h : ofm f1 f4 r c) : ll f1 f4 r (rnb M f1 f4 r) c o ↔ o = c ∨ ww f1 f4 r c o := by
  have hc := (cm_iff.mp h.1).1
  constructor
  · intro q
    refine ll_least (fun o => o = c ∨ ww f1 f4 r c o) hc (Or.inl rfl) ?_ q
    intro a o ha ho h1 h2 h3 h4
    rw [rnb_tb h8 hD] at h2
    have e := ww_E ha ((f0_tb ho).mpr ⟨h2.1, h3, h4⟩)
    rcases h1 with h1 | h1
    · subst h1; exact Or.inr e
    · exact Or.inr (ww_t ha hc h1 e)
  · rintro (q | q)
    · subst q; exact ll_self hc (cm_rn h.1)
    · have key := ww_l (fun a o => ll f1 f4 r (rnb M f1 f4 r) c a → ofm f1 f4 r a → ll f1 f4 r (rnb M f1 f4 r) c o ∧ ofm f1 f4 r o) (by
          intro a o ha he h1 h2
          have he' := (f0_tb (tb_lt he)).mp he
          exact ⟨ll_clo hc (cm_rn h.1) ha (by have := hD.2 a ha o he'.2.1; omega) h1 ((rnb_tb h8 hD).mpr h2) he'.2.1 he'.2.2, ofm_E hD h8 h2 he'.2.1 he'.2.2⟩) (by
          intro a b c' hb h1 h2 h3 h4
          exact h2 (h1 h3 h4).1 (h1 h3 h4).2) hc q
      exact (key (ll_self hc (cm_rn h.1)) h).1
theorem ofm_ww (hD : okD M f1 f4 r) (h8 : M ≤ 8) (h : ofm f1 f4 r c) (q : ww f1 f4 r c o) : ofm f1 f4 r o := by
  have hc := (cm_iff.mp h.1).1
  exact ww_l (fun a o => ofm f1 f4 r a → ofm f1 f4 r o) (fun a o ha he h2 => by
    have he' := (f0_tb (tb_lt he)).mp he
    exact ofm_E hD h8 h2 he'.2.1 he'.2.2) (fun a b c' hb h1 h2 h3 => h2 (h1 h3)) hc q h
theorem prt_tb {ln : Nat → Int32} (hc : c < 8) : tb (prt ln c) o = true ↔ o = c ∨ (o < 8 ∧ tb (ln c) o = true ∧ tb (ln o) c = true) := by
  unfold prt
  have := tb_lpo (S := sg c) (o := o) (p := fun o => tb (ln c) o && tb (ln o) c) (g := sg) (n := 8)
  rw [this, tb_sg (by omega)]
  constructor
  · rintro (h | ⟨i, h1, h2, h3⟩)
    · exact Or.inl (by simpa using h)
    · rw [tb_sg (by omega)] at h3
      have : o = i := by simpa using h3
      subst this
      rw [Bool.and_eq_true] at h2
      exact Or.inr ⟨h1, h2.1, h2.2⟩
  · rintro (h | ⟨h1, h2, h3⟩)
    · exact Or.inl (by simpa using h)
    · exact Or.inr ⟨o, h1, by simp [h2, h3], by rw [tb_sg (by omega)]; simp⟩
theorem mpt_prt (hD : okD M f1 f4 r) (h8 : M ≤ 8) (h : ofm f1 f4 r c) : mpt M f1 f4 r c (rnb M f1 f4 r) = prt (lns f1 f4 r z0) c := by
  have hc := (cm_iff.mp h.1).1
  apply tb_ext
  intro o _
  rw [Bool.eq_iff_iff, prt_tb hc]
  unfold mpt
  rw [tb_bm (by decide), lea_eq h8 hD, lea_eq h8 hD]
  simp only [Bool.and_eq_true, decide_eq_true_eq, tb_and]
  constructor
  · rintro ⟨h1, ⟨h2, h3⟩, h4⟩
    rw [rnb_tb h8 hD] at h3
    have h2' := (ll_ww hD h8 h).mp h2
    have h4' := (ll_ww hD h8 h3).mp h4
    rcases h2' with q | q
    · exact Or.inl q
    · rcases h4' with q' | q'
      · exact Or.inl q'.symm
      · exact Or.inr ⟨h1, q, q'⟩
  · rintro (h1 | ⟨h1, h2, h3⟩)
    · subst h1
      exact ⟨hc, ⟨(ll_ww hD h8 h).mpr (Or.inl rfl), (rnb_tb h8 hD).mpr h⟩, (ll_ww hD h8 h).mpr (Or.inl rfl)⟩
    · have ho := ofm_ww hD h8 h h2
      exact ⟨h1, ⟨(ll_ww hD h8 h).mpr (Or.inr h2), (rnb_tb h8 hD).mpr ho⟩, (ll_ww hD h8 ho).mpr (Or.inr h3)⟩
theorem free_iff (hD : okD M f1 f4 r) (h8 : M ≤ 8) (hc : c < 8) : (tb (rnb M f1 f4 r) c && decide (lea M f1 f4 r (sg c) (rnb M f1 f4 r) &&& (mpt M f1 f4 r c (rnb M f1 f4 r) ^^^ (-1)) = nI 0)) = free (cAt f1 r (nI 3) (nI 3)) (lns f1 f4 r z0) c := by
  rw [Bool.eq_iff_iff]
  unfold free
  simp only [Bool.and_eq_true, decide_eq_true_eq]
  constructor
  · rintro ⟨h1, h2⟩
    rw [rnb_tb h8 hD] at h1
    refine ⟨h1.1, ?_⟩
    rw [mpt_prt hD h8 h1, lea_eq h8 hD, and_nx0] at h2
    rw [and_nx0]
    intro o ho
    exact h2 o ((ll_ww hD h8 h1).mpr (Or.inr ho))
  · rintro ⟨h1, h2⟩
    rw [and_nx0] at h2
    have hcm : ∀ o, (o = c ∨ ww f1 f4 r c o) → cm f1 r o := by
      rintro o (q | q)
      · subst q; exact h1
      · have := (prt_tb hc).mp (h2 o q)
        rcases this with q' | ⟨q1, q2, q3⟩
        · subst q'; exact h1
        · exact ww_cm q1 q3
    have hof : ofm f1 f4 r c := by
      refine ⟨h1, fun o ho => hcm o ?_⟩
      refine ll_least (fun o => o = c ∨ ww f1 f4 r c o) hc (Or.inl rfl) ?_ ho
      intro a o ha ho h3 h4 h5 h6
      have e := ww_E ha ((f0_tb ho).mpr ⟨hcm a h3, h5, h6⟩)
      rcases h3 with h3 | h3
      · subst h3; exact Or.inr e
      · exact Or.inr (ww_t ha hc h3 e)
    refine ⟨(rnb_tb h8 hD).mpr hof, ?_⟩
    rw [mpt_prt hD h8 hof, lea_eq h8 hD, and_nx0]
    intro o ho
    rcases (ll_ww hD h8 hof).mp ho with q | q
    · subst q; exact (prt_tb hc).mpr (Or.inl rfl)
    · exact h2 o q
theorem lst_cg {p q : Nat → Bool} : ∀ {n : Nat}, (∀ i, i < n → p i = q i) → lst p f3 r n = lst q f3 r n
  | 0, _ => rfl
  | n + 1, h => by rw [lst_s, lst_s, lst_cg (fun i hi => h i (by omega)), h n (by omega)]
theorem lst_cut {p : Nat → Bool} : ∀ {k : Nat}, (∀ i, M ≤ i → i < M + k → p i = false) → lst p f3 r (M + k) = lst p f3 r M
  | 0, _ => rfl
  | k + 1, h => by
    show lst p f3 r (M + k + 1) = _
    rw [lst_s, h (M + k) (by omega) (by omega), lst_cut (fun i h1 h2 => h i h1 (by omega))]
    simp
theorem npt_eq (hD : okD M f1 f4 r) (h8 : M ≤ 8) : npt M f1 f3 f4 r = match lst (free (cAt f1 r (nI 3) (nI 3)) (lns f1 f4 r z0)) f3 r M with
    | none => nI 0
    | some c => prt (lns f1 f4 r z0) c := by
  unfold npt
  dsimp only
  have e : lst (tb (bm 8 fun c => tb (rnb M f1 f4 r) c && decide (lea M f1 f4 r (sg c) (rnb M f1 f4 r) &&& (mpt M f1 f4 r c (rnb M f1 f4 r) ^^^ (-1)) = nI 0))) f3 r 8 = lst (free (cAt f1 r (nI 3) (nI 3)) (lns f1 f4 r z0)) f3 r M := by
    rw [lst_cg (q := free (cAt f1 r (nI 3) (nI 3)) (lns f1 f4 r z0)) (fun i hi => by rw [tb_bm (by decide), free_iff hD h8 hi]; simp [hi])]
    have := lst_cut (p := free (cAt f1 r (nI 3) (nI 3)) (lns f1 f4 r z0)) (f3 := f3) (r := r) (M := M) (k := 8 - M) (by
      intro i h1 h2
      unfold free
      have : tb (cAt f1 r (nI 3) (nI 3)) i = false := by
        rw [tb_cAt, inr_eq, hD.1 i h1 (by omega)]
        have : ¬ nI 0 = nI 3 := by decide
        simp [this]
      rw [this]; rfl)
    rw [show M + (8 - M) = 8 by omega] at this
    exact this
  rw [e]
  cases hw : lst (free (cAt f1 r (nI 3) (nI 3)) (lns f1 f4 r z0)) f3 r M with
  | none => rfl
  | some c =>
    dsimp only
    have hcM := lst_lt hw
    have hfr : free (cAt f1 r (nI 3) (nI 3)) (lns f1 f4 r z0) c = true := by
      have key : ∀ n q, lst (free (cAt f1 r (nI 3) (nI 3)) (lns f1 f4 r z0)) f3 r n = some q → free (cAt f1 r (nI 3) (nI 3)) (lns f1 f4 r z0) q = true := by
        intro n
        induction n with
        | zero => intro q h; cases h
        | succ n ih =>
          intro q h
          rw [lst_s] at h
          split at h
          · rename_i hp
            unfold les at h
            split at h
            · cases h; exact hp
            · rename_i q' hq'
              split at h
              · cases h; exact hp
              · cases h; exact ih _ hq'
          · exact ih q h
      exact key M c hw
    rw [← free_iff hD h8 (by omega), Bool.and_eq_true] at hfr
    exact mpt_prt hD h8 ((rnb_tb h8 hD).mp hfr.1)
end NP
