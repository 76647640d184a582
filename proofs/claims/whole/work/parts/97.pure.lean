section PU
variable {f1 f2 f3 f4 cl : Nat → Int32} {r c o a b k l n N M B : Nat} {x y z up cn0 : Int32}
theorem mxs_s {p : Nat → Bool} {f : Nat → Int32} : mxs (n + 1) p f = if p n = true then mx (mxs n p f) (f n) else mxs n p f := rfl
theorem mxs_cut {p : Nat → Bool} {f : Nat → Int32} : ∀ {k : Nat}, (∀ i, M ≤ i → i < M + k → p i = false) → mxs (M + k) p f = mxs M p f
  | 0, _ => rfl
  | k + 1, h => by
    show mxs (M + k + 1) p f = _
    rw [mxs_s, h (M + k) (by omega) (by omega), mxs_cut (fun i h1 h2 => h i h1 (by omega))]
    simp
theorem bhd_cut (h8 : M ≤ 8) (h : ∀ o, tb x o = true → o < M) : bhd f3 8 r x = bhd f3 M r x := by
  unfold bhd
  have := mxs_cut (p := tb x) (f := fun c => f3 (8 * r + c)) (M := M) (k := 8 - M) (fun i h1 h2 => by
    cases hq : tb x i
    · rfl
    · have := h i hq; omega)
  rw [show M + (8 - M) = 8 by omega] at this
  rw [this]
/-- statuses are 0 to 4 -/
def okT (f1 : Nat → Int32) : Prop := ∀ q, q < 40 → ∃ s, s ≤ 4 ∧ f1 q = nI s
theorem st14 : ∀ s, s < 5 → inr (nI s) (nI 1) (nI 4) = decide (nI 0 < nI s) := by decide +kernel
theorem st34 : ∀ s, s < 5 → inr (nI s) (nI 3) (nI 4) = decide (nI 3 ≤ nI s) := by decide +kernel
theorem tb_met : tb (met f1 x cn0 r) k = ((decide (k < 8) && inr (f1 (8 * r + k)) (nI 1) (nI 4)) && (tb x k && (decide (k < 32) && !tb cn0 k))) := by
  unfold met
  rw [tb_and, tb_and, tb_bm (by decide)]
  by_cases hk : k < 32
  · rw [tb_nx hk]; simp [hk, Bool.and_assoc]
  · rw [tb_ge (x := cn0 ^^^ (-1)) (by omega)]; simp [hk]
theorem mmet_eq (h8 : M ≤ 8) (hr : r < 5) (hT : okT f1) (hcl : ∀ o, tb (cl c) o = true → o < M) : mmet M cl f1 cn0 r c = met f1 (cl c) cn0 r := by
  apply tb_ext
  intro k hk
  rw [tb_met]
  unfold mmet
  rw [tb_bm (by omega)]
  cases h1 : tb (cl c) k
  · simp
  · have hkM := hcl k h1
    obtain ⟨s, hs, he⟩ := hT (8 * r + k) (by omega)
    rw [he, st14 s (by omega)]
    simp [hkM, show k < 8 by omega, hk]
theorem ff_cut {p : Nat → Bool} (hn : n ≤ M) (h : ∀ i, n ≤ i → i < M → p i = false) : ff M p = ff n p := by
  cases h1 : ff n p with
  | none =>
    rw [ff_none] at h1 ⊢
    intro m hm
    by_cases hmn : m < n
    · exact h1 m hmn
    · exact h m (by omega) hm
  | some j =>
    rw [ff_some] at h1 ⊢
    exact ⟨by omega, h1.2⟩
theorem tb_rW {p q : Int32} : tb (rW f1 c p q) r = (decide (r < 5) && inr (f1 (8 * r + c)) p q) := tb_bm (by decide)
/-- replicas that are not there know nothing -/
def okN (N : Nat) (f1 : Nat → Int32) : Prop := ∀ r c, N ≤ r → r < 5 → c < 8 → f1 (8 * r + c) = nI 0
theorem fdn_eq (hN : N ≤ 5) (hc : c < 8) (hT : okT f1) (hZ : okN N f1) : fdn N up f1 c = ff 8 (tb (rW f1 c (nI 3) (nI 4) &&& up)) := by
  rw [ff_cut (n := N) (M := 8) (by omega)]
  · unfold fdn
    apply ff_cg
    intro r hr
    obtain ⟨s, hs, he⟩ := hT (8 * r + c) (by omega)
    rw [tb_and, tb_rW, he, st34 s (by omega)]
    simp only [show r < 5 by omega, decide_true, Bool.true_and]
    rw [Bool.and_comm]
  · intro i h1 h2
    rw [tb_and, tb_rW]
    by_cases h5 : i < 5
    · rw [hZ i c h1 h5 hc]
      have : inr (nI 0) (nI 3) (nI 4) = false := by decide
      rw [this]; simp
    · simp [h5]
/-- ballots, SEQs are small -/
def okB (B : Nat) (f : Nat → Int32) : Prop := ∀ q, q < 40 → ∃ b, b ≤ B ∧ f q = nI b
theorem lat_eq (hN : N ≤ 5) (hc : c < 8) (hB : okB B f2) (hBl : B < 2147483648) : (lat (tb (rW f1 c (nI 2) (nI 2) &&& up)) (fun r => f2 (8 * r + c)) N).1 = abst N up f1 f2 c := by
  have key : ∀ n, n ≤ 5 → lat (tb (rW f1 c (nI 2) (nI 2) &&& up)) (fun r => f2 (8 * r + c)) n = (abst n up f1 f2 c, match abst n up f1 f2 c with
      | none => -1
      | some q => f2 (8 * q + c)) := by
    intro n
    induction n with
    | zero => intro _; rfl
    | succ n ih =>
      intro hn
      show (if (tb (rW f1 c (nI 2) (nI 2) &&& up) n && decide ((lat (tb (rW f1 c (nI 2) (nI 2) &&& up)) (fun r => f2 (8 * r + c)) n).2 < f2 (8 * n + c))) = true then (some n, f2 (8 * n + c)) else lat (tb (rW f1 c (nI 2) (nI 2) &&& up)) (fun r => f2 (8 * r + c)) n) = _
      rw [ih (by omega), abst_s]
      have e : (tb (rW f1 c (nI 2) (nI 2) &&& up) n && decide ((match abst n up f1 f2 c with
          | none => (-1 : Int32)
          | some q => f2 (8 * q + c)) < f2 (8 * n + c))) = abc up f1 f2 c n (abst n up f1 f2 c) := by
        unfold abc
        rw [tb_and, tb_rW, inr_eq]
        simp only [show n < 5 by omega, decide_true, Bool.true_and]
        cases hq : abst n up f1 f2 c with
        | none =>
          obtain ⟨b, hb, he⟩ := hB (8 * n + c) (by omega)
          have : (-1 : Int32) < f2 (8 * n + c) := by
            rw [he]
            refine Int32.lt_iff_toInt_lt.mpr ?_
            rw [nI_toInt (by omega)]
            have h9 : (-1 : Int32).toInt = -1 := by decide
            omega
          simp only [this, decide_true, Bool.and_true]
          rw [Bool.and_comm]
        | some q =>
          dsimp only
          cases tb up n <;> cases decide (f1 (8 * n + c) = nI 2) <;> simp
      dsimp only
      rw [e]
      split
      · rfl
      · rfl
  rw [key N hN]
theorem sameAt_c : sameAt f3 f4 a b = sameAt f3 f4 b a := by
  unfold sameAt
  rw [show decide (f3 a = f3 b) = decide (f3 b = f3 a) from decide_eq_decide.mpr eq_comm, show decide (f4 a = f4 b) = decide (f4 b = f4 a) from decide_eq_decide.mpr eq_comm]
theorem alk_eq (hN : N ≤ 5) (hl : l < 5) : alk f3 f4 N c ((rW f1 c (nI 1) (nI 1) &&& up) &&& (sg l ^^^ (-1))) = alik N up f1 f3 f4 l c := by
  have e : ∀ i, i < N → tb ((rW f1 c (nI 1) (nI 1) &&& up) &&& (sg l ^^^ (-1))) i = (decide (i ≠ l) && aup up f1 i c) := by
    intro i hi
    rw [tb_and, tb_and, tb_rW, inr_eq, tb_nx (by omega), tb_sg (by omega)]
    unfold aup
    simp only [show i < 5 by omega, decide_true, Bool.true_and]
    by_cases h : i = l
    · simp [h]
    · cases tb up i <;> cases decide (f1 (8 * i + c) = nI 1) <;> simp [h]
  unfold alk alik
  apply ff_cg
  intro i hi
  rw [e i hi, cn_cg (q := fun o => decide (o ≠ l) && (aup up f1 o c && sameAt f3 f4 (8 * o + c) (8 * i + c))) (fun o ho => by rw [e o ho, Bool.and_assoc, sameAt_c])]
  rw [Bool.and_assoc]
theorem mx_le : mx x y ≤ z ↔ x ≤ z ∧ y ≤ z := by
  unfold mx
  split
  · rename_i h
    exact ⟨fun q => ⟨Int32.le_trans (Int32.le_of_lt h) q, q⟩, fun q => q.2⟩
  · rename_i h
    exact ⟨fun q => ⟨q, Int32.le_trans (Int32.not_lt.mp h) q⟩, fun q => q.1⟩
theorem mxs_le {p : Nat → Bool} {f : Nat → Int32} : ∀ {n : Nat}, mxs n p f ≤ z ↔ nI 0 ≤ z ∧ ∀ i, i < n → p i = true → f i ≤ z
  | 0 => ⟨fun h => ⟨h, fun i hi => by omega⟩, fun h => h.1⟩
  | n + 1 => by
    have ih := mxs_le (p := p) (f := f) (n := n)
    rw [mxs_s]
    by_cases hp : p n = true
    · rw [if_pos hp, mx_le, ih]
      constructor
      · rintro ⟨⟨h0, h1⟩, h2⟩
        refine ⟨h0, fun i hi hpi => ?_⟩
        by_cases hin : i = n
        · subst hin; exact h2
        · exact h1 i (by omega) hpi
      · rintro ⟨h0, h1⟩
        exact ⟨⟨h0, fun i hi => h1 i (by omega)⟩, h1 n (by omega) hp⟩
    · rw [if_neg hp, ih]
      constructor
      · rintro ⟨h0, h1⟩
        refine ⟨h0, fun i hi hpi => ?_⟩
        by_cases hin : i = n
        · subst hin; exact absurd hpi hp
        · exact h1 i (by omega) hpi
      · rintro ⟨h0, h1⟩
        exact ⟨h0, fun i hi => h1 i (by omega)⟩
theorem eq_of_le (h : ∀ z, x ≤ z ↔ y ≤ z) : x = y := Int32.le_antisymm ((h y).mpr (Int32.le_refl y)) ((h x).mp (Int32.le_refl x))
/-- the class's way to add up what all would lean on -/
def cka (N : Nat) (am : Int32) (q0 : Int32 × Int32) (bh mt : Nat → Int32) : Int32 × Int32 := lp (fun r q => if tb am r = true then (mx q.1 (bh r), q.2 ||| mt r) else q) N q0
theorem cka_le {am : Int32} {q0 : Int32 × Int32} {bh mt : Nat → Int32} : ∀ {n : Nat}, (cka n am q0 bh mt).1 ≤ z ↔ q0.1 ≤ z ∧ ∀ i, i < n → tb am i = true → bh i ≤ z
  | 0 => ⟨fun h => ⟨h, fun i hi => by omega⟩, fun h => h.1⟩
  | n + 1 => by
    have ih := cka_le (am := am) (q0 := q0) (bh := bh) (mt := mt) (n := n)
    show (if tb am n = true then (mx (cka n am q0 bh mt).1 (bh n), (cka n am q0 bh mt).2 ||| mt n) else cka n am q0 bh mt).1 ≤ z ↔ _
    by_cases hp : tb am n = true
    · rw [if_pos hp, mx_le, ih]
      constructor
      · rintro ⟨⟨h0, h1⟩, h2⟩
        refine ⟨h0, fun i hi hpi => ?_⟩
        by_cases hin : i = n
        · subst hin; exact h2
        · exact h1 i (by omega) hpi
      · rintro ⟨h0, h1⟩
        exact ⟨⟨h0, fun i hi => h1 i (by omega)⟩, h1 n (by omega) hp⟩
    · rw [if_neg hp, ih]
      constructor
      · rintro ⟨h0, h1⟩
        refine ⟨h0, fun i hi hpi => ?_⟩
        by_cases hin : i = n
        · subst hin; exact absurd hpi hp
        · exact h1 i (by omega) hpi
      · rintro ⟨h0, h1⟩
        exact ⟨h0, fun i hi => h1 i (by omega)⟩
theorem cka_tb {am : Int32} {q0 : Int32 × Int32} {bh mt : Nat → Int32} : ∀ {n : Nat}, tb (cka n am q0 bh mt).2 k = true ↔ tb q0.2 k = true ∨ ∃ i, i < n ∧ tb am i = true ∧ tb (mt i) k = true
  | 0 => ⟨fun h => Or.inl h, fun h => by rcases h with h | ⟨i, hi, -⟩; exact h; omega⟩
  | n + 1 => by
    have ih := cka_tb (am := am) (q0 := q0) (bh := bh) (mt := mt) (n := n)
    show tb (if tb am n = true then (mx (cka n am q0 bh mt).1 (bh n), (cka n am q0 bh mt).2 ||| mt n) else cka n am q0 bh mt).2 k = true ↔ _
    by_cases hp : tb am n = true
    · rw [if_pos hp, tb_or, Bool.or_eq_true, ih]
      constructor
      · rintro ((h | ⟨i, a, b, c⟩) | c)
        · exact Or.inl h
        · exact Or.inr ⟨i, by omega, b, c⟩
        · exact Or.inr ⟨n, by omega, hp, c⟩
      · rintro (h | ⟨i, a, b, c⟩)
        · exact Or.inl (Or.inl h)
        · by_cases hi : i = n
          · subst hi; exact Or.inr c
          · exact Or.inl (Or.inr ⟨i, by omega, b, c⟩)
    · rw [if_neg hp, ih]
      constructor
      · rintro (h | ⟨i, a, b, c⟩)
        · exact Or.inl h
        · exact Or.inr ⟨i, by omega, b, c⟩
      · rintro (h | ⟨i, a, b, c⟩)
        · exact Or.inl h
        · by_cases hi : i = n
          · subst hi; exact absurd b hp
          · exact Or.inr ⟨i, by omega, b, c⟩
theorem tka_s : tka (n + 1) M cl f1 f3 f4 up cn0 c = if tb up n = true then (if f1 (8 * n + c) = nI 1 then (mx (mx (tka n M cl f1 f3 f4 up cn0 c).1 (bhd f3 8 n (mmet M cl f1 cn0 n c))) (f3 (8 * n + c)), ((tka n M cl f1 f3 f4 up cn0 c).2 ||| mmet M cl f1 cn0 n c) ||| f4 (8 * n + c)) else (mx (tka n M cl f1 f3 f4 up cn0 c).1 (bhd f3 8 n (mmet M cl f1 cn0 n c)), (tka n M cl f1 f3 f4 up cn0 c).2 ||| mmet M cl f1 cn0 n c)) else tka n M cl f1 f3 f4 up cn0 c := rfl
theorem tka_le : ∀ {n : Nat}, (tka n M cl f1 f3 f4 up cn0 c).1 ≤ z ↔ nI 0 ≤ z ∧ ∀ i, i < n → tb up i = true → bhd f3 8 i (mmet M cl f1 cn0 i c) ≤ z ∧ (f1 (8 * i + c) = nI 1 → f3 (8 * i + c) ≤ z)
  | 0 => ⟨fun h => ⟨h, fun i hi => by omega⟩, fun h => h.1⟩
  | n + 1 => by
    have ih := tka_le (n := n)
    rw [tka_s]
    by_cases hp : tb up n = true
    · rw [if_pos hp]
      by_cases h1 : f1 (8 * n + c) = nI 1
      · rw [if_pos h1, mx_le, mx_le, ih]
        constructor
        · rintro ⟨⟨⟨h0, h2⟩, h3⟩, h4⟩
          refine ⟨h0, fun i hi hpi => ?_⟩
          by_cases hin : i = n
          · subst hin; exact ⟨h3, fun _ => h4⟩
          · exact h2 i (by omega) hpi
        · rintro ⟨h0, h2⟩
          exact ⟨⟨⟨h0, fun i hi => h2 i (by omega)⟩, (h2 n (by omega) hp).1⟩, (h2 n (by omega) hp).2 h1⟩
      · rw [if_neg h1, mx_le, ih]
        constructor
        · rintro ⟨⟨h0, h2⟩, h3⟩
          refine ⟨h0, fun i hi hpi => ?_⟩
          by_cases hin : i = n
          · subst hin; exact ⟨h3, fun q => absurd q h1⟩
          · exact h2 i (by omega) hpi
        · rintro ⟨h0, h2⟩
          exact ⟨⟨h0, fun i hi => h2 i (by omega)⟩, (h2 n (by omega) hp).1⟩
    · rw [if_neg hp, ih]
      constructor
      · rintro ⟨h0, h2⟩
        refine ⟨h0, fun i hi hpi => ?_⟩
        by_cases hin : i = n
        · subst hin; exact absurd hpi hp
        · exact h2 i (by omega) hpi
      · rintro ⟨h0, h2⟩
        exact ⟨h0, fun i hi => h2 i (by omega)⟩
theorem tka_tb : ∀ {n : Nat}, tb (tka n M cl f1 f3 f4 up cn0 c).2 k = true ↔ ∃ i, i < n ∧ tb up i = true ∧ (tb (mmet M cl f1 cn0 i c) k = true ∨ (f1 (8 * i + c) = nI 1 ∧ tb (f4 (8 * i + c)) k = true))
  | 0 => by
    show tb (nI 0) k = true ↔ _
    rw [tb_0]
    exact ⟨fun h => (by cases h), fun ⟨i, hi, _⟩ => by omega⟩
  | n + 1 => by
    have ih := tka_tb (n := n)
    rw [tka_s]
    by_cases hp : tb up n = true
    · rw [if_pos hp]
      by_cases h1 : f1 (8 * n + c) = nI 1
      · rw [if_pos h1, tb_or, tb_or, Bool.or_eq_true, Bool.or_eq_true, ih]
        constructor
        · rintro ((⟨i, a, b, c⟩ | q) | q)
          · exact ⟨i, by omega, b, c⟩
          · exact ⟨n, by omega, hp, Or.inl q⟩
          · exact ⟨n, by omega, hp, Or.inr ⟨h1, q⟩⟩
        · rintro ⟨i, a, b, c⟩
          by_cases hi : i = n
          · subst hi
            rcases c with c | c
            · exact Or.inl (Or.inr c)
            · exact Or.inr c.2
          · exact Or.inl (Or.inl ⟨i, by omega, b, c⟩)
      · rw [if_neg h1, tb_or, Bool.or_eq_true, ih]
        constructor
        · rintro (⟨i, a, b, c⟩ | q)
          · exact ⟨i, by omega, b, c⟩
          · exact ⟨n, by omega, hp, Or.inl q⟩
        · rintro ⟨i, a, b, c⟩
          by_cases hi : i = n
          · subst hi
            rcases c with c | c
            · exact Or.inr c
            · exact absurd c.1 h1
          · exact Or.inl ⟨i, by omega, b, c⟩
    · rw [if_neg hp, ih]
      constructor
      · rintro ⟨i, a, b, c⟩
        exact ⟨i, by omega, b, c⟩
      · rintro ⟨i, a, b, c⟩
        by_cases hi : i = n
        · subst hi; exact absurd b hp
        · exact ⟨i, by omega, b, c⟩
end PU
