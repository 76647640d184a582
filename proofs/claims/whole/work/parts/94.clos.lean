/-! WAYS: the class's Warshall and the model's rounds find the same -/
section CL
variable {f f4 f1 f3 : Nat → Int32} {r c o a b k n M : Nat} {x y S by_ : Int32}
theorem or_self32 : x ||| x = x := by apply tb_ext; intro j _; rw [tb_or]; simp
theorem ws1_eq (hc : c < 8) : ws1 b f c = if tb (f c) b = true then f c ||| f b else f c := by
  have key : ∀ n, n ≤ 8 → ∀ c, lp (fun c f => if tb (f c) b = true then upd f c (f c ||| f b) else f) n f c = if c < n ∧ tb (f c) b = true then f c ||| f b else f c := by
    intro n
    induction n with
    | zero => intro _ c; simp [lp]
    | succ n ih =>
      intro hn c
      show (if tb (lp _ n f n) b = true then upd (lp _ n f) n (lp _ n f n ||| lp _ n f b) else lp _ n f) c = _
      have hb : lp (fun c f => if tb (f c) b = true then upd f c (f c ||| f b) else f) n f b = f b := by
        rw [ih (by omega)]; split
        · exact or_self32
        · rfl
      have hn' : lp (fun c f => if tb (f c) b = true then upd f c (f c ||| f b) else f) n f n = f n := by
        rw [ih (by omega)]; simp
      rw [hn', hb]
      by_cases h1 : tb (f n) b = true
      · rw [if_pos h1]
        by_cases h2 : c = n
        · subst h2; rw [upd_eq, if_pos ⟨by omega, h1⟩]
        · rw [upd_ne h2, ih (by omega)]
          by_cases h3 : c < n
          · simp [h3, show c < n + 1 by omega]
          · simp [h3, show ¬ c < n + 1 by omega]
      · rw [if_neg h1, ih (by omega)]
        by_cases h2 : c = n
        · subst h2; simp [h1]
        · by_cases h3 : c < n
          · simp [h3, show c < n + 1 by omega]
          · simp [h3, show ¬ c < n + 1 by omega]
  have := key 8 (Nat.le_refl 8) c
  unfold ws1
  rw [this]
  simp [hc]
theorem ws1_tb (hc : c < 8) : tb (ws1 b f c) o = true ↔ tb (f c) o = true ∨ (tb (f c) b = true ∧ tb (f b) o = true) := by
  rw [ws1_eq hc]
  by_cases h : tb (f c) b = true
  · rw [if_pos h, tb_or, Bool.or_eq_true]; simp [h]
  · rw [if_neg h]; simp [h]
theorem wsh_sub : ∀ n, n ≤ 8 → c < 8 → tb (f c) o = true → tb (lp ws1 n f c) o = true
  | 0, _, _, h => h
  | n + 1, hn, hc, h => by
    show tb (ws1 n (lp ws1 n f) c) o = true
    rw [ws1_tb hc]; exact Or.inl (wsh_sub n (by omega) hc h)
theorem wsh_trans : ∀ n, n ≤ 8 → ∀ a c o, a < n → c < 8 → tb (lp ws1 n f c) a = true → tb (lp ws1 n f a) o = true → tb (lp ws1 n f c) o = true
  | 0, _, _, _, _, h, _, _, _ => by omega
  | n + 1, hn, a, c, o, ha, hc, h1, h2 => by
    have ih := wsh_trans n (by omega)
    change tb (ws1 n (lp ws1 n f) c) a = true at h1
    change tb (ws1 n (lp ws1 n f) a) o = true at h2
    show tb (ws1 n (lp ws1 n f) c) o = true
    rw [ws1_tb hc] at h1 ⊢
    rw [ws1_tb (by omega)] at h2
    by_cases han : a = n
    · subst han
      have h1' : tb (lp ws1 a f c) a = true := by
        rcases h1 with h1 | h1
        · exact h1
        · exact h1.1
      have h2' : tb (lp ws1 a f a) o = true := by
        rcases h2 with h2 | h2
        · exact h2
        · exact h2.2
      exact Or.inr ⟨h1', h2'⟩
    · have hl : a < n := by omega
      rcases h1 with h1 | ⟨h1, h1'⟩
      · rcases h2 with h2 | ⟨h2, h2'⟩
        · exact Or.inl (ih a c o hl hc h1 h2)
        · exact Or.inr ⟨ih a c n hl hc h1 h2, h2'⟩
      · rcases h2 with h2 | ⟨h2, h2'⟩
        · exact Or.inr ⟨h1, ih a n o hl (by omega) h1' h2⟩
        · exact Or.inr ⟨h1, h2'⟩
theorem wsh_least (T : Nat → Nat → Prop) (h0 : ∀ c o, c < 8 → tb (f c) o = true → T c o) (ht : ∀ a b c, b < 8 → T a b → T b c → T a c) : ∀ n, n ≤ 8 → ∀ c o, c < 8 → tb (lp ws1 n f c) o = true → T c o
  | 0, _, c, o, hc, h => h0 c o hc h
  | n + 1, hn, c, o, hc, h => by
    change tb (ws1 n (lp ws1 n f) c) o = true at h
    rw [ws1_tb hc] at h
    have ih := wsh_least T h0 ht n (by omega)
    rcases h with h | ⟨h1, h2⟩
    · exact ih c o hc h
    · exact ht c n o (by omega) (ih c n hc h1) (ih n o (by omega) h2)
/-- from S on, with more of those that are so -/
theorem tb_lpo {p : Nat → Bool} {g : Nat → Int32} : ∀ {n : Nat}, tb (lp (fun c a => if p c = true then a ||| g c else a) n S) o = true ↔ tb S o = true ∨ ∃ i, i < n ∧ p i = true ∧ tb (g i) o = true
  | 0 => by
    show tb S o = true ↔ _
    constructor
    · exact Or.inl
    · rintro (h | ⟨i, hi, -⟩)
      · exact h
      · omega
  | n + 1 => by
    have ih := tb_lpo (p := p) (g := g) (n := n)
    show tb (if p n = true then lp (fun c a => if p c = true then a ||| g c else a) n S ||| g n else lp (fun c a => if p c = true then a ||| g c else a) n S) o = true ↔ _
    by_cases hp : p n = true
    · rw [if_pos hp, tb_or, Bool.or_eq_true, ih]
      constructor
      · rintro ((h | ⟨i, a, b, c⟩) | c)
        · exact Or.inl h
        · exact Or.inr ⟨i, by omega, b, c⟩
        · exact Or.inr ⟨n, by omega, hp, c⟩
      · rintro (h | ⟨i, a, b, c⟩)
        · exact Or.inl (Or.inl h)
        · by_cases hi : i = n
          · subst hi; exact Or.inr c
          · exact Or.inl (Or.inr ⟨i, by omega, b, c⟩)
    · rw [if_neg hp, ih]
      constructor
      · rintro (h | ⟨i, a, b, c⟩)
        · exact Or.inl h
        · exact Or.inr ⟨i, by omega, b, c⟩
      · rintro (h | ⟨i, a, b, c⟩)
        · exact Or.inl h
        · by_cases hi : i = n
          · subst hi; exact absurd b hp
          · exact Or.inr ⟨i, by omega, b, c⟩
theorem cn_mono {p q : Nat → Bool} (h : ∀ i, p i = true → q i = true) : ∀ n, cn n p ≤ cn n q
  | 0 => Nat.le_refl 0
  | n + 1 => by
    have ih := cn_mono h n
    show (if p n = true then cn n p + 1 else cn n p) ≤ (if q n = true then cn n q + 1 else cn n q)
    by_cases h1 : p n = true
    · rw [if_pos h1, if_pos (h n h1)]; omega
    · rw [if_neg h1]; split <;> omega
theorem cn_lt {p q : Nat → Bool} (h : ∀ i, p i = true → q i = true) {i : Nat} (hq : q i = true) (hp : p i = false) : ∀ n, i < n → cn n p < cn n q
  | 0, hi => by omega
  | n + 1, hi => by
    show (if p n = true then cn n p + 1 else cn n p) < (if q n = true then cn n q + 1 else cn n q)
    by_cases hin : i = n
    · subst hin
      rw [if_neg (by simp [hp]), if_pos hq]
      have := cn_mono h i; omega
    · have ih := cn_lt h hq hp n (by omega)
      by_cases h1 : p n = true
      · rw [if_pos h1, if_pos (h n h1)]; omega
      · rw [if_neg h1]; split <;> omega
/-- a round of the model -/
def lst1 (f4 : Nat → Int32) (r : Nat) (by_ ra S : Int32) : Int32 := ln1 f4 r by_ S &&& (ra ^^^ (-1))
def lsn (f4 : Nat → Int32) (r : Nat) (by_ ra : Int32) (n : Nat) (S : Int32) : Int32 := lp (fun _ S => lst1 f4 r by_ ra S) n S
variable {ra : Int32}
theorem lst1_tb (ho : o < 32) : tb (lst1 f4 r by_ ra S) o = true ↔ (tb S o = true ∨ ∃ c, c < 8 ∧ (tb S c = true ∧ tb by_ c = true) ∧ tb (f4 (8 * r + c)) o = true) ∧ tb ra o = false := by
  unfold lst1 ln1
  rw [tb_and, Bool.and_eq_true, tb_lpo, tb_nx ho]
  simp only [tb_and, Bool.and_eq_true]
  cases tb ra o <;> simp
def clo (f4 : Nat → Int32) (r : Nat) (by_ ra S : Int32) : Prop := ∀ c o, c < 8 → o < 8 → tb S c = true → tb by_ c = true → tb (f4 (8 * r + c)) o = true → tb ra o = false → tb S o = true
theorem lsn_s : lsn f4 r by_ ra (n + 1) S = lst1 f4 r by_ ra (lsn f4 r by_ ra n S) := rfl
theorem lsn_ra (hS : ∀ o, tb S o = true → tb ra o = false) : ∀ n o, tb (lsn f4 r by_ ra n S) o = true → tb ra o = false
  | 0, o, h => hS o h
  | n + 1, o, h => by
    by_cases ho : o < 32
    · rw [lsn_s, lst1_tb ho] at h; exact h.2
    · rw [tb_ge (by omega)] at h; cases h
theorem lsn_mono (hS : ∀ o, tb S o = true → tb ra o = false) (h : tb (lsn f4 r by_ ra n S) o = true) : tb (lsn f4 r by_ ra (n + 1) S) o = true := by
  have ho : o < 32 := by
    by_cases ho : o < 32
    · exact ho
    · rw [tb_ge (by omega)] at h; cases h
  rw [lsn_s, lst1_tb ho]
  exact ⟨Or.inl h, lsn_ra hS n o h⟩
theorem lsn_le (hS : ∀ o, tb S o = true → tb ra o = false) (h : tb S o = true) : ∀ n, tb (lsn f4 r by_ ra n S) o = true
  | 0 => h
  | n + 1 => lsn_mono hS (lsn_le hS h n)
theorem lsn_clo (hS : ∀ o, tb S o = true → tb ra o = false) {o0 : Nat} (h0 : tb S o0 = true) (ho0 : o0 < 8) : ∀ n, clo f4 r by_ ra (lsn f4 r by_ ra n S) ∨ n + 1 ≤ pcn (lsn f4 r by_ ra n S)
  | 0 => by
    refine Or.inr ?_
    show 1 ≤ pcn S
    have := cn_lt (p := fun _ => false) (q := tb S) (fun i h => by cases h) h0 rfl 8 ho0
    unfold pcn; omega
  | n + 1 => by
    rcases lsn_clo hS h0 ho0 n with h | h
    · refine Or.inl ?_
      have e : ∀ o, o < 8 → (tb (lsn f4 r by_ ra (n + 1) S) o = true ↔ tb (lsn f4 r by_ ra n S) o = true) := by
        intro o ho
        refine ⟨fun q => ?_, fun q => lsn_mono hS q⟩
        rw [lsn_s, lst1_tb (by omega)] at q
        rcases q with ⟨q | ⟨c, hc, ⟨q1, q2⟩, q3⟩, q4⟩
        · exact q
        · exact h c o hc ho q1 q2 q3 q4
      intro c o hc ho h1 h2 h3 h4
      rw [e o ho]; rw [e c hc] at h1
      exact h c o hc ho h1 h2 h3 h4
    · by_cases hcl : clo f4 r by_ ra (lsn f4 r by_ ra n S)
      · refine Or.inl ?_
        have e : ∀ o, o < 8 → (tb (lsn f4 r by_ ra (n + 1) S) o = true ↔ tb (lsn f4 r by_ ra n S) o = true) := by
          intro o ho
          refine ⟨fun q => ?_, fun q => lsn_mono hS q⟩
          rw [lsn_s, lst1_tb (by omega)] at q
          rcases q with ⟨q | ⟨c, hc, ⟨q1, q2⟩, q3⟩, q4⟩
          · exact q
          · exact hcl c o hc ho q1 q2 q3 q4
        intro c o hc ho h1 h2 h3 h4
        rw [e o ho]; rw [e c hc] at h1
        exact hcl c o hc ho h1 h2 h3 h4
      · refine Or.inr ?_
        unfold clo at hcl
        have : ∃ c o, c < 8 ∧ o < 8 ∧ tb (lsn f4 r by_ ra n S) c = true ∧ tb by_ c = true ∧ tb (f4 (8 * r + c)) o = true ∧ tb ra o = false ∧ ¬ tb (lsn f4 r by_ ra n S) o = true := by
          apply Classical.byContradiction
          intro hne
          apply hcl
          intro c o h1 h2 h3 h4 h5 h6
          apply Classical.byContradiction
          intro h7
          exact hne ⟨c, o, h1, h2, h3, h4, h5, h6, h7⟩
        obtain ⟨c, o, h1, h2, h3, h4, h5, h6, h7⟩ := this
        have hq : tb (lsn f4 r by_ ra (n + 1) S) o = true := by
          rw [lsn_s, lst1_tb (by omega)]
          exact ⟨Or.inr ⟨c, h1, ⟨h3, h4⟩, h5⟩, h6⟩
        have := cn_lt (p := tb (lsn f4 r by_ ra n S)) (q := tb (lsn f4 r by_ ra (n + 1) S)) (fun i hi => lsn_mono hS hi) hq (by simpa using h7) 8 h2
        unfold pcn at h ⊢; omega
theorem lsn8_clo (hS : ∀ o, tb S o = true → tb ra o = false) {o0 : Nat} (h0 : tb S o0 = true) (ho0 : o0 < 8) : clo f4 r by_ ra (lsn f4 r by_ ra 8 S) := by
  rcases lsn_clo (f4 := f4) (r := r) (by_ := by_) hS h0 ho0 8 with h | h
  · exact h
  · have := pcn_le (x := lsn f4 r by_ ra 8 S); omega
theorem lsn_least (X : Nat → Prop) (h0 : ∀ o, tb S o = true → X o) (hX : ∀ c o, c < 8 → o < 32 → X c → tb by_ c = true → tb (f4 (8 * r + c)) o = true → tb ra o = false → X o) : ∀ n o, tb (lsn f4 r by_ ra n S) o = true → X o
  | 0, o, h => h0 o h
  | n + 1, o, h => by
    have ho : o < 32 := by
      by_cases ho : o < 32
      · exact ho
      · rw [tb_ge (by omega)] at h; cases h
    rw [lsn_s, lst1_tb ho] at h
    rcases h with ⟨q | ⟨c, hc, ⟨q1, q2⟩, q3⟩, q4⟩
    · exact lsn_least X h0 hX n o q
    · exact hX c o hc ho (lsn_least X h0 hX n c q1) q2 q3 q4
end CL
