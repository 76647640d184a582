/-! TOKENS: the signs g 0 .. g (n - 1) cut; b: where a token begins -/
def isSp (c : Nat) : Bool := decide (c = 32) || decide (c = 10)
def isL (c : Nat) : Bool := decide (97 ≤ c) && decide (c ≤ 122)
def isD (c : Nat) : Bool := decide (48 ≤ c) && decide (c ≤ 57)
def iSg (c : Nat) : Bool := (decide (40 ≤ c) && decide (c ≤ 43)) || (decide (c = 45) || (decide (59 ≤ c) && decide (c ≤ 61)))
def rnn (Q : Nat → Bool) (g : Nat → Nat) (n p : Nat) : Nat := match ffr (fun k => !Q (g k)) p (n - p) with
  | some j => j
  | none => n
def vbo (b o : Nat) (g : Nat → Nat) (p : Nat) : Nat → Nat
  | 0 => 0
  | k + 1 => vbo b o g p k * b + (g (p + k) - o)
def wlB (g : Nat → Nat) (n b : Nat) : Nat := rnn isL g n b - b
def dlB (g : Nat → Nat) (n b : Nat) : Nat := rnn isD g n b - b
def kdB (g : Nat → Nat) (n b : Nat) : Nat := if b = n then 0 else if isL (g b) = true then (if wlB g n b ≤ 8 then 1 else 4) else if isD (g b) = true then (if dlB g n b ≤ 4 then 2 else 4) else if iSg (g b) = true then 3 else 4
def nxB (g : Nat → Nat) (n b : Nat) : Nat := if b = n then n else if isL (g b) = true then rnn isL g n b else if isD (g b) = true then rnn isD g n b else b + 1
def qq (g : Nat → Nat) (n : Nat) : Nat → Nat
  | 0 => 0
  | i + 1 => nxB g n (rnn isSp g n (qq g n i))
def bg (g : Nat → Nat) (n i : Nat) : Nat := rnn isSp g n (qq g n i)
def kd (g : Nat → Nat) (n i : Nat) : Nat := kdB g n (bg g n i)
def vl (g : Nat → Nat) (n i : Nat) : Nat := vbo 10 48 g (bg g n i) (dlB g n (bg g n i))
def wl (g : Nat → Nat) (n i : Nat) : Nat := wlB g n (bg g n i)
section T1
variable {g h : Nat → Nat} {n p q k i b o m c : Nat} {Q : Nat → Bool}
theorem rnn_spec (hp : p ≤ n) : p ≤ rnn Q g n p ∧ rnn Q g n p ≤ n ∧ (∀ k, p ≤ k → k < rnn Q g n p → Q (g k) = true) ∧ (rnn Q g n p < n → Q (g (rnn Q g n p)) = false) := by
  unfold rnn
  cases hf : ffr (fun k => !Q (g k)) p (n - p) with
  | none =>
    rw [ffr_none] at hf
    dsimp only
    exact ⟨hp, Nat.le_refl _, fun k a b => by have := hf k a (by omega); simpa using this, fun z => absurd z (Nat.lt_irrefl _)⟩
  | some j =>
    rw [ffr_some] at hf
    obtain ⟨a, b, c, e⟩ := hf
    dsimp only
    exact ⟨a, by omega, fun k h1 h2 => by have := e k h1 h2; simpa using this, fun _ => by simpa using c⟩
theorem rnn_ge (hp : p ≤ n) : p ≤ rnn Q g n p := (rnn_spec hp).1
theorem rnn_le (hp : p ≤ n) : rnn Q g n p ≤ n := (rnn_spec hp).2.1
theorem rnn_in (hp : p ≤ n) (h1 : p ≤ k) (h2 : k < rnn Q g n p) : Q (g k) = true := (rnn_spec hp).2.2.1 k h1 h2
theorem rnn_at (hp : p ≤ n) (h1 : rnn Q g n p < n) : Q (g (rnn Q g n p)) = false := (rnn_spec hp).2.2.2 h1
theorem rnn_uq (h1 : p ≤ m) (h2 : m ≤ n) (h3 : ∀ k, p ≤ k → k < m → Q (g k) = true) (h4 : m < n → Q (g m) = false) : rnn Q g n p = m := by
  have hp : p ≤ n := by omega
  rcases Nat.lt_trichotomy (rnn Q g n p) m with h | h | h
  · have a := h3 _ (rnn_ge hp) h
    have b := rnn_at (Q := Q) (g := g) hp (by omega)
    rw [a] at b; cases b
  · exact h
  · have a := rnn_in hp h1 h
    have b := h4 (by have := rnn_le (Q := Q) (g := g) hp; omega)
    rw [a] at b; cases b
theorem rnn_gt (hp : p < n) (hq : Q (g p) = true) : p < rnn Q g n p := by
  rcases Nat.lt_or_ge p (rnn Q g n p) with h | h
  · exact h
  · have e : rnn Q g n p = p := by have := rnn_ge (Q := Q) (g := g) (n := n) (p := p) (by omega); omega
    have := rnn_at (Q := Q) (g := g) (n := n) (p := p) (by omega) (by omega)
    rw [e, hq] at this; cases this
theorem rnn_eq (hp : p < n) (hq : Q (g p) = false) : rnn Q g n p = p := rnn_uq (Nat.le_refl _) (by omega) (fun k a b => by omega) (fun _ => hq)
theorem rnn_s (hp : p < n) (hq : Q (g p) = true) : rnn Q g n (p + 1) = rnn Q g n p := by
  have h1 := rnn_gt hp hq
  exact rnn_uq (by omega) (rnn_le (by omega)) (fun k a b => rnn_in (p := p) (by omega) (by omega) b) (fun z => rnn_at (by omega) z)
theorem rnn_n : rnn Q g n n = n := rnn_uq (Nat.le_refl _) (Nat.le_refl _) (fun k a b => by omega) (fun z => by omega)
theorem nxB_le (hb : b ≤ n) : nxB g n b ≤ n := by
  unfold nxB
  split
  · exact Nat.le_refl _
  · split
    · exact rnn_le hb
    · split
      · exact rnn_le hb
      · omega
theorem nxB_gt (hb : b < n) : b < nxB g n b := by
  unfold nxB
  rw [if_neg (by omega)]
  split
  · exact rnn_gt hb (by assumption)
  · split
    · exact rnn_gt hb (by assumption)
    · omega
theorem qq_le : ∀ i, qq g n i ≤ n
  | 0 => Nat.zero_le _
  | i + 1 => nxB_le (rnn_le (qq_le i))
theorem bg_le : bg g n i ≤ n := rnn_le (qq_le i)
theorem qq_bg : qq g n i ≤ bg g n i := rnn_ge (qq_le i)
theorem qq_s : qq g n (i + 1) = nxB g n (bg g n i) := rfl
theorem kdB0 : kdB g n b = 0 ↔ b = n := by
  unfold kdB
  constructor
  · intro h
    split at h
    · assumption
    · split at h
      · split at h <;> cases h
      · split at h
        · split at h <;> cases h
        · split at h <;> cases h
  · intro h; rw [if_pos h]
theorem kd0 : kd g n i = 0 ↔ bg g n i = n := kdB0
theorem bg_lt (h : kd g n i ≠ 0) : bg g n i < n := by
  have := bg_le (g := g) (n := n) (i := i)
  have h2 : bg g n i ≠ n := fun z => h (kd0.mpr z)
  omega
theorem bg_s (h : kd g n i ≠ 0) : bg g n i < bg g n (i + 1) := by
  have h1 := nxB_gt (g := g) (bg_lt h)
  have h2 := qq_bg (g := g) (n := n) (i := i + 1)
  rw [qq_s] at h2
  omega
theorem bg_e (h : kd g n i = 0) : bg g n (i + 1) = n := by
  show rnn isSp g n (nxB g n (bg g n i)) = n
  rw [kd0.mp h]
  unfold nxB
  rw [if_pos rfl, rnn_n]
theorem kd_e (h : kd g n i = 0) : kd g n (i + 1) = 0 := kd0.mpr (bg_e h)
theorem kd_mono (h : kd g n (i + 1) ≠ 0) : kd g n i ≠ 0 := fun z => h (kd_e z)
theorem kd_mono2 (h : kd g n i ≠ 0) : ∀ {j}, j ≤ i → kd g n j ≠ 0 := by
  intro j hj
  induction i with
  | zero => rw [show j = 0 by omega]; exact h
  | succ i ih =>
    by_cases e : j = i + 1
    · rw [e]; exact h
    · exact ih (kd_mono h) (by omega)
theorem bg_ge : ∀ i, (∀ j, j < i → kd g n j ≠ 0) → i ≤ bg g n i
  | 0, _ => Nat.zero_le _
  | i + 1, h => by
    have h1 := bg_ge i (fun j hj => h j (by omega))
    have h2 := bg_s (h i (by omega))
    omega
theorem isL_lt (h : isL c = true) : 97 ≤ c ∧ c ≤ 122 := by unfold isL at h; simpa using h
theorem isD_lt (h : isD c = true) : 48 ≤ c ∧ c ≤ 57 := by unfold isD at h; simpa using h
/-- two words are one by 27 just when they are one by 32 -/
def ltr (g : Nat → Nat) (p k : Nat) : Prop := ∀ i, i < k → 97 ≤ g (p + i) ∧ g (p + i) ≤ 122
theorem ltr_s (h : ltr g p (k + 1)) : ltr g p k := fun i hi => h i (by omega)
theorem vbo_lt (hb : 27 ≤ b) : ∀ k, ltr g p k → vbo b 96 g p k < b ^ k
  | 0, _ => by show 0 < 1; omega
  | k + 1, h => by
    have h1 := vbo_lt hb k (ltr_s h)
    have h2 := h k (by omega)
    show vbo b 96 g p k * b + (g (p + k) - 96) < b ^ k * b
    have h3 : (vbo b 96 g p k + 1) * b ≤ b ^ k * b := Nat.mul_le_mul_right b h1
    rw [Nat.add_mul, Nat.one_mul] at h3
    omega
theorem vbo_inj (hb : 27 ≤ b) : ∀ k m, ltr g p k → ltr h q m → (vbo b 96 g p k = vbo b 96 h q m ↔ k = m ∧ ∀ i, i < k → g (p + i) = h (q + i))
  | 0, 0, _, _ => ⟨fun _ => ⟨rfl, fun i hi => by omega⟩, fun _ => rfl⟩
  | 0, m + 1, _, hm => by
    have h2 := hm m (by omega)
    constructor
    · intro e
      change 0 = vbo b 96 h q m * b + (h (q + m) - 96) at e
      omega
    · rintro ⟨e, -⟩; cases e
  | k + 1, 0, hk, _ => by
    have h2 := hk k (by omega)
    constructor
    · intro e
      change vbo b 96 g p k * b + (g (p + k) - 96) = 0 at e
      omega
    · rintro ⟨e, -⟩; cases e
  | k + 1, m + 1, hk, hm => by
    have ih := vbo_inj hb k m (ltr_s hk) (ltr_s hm)
    have h1 := hk k (by omega)
    have h2 := hm m (by omega)
    show vbo b 96 g p k * b + (g (p + k) - 96) = vbo b 96 h q m * b + (h (q + m) - 96) ↔ _
    constructor
    · intro e
      have e1 : g (p + k) - 96 = h (q + m) - 96 := by
        have := congrArg (· % b) e
        simp only [Nat.mul_add_mod_self_right] at this
        rwa [Nat.mod_eq_of_lt (by omega), Nat.mod_eq_of_lt (by omega)] at this
      have e2 : vbo b 96 g p k = vbo b 96 h q m := Nat.eq_of_mul_eq_mul_right (show 0 < b by omega) (by omega)
      obtain ⟨e3, e4⟩ := ih.mp e2
      refine ⟨by omega, fun i hi => ?_⟩
      by_cases hik : i = k
      · subst hik; rw [e3] at h1 e1 ⊢; omega
      · exact e4 i (by omega)
    · rintro ⟨e1, e2⟩
      have e3 : k = m := by omega
      rw [ih.mpr ⟨e3, fun i hi => e2 i (by omega)⟩]
      have := e2 k (by omega)
      rw [← e3]; omega
theorem vbo_eq (hk : ltr g p k) (hm : ltr h q m) : vbo 27 96 g p k = vbo 27 96 h q m ↔ vbo 32 96 g p k = vbo 32 96 h q m := (vbo_inj (by decide) k m hk hm).trans (vbo_inj (by decide) k m hk hm).symm
theorem vbo_40 (hk : ltr g p k) (h8 : k ≤ 8) : vbo 32 96 g p k < 2 ^ 40 := Nat.lt_of_lt_of_le (vbo_lt (by decide) k hk) (by
  have : (32 : Nat) ^ k ≤ 32 ^ 8 := Nat.pow_le_pow_right (by decide) h8
  exact this)
theorem vbo_39 (hk : ltr g p k) (h8 : k ≤ 8) : vbo 27 96 g p k < 2 ^ 40 := Nat.lt_of_lt_of_le (vbo_lt (by decide) k hk) (Nat.le_trans (Nat.pow_le_pow_right (by decide) h8) (by decide))
theorem lN_inj {a b : Nat} (ha : a < 2 ^ 40) (hb : b < 2 ^ 40) : lN a = lN b ↔ a = b := by
  constructor
  · intro h
    have h1 : (lN a).toBitVec.toNat = (lN b).toBitVec.toNat := by rw [h]
    change a % 2 ^ 64 = b % 2 ^ 64 at h1
    rwa [Nat.mod_eq_of_lt (by omega), Nat.mod_eq_of_lt (by omega)] at h1
  · intro h; rw [h]
theorem lNw (hk : ltr g p k) (h8 : k ≤ 8) (hm : ltr h q m) (hm8 : m ≤ 8) : (lN (vbo 27 96 g p k) = lN (vbo 27 96 h q m)) = (lN (vbo 32 96 g p k) = lN (vbo 32 96 h q m)) := propext ((lN_inj (vbo_39 hk h8) (vbo_39 hm hm8)).trans ((vbo_eq hk hm).trans (lN_inj (vbo_40 hk h8) (vbo_40 hm hm8)).symm))
theorem wl_ltr (hb : b ≤ n) : ltr g b (wlB g n b) := fun i hi => isL_lt (rnn_in (Q := isL) (g := g) (n := n) hb (by omega) (by unfold wlB at hi; omega))
theorem vbo_cg (hh : ∀ i, i < k → g (p + i) = h (q + i)) : vbo b o g p k = vbo b o h q k := by
  induction k with
  | zero => rfl
  | succ k ih =>
    show vbo b o g p k * b + (g (p + k) - o) = vbo b o h q k * b + (h (q + k) - o)
    rw [ih (fun i hi => hh i (by omega)), hh k (by omega)]
theorem vbo_10 (hh : ∀ i, i < k → 48 ≤ g (p + i) ∧ g (p + i) ≤ 57) : vbo 10 48 g p k < 10 ^ k := by
  induction k with
  | zero => show 0 < 1; omega
  | succ k ih =>
    have h1 := ih (fun i hi => hh i (by omega))
    have h2 := hh k (by omega)
    show vbo 10 48 g p k * 10 + (g (p + k) - 48) < 10 ^ k * 10
    omega
theorem vl_lt (h : kd g n i = 2) : vl g n i < 10000 := by
  unfold kd kdB at h
  split at h
  · cases h
  · split at h
    · split at h <;> cases h
    · split at h
      · split at h
        · rename_i h4
          have h1 : vl g n i < 10 ^ dlB g n (bg g n i) := vbo_10 (fun k hk => isD_lt (rnn_in (Q := isD) (g := g) (n := n) (p := bg g n i) bg_le (by omega) (by unfold dlB at hk; omega)))
          have h2 : 10 ^ dlB g n (bg g n i) ≤ 10 ^ 4 := Nat.pow_le_pow_right (by decide) h4
          have h3 : (10 : Nat) ^ 4 = 10000 := by decide
          omega
        · cases h
      · split at h <;> cases h
theorem kd1 (h : kd g n i = 1) : ltr g (bg g n i) (wl g n i) ∧ wl g n i ≤ 8 ∧ 0 < wl g n i := by
  unfold kd kdB at h
  split at h
  · cases h
  · split at h
    · split at h
      · rename_i h1 h2 h3
        refine ⟨wl_ltr bg_le, h3, ?_⟩
        have := rnn_gt (Q := isL) (g := g) (n := n) (p := bg g n i) (by have := bg_le (g := g) (n := n) (i := i); omega) h2
        unfold wl wlB; omega
      · cases h
    · split at h
      · split at h <;> cases h
      · split at h <;> cases h
end T1
