/-! WORDS OF THE WALKS: numbers, bits, loops -/
theorem ip_inN {k n : Nat} (h : k < n) (hn : n < 2 ^ 31) : ip_in (nI k) n = true := by
  unfold ip_in; rw [nI_clamp (by omega)]; simp [nI_pos' (show k < 2 ^ 31 by omega), h]
def bI (b : Bool) : Int32 := if b = true then nI 1 else nI 0
theorem bI_t : bI true = nI 1 := rfl
theorem bI_f : bI false = nI 0 := rfl
theorem bI0 {b : Bool} : (bI b = nI 0) = (b = false) := by cases b <;> decide
theorem bI1 {b : Bool} : (bI b = nI 1) = (b = true) := by cases b <;> decide
theorem bo_bI {b : Bool} : (bo (bI b) = true) = True := by cases b <;> decide
theorem bo_1 : (bo (nI 1) = true) = True := by decide
theorem bo_0 : (bo (nI 0) = true) = True := by decide
theorem eq10 : (nI 1 = nI 0) = False := by decide
theorem eq00 : (nI 0 = nI 0) = True := by decide
theorem ne1 (x : Int32) : (-1 : Int32) = -1 := rfl
def tb (x : Int32) (k : Nat) : Bool := x.toBitVec.getLsbD k
def sg (k : Nat) : Int32 := nI 1 <<< nI k
theorem and31 : ∀ k, k < 32 → nI k &&& nI 31 = nI k := by decide +kernel
theorem smod32 : ∀ k, k < 32 → ((nI k).toBitVec.smod 32).toNat = k := by decide +kernel
theorem shr_bv {x : Int32} {k : Nat} (hk : k < 32) : (x >>> nI k).toBitVec = x.toBitVec.sshiftRight k := by
  show x.toBitVec.sshiftRight ((nI k).toBitVec.smod 32).toNat = _
  rw [smod32 k hk]
theorem shl_bv {x : Int32} {k : Nat} (hk : k < 32) : (x <<< nI k).toBitVec = x.toBitVec <<< k := by
  show x.toBitVec <<< ((nI k).toBitVec.smod 32).toNat = _
  rw [smod32 k hk]
theorem tb_or {x y : Int32} {k : Nat} : tb (x ||| y) k = (tb x k || tb y k) := by
  show (x.toBitVec ||| y.toBitVec).getLsbD k = _; rw [BitVec.getLsbD_or]; rfl
theorem tb_and {x y : Int32} {k : Nat} : tb (x &&& y) k = (tb x k && tb y k) := by
  show (x.toBitVec &&& y.toBitVec).getLsbD k = _; rw [BitVec.getLsbD_and]; rfl
theorem tb_xor {x y : Int32} {k : Nat} : tb (x ^^^ y) k = (tb x k ^^ tb y k) := by
  show (x.toBitVec ^^^ y.toBitVec).getLsbD k = _; rw [BitVec.getLsbD_xor]; rfl
theorem tb_0 {k : Nat} : tb (nI 0) k = false := by
  show (0#32).getLsbD k = false; simp
theorem tb_ge {x : Int32} {k : Nat} (hk : 32 ≤ k) : tb x k = false := BitVec.getLsbD_of_ge _ _ hk
/-- all bits turned, as 'x ^ -1' does -/
theorem tb_nx {x : Int32} {k : Nat} (hk : k < 32) : tb (x ^^^ (-1)) k = !(tb x k) := by
  rw [tb_xor]
  have : tb (-1) k = true := by
    show (-1#32 : BitVec 32).getLsbD k = true
    have h : ∀ k, k < 32 → (-1#32 : BitVec 32).getLsbD k = true := by decide +kernel
    exact h k hk
  rw [this]; simp
theorem tb_sg {j k : Nat} (hj : j < 32) : tb (sg j) k = decide (k = j) := by
  unfold tb sg
  rw [shl_bv hj, BitVec.getLsbD_shiftLeft]
  show (decide (k < 32) && !decide (k < j) && (1#32).getLsbD (k - j)) = _
  rw [BitVec.getLsbD_one]
  by_cases h : k = j
  · subst h; simp [hj]
  · by_cases h2 : k < j
    · simp [h2, h]
    · have : ¬ k - j = 0 := by omega
      simp [h, this]
theorem tb_ext {x y : Int32} (h : ∀ k, k < 32 → tb x k = tb y k) : x = y := by
  have : x.toBitVec = y.toBitVec := BitVec.eq_of_getLsbD_eq h
  exact Int32.toBitVec_inj.mp this
theorem tb_shr1 {x : Int32} {k : Nat} (hk : k < 32) : (x >>> (nI k &&& nI 31)) &&& nI 1 = bI (tb x k) := by
  rw [and31 k hk]
  apply tb_ext
  intro j hj
  rw [tb_and]
  have h1 : ∀ j, j < 32 → tb (nI 1) j = decide (j = 0) := by decide +kernel
  rw [h1 j hj]
  show ((x >>> nI k).toBitVec.getLsbD j && decide (j = 0)) = _
  rw [shr_bv hk, BitVec.getLsbD_sshiftRight]
  by_cases h0 : j = 0
  · subst h0
    cases hb : tb x k with
    | true => rw [if_pos (by omega), Nat.add_zero, show x.toBitVec.getLsbD k = true from hb]; decide
    | false => rw [if_pos (by omega), Nat.add_zero, show x.toBitVec.getLsbD k = false from hb]; decide
  · have : tb (bI (tb x k)) j = false := by
      cases tb x k
      · exact tb_0
      · show tb (nI 1) j = false
        rw [h1 j hj]; simp [h0]
    rw [this]; simp [h0]
theorem shl_sg {k : Nat} (hk : k < 32) : nI 1 <<< (nI k &&& nI 31) = sg k := by rw [and31 k hk]; rfl
theorem or_0 {x : Int32} : x ||| nI 0 = x := by
  apply tb_ext; intro k _; rw [tb_or, tb_0]; simp
/-- loops that go from 0 to n -/
def lp {S : Type} (B : Nat → S → S) : Nat → S → S
  | 0, s => s
  | n + 1, s => B n (lp B n s)
theorem lp_run {S : Type} {F : Nat → S → Prop} {B : Nat → S → S} : ∀ {n : Nat} (s : S), (∀ i s, i < n → F i s = F (i + 1) (B i s)) → F 0 s = F n (lp B n s)
  | 0, _, _ => rfl
  | n + 1, s, h => (lp_run s (fun i s hi => h i s (by omega))).trans (h n _ (by omega))
theorem lp_runI {S : Type} {F : Nat → S → Prop} {B : Nat → S → S} {Q : Nat → S → Prop} : ∀ {n : Nat} (s : S), Q 0 s → (∀ i s, i < n → Q i s → F i s = F (i + 1) (B i s) ∧ Q (i + 1) (B i s)) → F 0 s = F n (lp B n s) ∧ Q n (lp B n s)
  | 0, _, h0, _ => ⟨rfl, h0⟩
  | n + 1, s, h0, h => by
    obtain ⟨a, b⟩ := lp_runI (n := n) s h0 (fun i s hi => h i s (by omega))
    obtain ⟨c, e⟩ := h n _ (by omega) b
    exact ⟨a.trans c, e⟩
theorem lp_cg {S : Type} {B B' : Nat → S → S} {s : S} : ∀ {n : Nat}, (∀ i, i < n → ∀ s, B i s = B' i s) → lp B n s = lp B' n s
  | 0, _ => rfl
  | n + 1, h => by
    show B n (lp B n s) = B' n (lp B' n s)
    rw [lp_cg (fun i hi => h i (by omega)), h n (by omega)]
/-- the bits of those that are so -/
def bm (n : Nat) (p : Nat → Bool) : Int32 := lp (fun i a => if p i = true then a ||| sg i else a) n (nI 0)
theorem tb_bm {p : Nat → Bool} {k : Nat} : ∀ {n : Nat}, n ≤ 32 → tb (bm n p) k = (decide (k < n) && p k)
  | 0, _ => by show tb (nI 0) k = _; rw [tb_0]; simp
  | n + 1, h => by
    have ih := tb_bm (p := p) (k := k) (n := n) (by omega)
    show tb (if p n = true then bm n p ||| sg n else bm n p) k = _
    by_cases hp : p n = true
    · rw [if_pos hp, tb_or, ih, tb_sg (by omega)]
      by_cases hk : k = n
      · subst hk; simp [hp]
      · by_cases h2 : k < n
        · simp [h2, hk, show k < n + 1 by omega]
        · simp [h2, hk, show ¬ k < n + 1 by omega]
    · rw [if_neg hp, ih]
      by_cases hk : k = n
      · subst hk; simp [hp]
      · by_cases h2 : k < n
        · simp [h2, show k < n + 1 by omega]
        · simp [h2, show ¬ k < n + 1 by omega]
theorem bm_cg {p q : Nat → Bool} {n : Nat} (h : ∀ i, i < n → p i = q i) : bm n p = bm n q := lp_cg fun i hi s => by rw [h i hi]
/-- how many are so -/
def cn (n : Nat) (p : Nat → Bool) : Nat := lp (fun i a => if p i = true then a + 1 else a) n 0
theorem cn_le {p : Nat → Bool} : ∀ {n : Nat}, cn n p ≤ n
  | 0 => Nat.le_refl 0
  | n + 1 => by
    have ih := cn_le (p := p) (n := n)
    show (if p n = true then cn n p + 1 else cn n p) ≤ n + 1
    split <;> omega
theorem cn_cg {p q : Nat → Bool} {n : Nat} (h : ∀ i, i < n → p i = q i) : cn n p = cn n q := lp_cg fun i hi s => by rw [h i hi]
/-- all of these together -/
def ors (n : Nat) (p : Nat → Bool) (f : Nat → Int32) : Int32 := lp (fun i a => if p i = true then a ||| f i else a) n (nI 0)
theorem tb_ors {p : Nat → Bool} {f : Nat → Int32} {k : Nat} : ∀ {n : Nat}, tb (ors n p f) k = true ↔ ∃ i, i < n ∧ p i = true ∧ tb (f i) k = true
  | 0 => by show tb (nI 0) k = true ↔ _; rw [tb_0]; simp
  | n + 1 => by
    have ih := tb_ors (p := p) (f := f) (k := k) (n := n)
    show tb (if p n = true then ors n p f ||| f n else ors n p f) k = true ↔ _
    by_cases hp : p n = true
    · rw [if_pos hp, tb_or, Bool.or_eq_true, ih]
      constructor
      · rintro (⟨i, a, b, c⟩ | c)
        · exact ⟨i, by omega, b, c⟩
        · exact ⟨n, by omega, hp, c⟩
      · rintro ⟨i, a, b, c⟩
        by_cases hi : i = n
        · subst hi; exact Or.inr c
        · exact Or.inl ⟨i, by omega, b, c⟩
    · rw [if_neg hp, ih]
      constructor
      · rintro ⟨i, a, b, c⟩; exact ⟨i, by omega, b, c⟩
      · rintro ⟨i, a, b, c⟩
        by_cases hi : i = n
        · subst hi; exact absurd b hp
        · exact ⟨i, by omega, b, c⟩
theorem ors_cg {p q : Nat → Bool} {f g : Nat → Int32} {n : Nat} (h : ∀ i, i < n → p i = q i) (hf : ∀ i, i < n → p i = true → f i = g i) : ors n p f = ors n q g := lp_cg fun i hi s => by
  rw [← h i hi]
  by_cases hp : p i = true
  · rw [if_pos hp, if_pos hp, hf i hi hp]
  · rw [if_neg hp, if_neg hp]
/-- the greatest of these, 0 at least -/
def mxs (n : Nat) (p : Nat → Bool) (f : Nat → Int32) : Int32 := lp (fun i a => if p i = true then mx a (f i) else a) n (nI 0)
theorem mxs_cg {p q : Nat → Bool} {f g : Nat → Int32} {n : Nat} (h : ∀ i, i < n → p i = q i) (hf : ∀ i, i < n → p i = true → f i = g i) : mxs n p f = mxs n q g := lp_cg fun i hi s => by
  rw [← h i hi]
  by_cases hp : p i = true
  · rw [if_pos hp, if_pos hp, hf i hi hp]
  · rw [if_neg hp, if_neg hp]
/-- the first that is so, from i on, of k -/
def ffr (p : Nat → Bool) : Nat → Nat → Option Nat
  | _, 0 => none
  | i, k + 1 => if p i = true then some i else ffr p (i + 1) k
def ff (n : Nat) (p : Nat → Bool) : Option Nat := ffr p 0 n
theorem ffr_run {F : Nat → Prop} {p : Nat → Bool} {X : Nat → Prop} {Y : Prop} {n : Nat} (h : ∀ i, i < n → F i = if p i = true then X i else F (i + 1)) (hn : F n = Y) : ∀ k i, i + k = n → F i = (match ffr p i k with
    | some j => X j
    | none => Y)
  | 0, i, hi => by rw [show i = n by omega]; exact hn
  | k + 1, i, hi => by
    rw [h i (by omega)]
    unfold ffr
    by_cases hp : p i = true
    · rw [if_pos hp, if_pos hp]
    · rw [if_neg hp, if_neg hp]; exact ffr_run h hn k (i + 1) (by omega)
theorem ff_run {F : Nat → Prop} {p : Nat → Bool} {X : Nat → Prop} {Y : Prop} {n : Nat} (h : ∀ i, i < n → F i = if p i = true then X i else F (i + 1)) (hn : F n = Y) : F 0 = (match ff n p with
    | some j => X j
    | none => Y) := ffr_run h hn n 0 (by omega)
theorem ffr_some {p : Nat → Bool} {j : Nat} : ∀ {k i : Nat}, ffr p i k = some j ↔ i ≤ j ∧ j < i + k ∧ p j = true ∧ ∀ m, i ≤ m → m < j → p m = false
  | 0, i => by
    show none = some j ↔ _
    constructor
    · intro h; cases h
    · rintro ⟨a, b, -⟩; omega
  | k + 1, i => by
    unfold ffr
    by_cases hp : p i = true
    · rw [if_pos hp]
      constructor
      · intro h; cases h; exact ⟨Nat.le_refl _, by omega, hp, fun m a b => by omega⟩
      · rintro ⟨a, b, c, e⟩
        by_cases hj : j = i
        · rw [hj]
        · have := e i (Nat.le_refl _) (by omega); rw [hp] at this; cases this
    · rw [if_neg hp, ffr_some (k := k) (i := i + 1)]
      constructor
      · rintro ⟨a, b, c, e⟩
        refine ⟨by omega, by omega, c, fun m h1 h2 => ?_⟩
        by_cases hm : m = i
        · rw [hm]; simpa using hp
        · exact e m (by omega) h2
      · rintro ⟨a, b, c, e⟩
        have : j ≠ i := fun z => hp (z ▸ c)
        exact ⟨by omega, by omega, c, fun m h1 h2 => e m (by omega) h2⟩
theorem ff_some {p : Nat → Bool} {n j : Nat} : ff n p = some j ↔ j < n ∧ p j = true ∧ ∀ m, m < j → p m = false := by
  unfold ff; rw [ffr_some]; simp
theorem ffr_none {p : Nat → Bool} : ∀ {k i : Nat}, ffr p i k = none ↔ ∀ m, i ≤ m → m < i + k → p m = false
  | 0, i => ⟨fun _ m a b => by omega, fun _ => rfl⟩
  | k + 1, i => by
    unfold ffr
    by_cases hp : p i = true
    · rw [if_pos hp]
      constructor
      · intro h; cases h
      · intro h; have := h i (Nat.le_refl _) (by omega); rw [hp] at this; cases this
    · rw [if_neg hp, ffr_none (k := k) (i := i + 1)]
      constructor
      · intro h m a b
        by_cases hm : m = i
        · rw [hm]; simpa using hp
        · exact h m (by omega) (by omega)
      · intro h m a b; exact h m (by omega) (by omega)
theorem ff_none {p : Nat → Bool} {n : Nat} : ff n p = none ↔ ∀ m, m < n → p m = false := by
  unfold ff; rw [ffr_none]; simp
theorem ff_cg {p q : Nat → Bool} {n : Nat} (h : ∀ i, i < n → p i = q i) : ff n p = ff n q := by
  cases h1 : ff n q with
  | none => rw [ff_none] at h1 ⊢; intro m hm; rw [h m hm]; exact h1 m hm
  | some j =>
    rw [ff_some] at h1 ⊢
    exact ⟨h1.1, (h j h1.1).trans h1.2.1, fun m hm => (h m (by omega)).trans (h1.2.2 m hm)⟩
def oN (o : Option Nat) : Int32 := match o with
  | some j => nI j
  | none => -1
