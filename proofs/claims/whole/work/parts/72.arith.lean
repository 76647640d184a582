theorem mul8 {r : Nat} : nI r * nI 8 = nI (8 * r) := by rw [pk_mul, Nat.mul_comm]
theorem mul8' {r : Nat} : nI 8 * nI r = nI (8 * r) := pk_mul _ _
theorem mul4 {r : Nat} : nI r * nI 4 = nI (4 * r) := by rw [pk_mul, Nat.mul_comm]
theorem mul4' {r : Nat} : nI 4 * nI r = nI (4 * r) := pk_mul _ _
theorem ltT {a b : Nat} (h : a < b) (hb : b < 2147483648) : (nI a < nI b) = True := eq_true (nI_lt h hb)
theorem ltF {a b : Nat} (h : b ≤ a) (hb : a < 2147483648) : (nI a < nI b) = False := eq_false (nI_nlt h hb)
theorem leT {a b : Nat} (h : a ≤ b) (hb : b < 2147483648) : (nI a ≤ nI b) = True := eq_true (nI_le h hb)
theorem leF {a b : Nat} (h : b < a) (hb : a < 2147483648) : (nI a ≤ nI b) = False := eq_false (nI_ge h hb)
theorem eqT {a b : Nat} (h : a = b) : (nI a = nI b) = True := eq_true (by rw [h])
theorem eqF {a b : Nat} (h : a ≠ b) (ha : a < 2147483648) (hb : b < 2147483648) : (nI a = nI b) = False := eq_false (fun z => h ((nI_eq ha hb).mp z))
theorem nzF {k : Nat} (h : 0 < k) (hk : k < 2147483648) : (nI k = (0 : Int32)) = False := eq_false (nI_ne0 h hk)
theorem m1F {k : Nat} (hk : k < 2147483648) : (nI k = (-1 : Int32)) = False := eq_false fun z => by
  have h1 := congrArg Int32.toInt z
  rw [nI_toInt hk] at h1
  have h9 : (-1 : Int32).toInt = -1 := by decide
  omega
theorem m1T : ((-1 : Int32) = -1) = True := eq_true rfl
theorem inT {k n : Nat} (h : k < n) (hn : n < 2147483648) : (ip_in (nI k) n = true) = True := eq_true (ip_inN h hn)
theorem nclN {n : Nat} (h : n < 2147483648) : (nI n).toNatClampNeg = n := nI_clamp h
theorem shr {x : Int32} {k : Nat} (hk : k < 32) : (x >>> (nI k &&& nI 31)) &&& nI 1 = bI (tb x k) := tb_shr1 hk
theorem shg {k : Nat} (hk : k < 32) : nI 1 <<< (nI k &&& nI 31) = sg k := shl_sg hk
theorem frT1 {x : Int32} : (fr (some (.int x)) = true) = True := eq_true rfl
theorem frT2 {x : Nat} : (fr (some (.ref x)) = true) = True := eq_true rfl
theorem frT3 : (fr none = true) = True := eq_true rfl
theorem fit0 {x : Int32} : (ip_fit 0 (.int x) = true) = True := eq_true rfl
theorem fit1 {x : Int64} : (ip_fit 1 (.long x) = true) = True := eq_true rfl
theorem fit2 {x : Int32} : (ip_fit 2 (.int x) = true) = (bo x = true) := rfl
theorem fit3 {x : Nat} : (ip_fit 3 (.ref x) = true) = True := eq_true rfl
theorem lp_any {S T : Type} {F : Nat → S → T → Prop} {B : Nat → S → S} {G : S → Prop} : ∀ (n : Nat), (∀ i s t, i < n → ∃ t', F i s t = F (i + 1) (B i s) t') → (∀ s t, F n s t = G s) → ∀ s t, F 0 s t = G (lp B n s) := by
  intro n h hn s t
  have key : ∀ m, m ≤ n → ∃ t', F 0 s t = F m (lp B m s) t' := by
    intro m
    induction m with
    | zero => intro _; exact ⟨t, rfl⟩
    | succ m ih =>
      intro hm
      obtain ⟨t1, h1⟩ := ih (by omega)
      obtain ⟨t2, h2⟩ := h m (lp B m s) t1 (by omega)
      exact ⟨t2, h1.trans h2⟩
  obtain ⟨t1, h1⟩ := key n (Nat.le_refl n)
  rw [h1, hn]
theorem lp_to {S : Type} {F : Nat → S → Prop} {B : Nat → S → S} {Y : Prop} (n : Nat) (s : S) (h : ∀ i s, i < n → F i s = F (i + 1) (B i s)) (hn : F n (lp B n s) = Y) : F 0 s = Y := (lp_run s h).trans hn
theorem ff_any {T : Type} {F : Nat → T → Prop} {p : Nat → Bool} {X : Nat → Prop} {Y : Prop} (n : Nat) (h : ∀ i t, i < n → ∃ t', F i t = if p i = true then X i else F (i + 1) t') (hn : ∀ t, F n t = Y) (t : T) : F 0 t = (match ff n p with
    | some j => X j
    | none => Y) := by
  have key : ∀ k i t, i + k = n → F i t = (match ffr p i k with
      | some j => X j
      | none => Y) := by
    intro k
    induction k with
    | zero => intro i t hi; rw [show i = n by omega]; exact hn t
    | succ k ih =>
      intro i t hi
      obtain ⟨t', ht⟩ := h i t (by omega)
      rw [ht]
      show _ = (match (if p i = true then some i else ffr p (i + 1) k) with
        | some j => X j
        | none => Y)
      by_cases hp : p i = true
      · rw [if_pos hp, if_pos hp]
      · rw [if_neg hp, if_neg hp]; exact ih (i + 1) t' (by omega)
  exact key n 0 t (by omega)
theorem ff_anyN {T : Type} {F : Nat → T → Prop} {p : Nat → Bool} {G : Int32 → Prop} (n : Nat) (h : ∀ i t, i < n → ∃ t', F i t = if p i = true then G (nI i) else F (i + 1) t') (hn : ∀ t, F n t = G (-1)) (t : T) : F 0 t = G (oN (ff n p)) := by
  rw [ff_any n h hn t]
  cases ff n p <;> rfl
/-- a loop that is left with false (0) at the first that is so, true (1) at its end -/
def al_ (n : Nat) (p : Nat → Bool) : Bool := (ff n p).isNone
theorem ff_anyB {T : Type} {F : Nat → T → Prop} {p : Nat → Bool} {G : Int32 → Prop} (n : Nat) (h : ∀ i t, i < n → ∃ t', F i t = if p i = true then G (nI 0) else F (i + 1) t') (hn : ∀ t, F n t = G (nI 1)) (t : T) : F 0 t = G (bI (al_ n p)) := by
  rw [ff_any n h hn t]
  unfold al_
  cases ff n p <;> rfl
/-- a loop with a number, left where q is not so -/
def rev (p q : Nat → Bool) : Nat → Nat → Int32 → Int32
  | _, 0, a => a
  | i, k + 1, a => if p i = true then (if q i = true then rev p q (i + 1) k (a ||| sg i) else a) else rev p q (i + 1) k a
theorem rev_s {p q : Nat → Bool} {i k : Nat} {a : Int32} : rev p q i (k + 1) a = if p i = true then (if q i = true then rev p q (i + 1) k (a ||| sg i) else a) else rev p q (i + 1) k a := rfl
