theorem mul8 {r : Nat} : nI r * nI 8 = nI (8 * r) := by rw [pk_mul, Nat.mul_comm]
theorem mul8' {r : Nat} : nI 8 * nI r = nI (8 * r) := pk_mul _ _
theorem mul4 {r : Nat} : nI r * nI 4 = nI (4 * r) := by rw [pk_mul, Nat.mul_comm]
theorem mul4' {r : Nat} : nI 4 * nI r = nI (4 * r) := pk_mul _ _
theorem ltT {a b : Nat} (h : a < b) (hb : b < 2147483648) : (nI a < nI b) = True := eq_true (nI_lt h hb)
theorem ltF {a b : Nat} (h : b ≤ a) (hb : a < 2147483648) : (nI a < nI b) = False := eq_false (nI_nlt h hb)
theorem leT {a b : Nat} (h : a ≤ b) (hb : b < 2147483648) : (nI a ≤ nI b) = True := eq_true (nI_le h hb)
theorem leF {a b : Nat} (h : b < a) (hb : a < 2147483648) : (nI a ≤ nI b) = False := eq_false (nI_ge h hb)
theorem eqT {a b : Nat} (h : a = b) : (nI a = nI b) = True := eq_true (by rw [h])
theorem eqF {a b : Nat} (h : a ≠ b) (ha : a < 2147483648) (hb : b < 2147483648) : (nI a = nI b) = False := eq_false (fun z => h ((nI_eq ha hb).mp z))
theorem inT {k n : Nat} (h : k < n) (hn : n < 2147483648) : (ip_in (nI k) n = true) = True := eq_true (ip_inN h hn)
theorem cl {n : Nat} (h : n < 2147483648) : (nI n).toNatClampNeg = n := nI_clamp h
theorem shr {x : Int32} {k : Nat} (hk : k < 32) : (x >>> (nI k &&& nI 31)) &&& nI 1 = bI (tb x k) := tb_shr1 hk
theorem shg {k : Nat} (hk : k < 32) : nI 1 <<< (nI k &&& nI 31) = sg k := shl_sg hk
theorem frT1 {x : Int32} : (fr (some (.int x)) = true) = True := eq_true rfl
theorem frT2 {x : Nat} : (fr (some (.ref x)) = true) = True := eq_true rfl
theorem frT3 : (fr none = true) = True := eq_true rfl
theorem fit0 {x : Int32} : (ip_fit 0 (.int x) = true) = True := eq_true rfl
theorem fit1 {x : Int64} : (ip_fit 1 (.long x) = true) = True := eq_true rfl
theorem fit2 {x : Int32} : (ip_fit 2 (.int x) = true) = (bo x = true) := rfl
theorem fit3 {x : Nat} : (ip_fit 3 (.ref x) = true) = True := eq_true rfl
theorem lp_any {S T : Type} {F : Nat → S → T → Prop} {B : Nat → S → S} {G : S → Prop} : ∀ (n : Nat), (∀ i s t, i < n → ∃ t', F i s t = F (i + 1) (B i s) t') → (∀ s t, F n s t = G s) → ∀ s t, F 0 s t = G (lp B n s) := by
  intro n h hn s t
  have key : ∀ m, m ≤ n → ∃ t', F 0 s t = F m (lp B m s) t' := by
    intro m
    induction m with
    | zero => intro _; exact ⟨t, rfl⟩
    | succ m ih =>
      intro hm
      obtain ⟨t1, h1⟩ := ih (by omega)
      obtain ⟨t2, h2⟩ := h m (lp B m s) t1 (by omega)
      exact ⟨t2, h1.trans h2⟩
  obtain ⟨t1, h1⟩ := key n (Nat.le_refl n)
  rw [h1, hn]
