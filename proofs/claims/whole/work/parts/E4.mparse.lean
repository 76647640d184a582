/-! THE MODEL READS WHAT THE CLASS READS -/
section M4
variable {L : Nat} {xs : Nat → Int32} {d : Nat} {P : Option Value → Hp → Prop} {I I' I2 I0 Ic : Mi} {J J' J2 J0 Jc : Mj} {R Rc : Mr} {Z : Mz} {k n i j p w b m c lo hi K i0 q dep f T F lv : Nat} {g : Nat → Nat} {y : Int64} {v : Int32} {op cp op' cp' : Nat → Int32} {A B C : Ms} {Q : Nat → Er}
theorem ex_T : ∃ T, T ≤ n ∧ (∀ i, i < T → kd g n i ≠ 0) ∧ kd g n T = 0 := by
  cases h : ff (n + 1) (fun i => decide (kd g n i = 0)) with
  | none =>
    rw [ff_none] at h
    have h1 : ∀ i, i ≤ n → kd g n i ≠ 0 := fun i hi => of_decide_eq_false (h i (by omega))
    have h2 := bg_ge (g := g) (n := n) n (fun j hj => h1 j (by omega))
    have h3 := bg_lt (h1 n (Nat.le_refl _))
    omega
  | some T =>
    rw [ff_some] at h
    exact ⟨T, by omega, fun i hi => of_decide_eq_false (h.2.2 i hi), of_decide_eq_true h.2.1⟩
theorem ex_cut (hT : ∀ i, i < T → kd g n i ≠ 0) (h0 : kd g n T = 0) : ∃ I J R, cutT I J R g n T := by
  refine ⟨fun a k => if a = 67 then nI (cmk (kd g n k)) else if a = 68 then nI (bg g n k) else if a = 69 then (if kd g n k = 2 then nI (vl g n k) else nI (g (bg g n k))) else nI (T + 1), fun _ k => lN (w32 g n k), fun _ k => some (wd g n k), hT, h0, fun i _ => ⟨rfl, rfl, rfl, fun z => if_pos z, fun z => ?_, fun _ => rfl⟩, rfl⟩
  have : ¬ kd g n i = 2 := fun q => by have z' : kd g n i = 3 := z; omega
  exact if_neg this
theorem popN_cg : ∀ dep, (∀ k, k ≤ dep → op' k = op k) → popN op' dep = popN op dep
  | 0, _ => rfl
  | dep + 1, h => by
    unfold popN
    rw [h (dep + 1) (Nat.le_refl _), popN_cg dep (fun k hk => h k (by omega))]
theorem go_r : Go L xs d I0 J0 R Z g n i0 A A := fun I J t3 t4 t5 h => ⟨I, J, t3, t4, t5, h, fun _ => rfl⟩
theorem op_go (hn : n ≤ 1000) (hi : i0 ≤ j) (hdep : dep ≤ 5) (hlv : lv = 0 ∨ lv = 2 ∨ lv = 3) (h : jn g n lv j ≠ nI 0) : Go L xs d I0 J0 R Z g n i0 (j, op, cp, dep, 0) (j + 1, op, (if lv = 0 then upd cp dep (nI 0) else cp), dep, 1) := by
  rcases hlv with rfl | rfl | rfl
  · rw [if_pos rfl]
    refine s_and hn hi hdep ?_
    unfold jn at h
    rw [if_pos rfl] at h
    by_cases h8 : wd g n j = 8
    · exact Or.inl h8
    · rw [if_neg h8] at h
      by_cases h9 : wd g n j = 9
      · exact Or.inr h9
      · rw [if_neg h9] at h; exact absurd rfl h
  · rw [if_neg (by decide)]
    unfold jn at h
    rw [if_neg (by decide), if_neg (by decide), if_pos rfl] at h
    cases h1 : isSgn g n 43 j
    · rw [h1, if_neg (by decide)] at h
      cases h2 : isSgn g n 45 j
      · rw [h2, if_neg (by decide)] at h; exact absurd rfl h
      · exact s_bin hn hi (Or.inr (Or.inl rfl)) h2
    · exact s_bin hn hi (Or.inl rfl) h1
  · rw [if_neg (by decide)]
    unfold jn at h
    rw [if_neg (by decide), if_neg (by decide), if_neg (by decide)] at h
    cases h1 : isSgn g n 42 j
    · rw [h1, if_neg (by decide)] at h; exact absurd rfl h
    · exact s_bin hn hi (Or.inr (Or.inr rfl)) h1
def Sub (L : Nat) (xs : Nat → Int32) (d : Nat) (I0 : Mi) (J0 : Mj) (R : Mr) (Z : Mz) (g : Nat → Nat) (n i0 T dep lv : Nat) (Q : Nat → Er) : Prop := ∀ i op cp, i0 ≤ i → i ≤ T → popN op dep = dep → (lv = 0 → cp dep = nI 0) → (cp dep = nI 0 ∨ cp dep = nI 1) → (((Q i).2.1 = 0 → ∃ op' cp', (∀ k, k ≤ dep → op' k = op k) ∧ (∀ k, k < dep → cp' k = cp k) ∧ (lv ≠ 0 → cp' dep = cp dep) ∧ (cp' dep = nI 0 ∨ cp' dep = nI 1) ∧ (∀ l', lv + 1 ≤ l' → l' ≤ 3 → l' ≠ 1 → jn g n l' (Q i).1 = nI 0) ∧ (lv = 0 → cp' dep = nI 0 → jn g n 1 (Q i).1 = nI 0) ∧ Go L xs d I0 J0 R Z g n i0 (i, op, cp, dep, 1) ((Q i).1, op', cp', dep, 0)) ∧ ((Q i).2.1 ≠ 0 → Fa L xs d I0 J0 R Z g n i0 (i, op, cp, dep, 1) (Q i).2.1))
theorem lpE_f (h : k = 0 ∨ f ≠ 0) {a : Nat} {cs : List Int32} {φ : (Int32 → Int32) → Int32} (hf : f ≠ 0) : lpE g n lv Q k (a, f, cs, φ) = (a, f, cs, φ) := by
  cases k with
  | zero => rfl
  | succ k => unfold lpE; rw [if_pos (Or.inr hf)]
theorem m_loop (hn : n ≤ 1000) (hTn : T ≤ n) (hkT : ∀ i, i ≤ T → (kd g n i ≠ 0 ↔ i < T)) (hdep : dep ≤ 5) (hlv : lv = 0 ∨ lv = 2 ∨ lv = 3) (hS : Sub L xs d I0 J0 R Z g n i0 T dep lv Q) (hQ : ∀ i, i ≤ T → okRs T (er (Q i))) (hQ2 : ∀ i, (Q i).2.1 = 0 → i ≤ (Q i).1) : ∀ k (r : Er) op cp, r.2.1 = 0 → 1000 ≤ r.1 + k → i0 ≤ r.1 → r.1 ≤ T → popN op dep = dep → (cp dep = nI 0 ∨ cp dep = nI 1) → (∀ l', lv + 1 ≤ l' → l' ≤ 3 → l' ≠ 1 → jn g n l' r.1 = nI 0) → (lv = 0 → cp dep = nI 0 → jn g n 1 r.1 = nI 0) → (((lpE g n lv Q k r).2.1 = 0 → ∃ op' cp', (∀ k, k ≤ dep → op' k = op k) ∧ (∀ k, k < dep → cp' k = cp k) ∧ (lv ≠ 0 → cp' dep = cp dep) ∧ (cp' dep = nI 0 ∨ cp' dep = nI 1) ∧ (∀ l', lv ≤ l' → l' ≤ 3 → l' ≠ 1 → jn g n l' (lpE g n lv Q k r).1 = nI 0) ∧ (lv = 0 → cp' dep = nI 0 → jn g n 1 (lpE g n lv Q k r).1 = nI 0) ∧ Go L xs d I0 J0 R Z g n i0 (r.1, op, cp, dep, 0) ((lpE g n lv Q k r).1, op', cp', dep, 0)) ∧ ((lpE g n lv Q k r).2.1 ≠ 0 → Fa L xs d I0 J0 R Z g n i0 (r.1, op, cp, dep, 0) (lpE g n lv Q k r).2.1)) := by
  intro k
  induction k with
  | zero =>
    intro r op cp h0 hk hi hrT hpop hc01 hj hj1
    have hj0 : ∀ l', jn g n l' r.1 = nI 0 := fun l' => by
      by_cases z : jn g n l' r.1 = nI 0
      · exact z
      · have := (hkT r.1 hrT).mp (jn_kd z); omega
    exact ⟨fun _ => ⟨op, cp, fun _ _ => rfl, fun _ _ => rfl, fun _ => rfl, hc01, fun l' _ _ _ => hj0 l', fun _ _ => hj0 1, go_r⟩, fun z => absurd h0 z⟩
  | succ k ih =>
    intro r op cp h0 hk hi hrT hpop hc01 hj hj1
    by_cases hjn : jn g n lv r.1 = nI 0
    · have e : lpE g n lv Q (k + 1) r = r := by rw [lpE, if_pos (Or.inl hjn)]
      rw [e]
      refine ⟨fun _ => ⟨op, cp, fun _ _ => rfl, fun _ _ => rfl, fun _ => rfl, hc01, fun l' h1 h2 h3 => ?_, hj1, go_r⟩, fun z => absurd h0 z⟩
      by_cases e : l' = lv
      · rw [e]; exact hjn
      · exact hj l' (by omega) h2 h3
    · have e : lpE g n lv Q (k + 1) r = lpE g n lv Q k ((Q (r.1 + 1)).1, (Q (r.1 + 1)).2.1, r.2.2.1 ++ (Q (r.1 + 1)).2.2.1 ++ [jn g n lv r.1], fun φ => jo (jn g n lv r.1) (r.2.2.2 φ) ((Q (r.1 + 1)).2.2.2 φ)) := by
        rw [lpE, if_neg (by simp [hjn, h0])]
      rw [e]
      have hlt : r.1 < T := (hkT r.1 hrT).mp (jn_kd hjn)
      have g1 := op_go (L := L) (xs := xs) (d := d) (I0 := I0) (J0 := J0) (R := R) (Z := Z) (op := op) (cp := cp) hn hi hdep hlv hjn
      have hcx : ((if lv = 0 then upd cp dep (nI 0) else cp) dep = nI 0 ∨ (if lv = 0 then upd cp dep (nI 0) else cp) dep = nI 1) := by
        split
        · rw [upd_eq]; exact Or.inl rfl
        · exact hc01
      obtain ⟨s1, s2⟩ := hS (r.1 + 1) op (if lv = 0 then upd cp dep (nI 0) else cp) (by omega) (by omega) hpop (fun z => by rw [if_pos z, upd_eq]) hcx
      by_cases hq : (Q (r.1 + 1)).2.1 = 0
      · obtain ⟨op1, cp1, a1, a2, a3, a4, a5, a6, a7⟩ := s1 hq
        have hpop1 : popN op1 dep = dep := (popN_cg dep a1).trans hpop
        have hge := hQ2 (r.1 + 1) hq
        have hok := hQ (r.1 + 1) (by omega)
        obtain ⟨t1, t2⟩ := ih ((Q (r.1 + 1)).1, (Q (r.1 + 1)).2.1, r.2.2.1 ++ (Q (r.1 + 1)).2.2.1 ++ [jn g n lv r.1], fun φ => jo (jn g n lv r.1) (r.2.2.2 φ) ((Q (r.1 + 1)).2.2.2 φ)) op1 cp1 hq (by show 1000 ≤ (Q (r.1 + 1)).1 + k; omega) (by show i0 ≤ (Q (r.1 + 1)).1; omega) hok.1 hpop1 a4 a5 a6
        refine ⟨fun z => ?_, fun z => ?_⟩
        · obtain ⟨op2, cp2, b1, b2, b3, b4, b5, b6, b7⟩ := t1 z
          refine ⟨op2, cp2, fun k hk => (b1 k hk).trans (a1 k hk), fun k hk => ((b2 k hk).trans (a2 k hk)).trans ?_, fun hz => ((b3 hz).trans (a3 hz)).trans (by rw [if_neg hz]), b4, b5, b6, go_t g1 (go_t a7 b7)⟩
          split
          · exact upd_ne (by omega)
          · rfl
        · exact go_f g1 (go_f a7 (t2 z))
      · have el := lpE_f (g := g) (n := n) (lv := lv) (Q := Q) (k := k) (a := (Q (r.1 + 1)).1) (f := (Q (r.1 + 1)).2.1) (cs := r.2.2.1 ++ (Q (r.1 + 1)).2.2.1 ++ [jn g n lv r.1]) (φ := fun φ => jo (jn g n lv r.1) (r.2.2.2 φ) ((Q (r.1 + 1)).2.2.2 φ)) (Or.inr hq) hq
        rw [el]
        exact ⟨fun z => absurd z hq, fun _ => go_f g1 (s2 hq)⟩
end M4
