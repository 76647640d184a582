/-! THE CLASS'S group() -/
def kD (g : Nat → Nat) (n : Nat) (D : Dg) (c : Nat) : Int32 := wNu (wd g n (D.2.2.2.1 c + 2))
def eD (g : Nat → Nat) (n : Nat) (D : Dg) (c : Nat) : Int32 := nI (vl g n (D.2.2.2.1 c + 4))
def vD (g : Nat → Nat) (n : Nat) (D : Dg) (c : Nat) : Int32 := nI (vl g n (D.2.2.2.1 c + 6))
def lD (g : Nat → Nat) (n : Nat) (D : Dg) (c : Nat) : Int32 := nI (vl g n (D.2.2.2.1 c + 8))
def phD (g : Nat → Nat) (n : Nat) (D : Dg) (c o : Nat) : Int32 → Int32 := fun k => if k = -3 then ab (eD g n D c - eD g n D o) else if k = -2 then mx (vD g n D c) (vD g n D o) else if k = -1 then mn (vD g n D c) (vD g n D o) else bI (decide (lD g n D c = lD g n D o))
def VD (g : Nat → Nat) (n F : Nat) (D : Dg) (c o : Nat) : Int32 := if D.2.2.2.2 = 0 then nI 0 else (pE g n F 0 0 D.2.2.2.2).2.2.2 (phD g n D c o)
def clD (g : Nat → Nat) (n F : Nat) (D : Dg) (c o : Nat) : Bool := ckd (kD g n D) (eD g n D) c o || decide (¬ VD g n F D c o = nI 0)
/-- what holds of what was read without a fault -/
def WD (g : Nat → Nat) (n F : Nat) (D : Dg) : Prop := (D.1 = 0 ∨ D.1 = 3 ∨ D.1 = 5) ∧ D.2.1 ≤ 4 ∧ D.2.2.1 ≤ 8 ∧ (∀ c, c < D.2.2.1 → okCm g n D.1 D.2.1 (D.2.2.2.1 c)) ∧ (D.2.2.2.2 ≠ 0 → (pE g n F 0 0 D.2.2.2.2).2.1 = 0 ∧ kd g n (D.2.2.2.2 - 1) ≠ 0)
section H1
variable {L : Nat} {xs : Nat → Int32} {d : Nat} {P : Option Value → Hp → Prop} {I I' I2 : Mi} {J J' J2 : Mj} {R R' : Mr} {Z : Mz} {k n i p w b m x T lv dep F M N K le gg c lo hi K1 : Nat} {g : Nat → Nat} {s : Rs} {φ : Nat → Int32} {l : Lw} {y : Int64} {D : Dg} {f f' : Bool} {Q : Nat → Er} {u : Sk}
theorem adds_len : ∀ (cs : List Int32) (l : Lw), l.1 + cs.length ≤ 1000 → (adds l cs).1 = l.1 + cs.length ∧ (∀ k, k < cs.length → (adds l cs).2 (l.1 + k) = cs.getD k 0) ∧ ∀ k, k < l.1 → (adds l cs).2 k = l.2 k := by
  intro cs
  induction cs with
  | nil => intro l _; exact ⟨rfl, fun k hk => by simp at hk, fun _ _ => rfl⟩
  | cons a cs ih =>
    intro l h
    simp only [List.length_cons] at h ⊢
    have e : adds l (a :: cs) = adds (addL l a) cs := rfl
    have ea : addL l a = (l.1 + 1, upd l.2 l.1 a) := if_pos (by omega)
    rw [e, ea]
    obtain ⟨h1, h2, h3⟩ := ih (l.1 + 1, upd l.2 l.1 a) (by show l.1 + 1 + cs.length ≤ 1000; omega)
    refine ⟨by rw [h1]; show l.1 + 1 + cs.length = _; omega, fun k hk => ?_, fun k hk => ?_⟩
    · cases k with
      | zero => exact (h3 l.1 (by show l.1 < l.1 + 1; omega)).trans (by show upd l.2 l.1 a l.1 = a; exact upd_eq)
      | succ k =>
        have := h2 k (by omega)
        rw [show l.1 + (k + 1) = l.1 + 1 + k by omega]
        rw [this]; simp
    · rw [h3 k (by show k < l.1 + 1; omega)]; exact upd_ne (by omega)
theorem lpE_len (hQ : ∀ i, (Q i).2.1 = 0 → i + (Q i).2.2.1.length ≤ (Q i).1) : ∀ k (r : Er) (i : Nat), (lpE g n lv Q k r).2.1 = 0 → i + r.2.2.1.length ≤ r.1 → i + (lpE g n lv Q k r).2.2.1.length ≤ (lpE g n lv Q k r).1 := by
  intro k
  induction k with
  | zero => intro r i _ h; exact h
  | succ k ih =>
    intro r i h1 h2
    unfold lpE at h1 ⊢
    split at h1
    · rename_i q; rw [if_pos q]; exact h2
    · rename_i q
      rw [if_neg q]
      refine ih _ _ h1 ?_
      have hq := lpE_0 _ _ h1
      have := hQ (r.1 + 1) hq
      simp only [List.length_append, List.length_cons, List.length_nil]
      omega
theorem pE_len : ∀ F lv dep i, (pE g n F lv dep i).2.1 = 0 → i + (pE g n F lv dep i).2.2.1.length ≤ (pE g n F lv dep i).1 := by
  intro F
  induction F with
  | zero => intro lv dep i h; exact absurd h (by show 1 + 16 * bg g n i ≠ 0; omega)
  | succ F ih =>
    intro lv dep i h
    rw [pE] at h ⊢
    by_cases h4 : 4 ≤ lv
    · rw [if_pos h4] at h ⊢
      unfold prtE at h ⊢
      split at h
      · exact absurd h (by show 1 + 16 * bg g n i ≠ 0; omega)
      · rename_i q1
        rw [if_neg q1]
        split at h
        · exact absurd h (by show 5 + 16 * bg g n i ≠ 0; omega)
        · rename_i q2
          rw [if_neg q2]
          split at h
          · rename_i q3
            rw [if_pos q3]; simp
          · rename_i q3
            rw [if_neg q3]
            split at h
            · rename_i q4
              rw [if_pos q4]; simp
            · rename_i q4
              rw [if_neg q4]
              split at h
              · rename_i q5
                rw [if_pos q5]
                have := ih 4 (dep + 1) (i + 1) h
                simp only [List.length_append, List.length_cons, List.length_nil]
                omega
              · rename_i q5
                rw [if_neg q5]
                obtain ⟨a1, a2, a3⟩ := tkS_i h
                have := ih 0 (dep + 1) (i + 1) a1
                rw [a3]
                dsimp only
                omega
    · rw [if_neg h4] at h ⊢
      exact lpE_len (fun i hi => ih _ _ i hi) _ _ i h (ih _ _ i (lpE_0 _ _ h))
theorem stm_wd (hk : kd g n i ≠ 0) (h : WD g n F D) (hz : (stmS g n F D i).2 = 0) : WD g n F (stmD g n D i) := by
  obtain ⟨h1, h2, h3, h4, h5⟩ := h
  unfold stmS at hz
  unfold stmD
  split at hz
  · rename_i q
    rw [if_pos q]
    obtain ⟨z1, -, -, z4, -⟩ := sRep_i hk hz
    refine ⟨by show vl g n (i + 1) = 0 ∨ vl g n (i + 1) = 3 ∨ vl g n (i + 1) = 5; omega, h2, h3, fun c hc => ?_, h5⟩
    have := (h4 c hc).2.2.2.2.2.2.2.2
    rw [z1] at this
    omega
  · rename_i q
    rw [if_neg q]
    split at hz
    · rename_i q'
      rw [if_pos q']
      obtain ⟨z1, -, -, z4, -⟩ := sKey_i hk hz
      refine ⟨h1, by show vl g n (i + 1) ≤ 4; omega, h3, fun c hc => ?_, h5⟩
      have := (h4 c hc).2.2.2.1.2
      rw [z1] at this
      omega
    · rename_i q'
      rw [if_neg q']
      split at hz
      · rename_i q2
        rw [if_pos q2]
        obtain ⟨z1, -, z3, -, -⟩ := sCmd_i hk hz
        refine ⟨h1, h2, z1, fun c hc => ?_, h5⟩
        show okCm g n D.1 D.2.1 (va_n D.2.2.2.1 D.2.2.1 i c)
        by_cases e : c = D.2.2.1
        · rw [show va_n D.2.2.2.1 D.2.2.1 i c = i from if_pos e]; exact z3
        · rw [show va_n D.2.2.2.1 D.2.2.1 i c = D.2.2.2.1 c from if_neg e]
          exact h4 c (by have : c < D.2.2.1 + 1 := hc; omega)
      · rename_i q2
        rw [if_neg q2]
        split at hz
        · obtain ⟨-, z2, -, -⟩ := sLaw_i hk hz
          exact ⟨h1, h2, h3, h4, fun _ => ⟨z2, hk⟩⟩
        · exact absurd hz (wr_n0 (by decide))
theorem gR_wd : ∀ k D i, WD g n F D → (gR g n F k D i).2.2 = 0 → WD g n F (gR g n F k D i).1 := by
  intro k
  induction k with
  | zero => intro D i h _; exact h
  | succ k ih =>
    intro D i h hz
    unfold gR at hz ⊢
    split at hz
    · rename_i q; rw [if_pos q]; exact h
    · rename_i q
      rw [if_neg q]
      split at hz
      · rename_i q2; exact absurd hz q2
      · rename_i q2
        rw [if_neg q2]
        exact ih _ _ (stm_wd q h (by simpa using q2)) hz
theorem upd_cm {f : Nat → Int32} {a b : Nat} {x y : Int32} (h : a ≠ b) : upd (upd f a x) b y = upd (upd f b y) a x := by
  funext q; unfold upd
  by_cases h1 : q = b
  · subst h1; rw [if_pos rfl, if_neg (fun z => h z.symm)]; simp
  · rw [if_neg h1]; split <;> simp [h1]
theorem k_begin (hl : I 65 1 = nI n) (hn : n ≤ 1000) (hs : sgT I g n) : ∃ I' J' R' T, (cutF I J R I' J' R' ∧ cutT I' J' R' g n T) ∧ ∀ P, Wp L xs (d+7) 28 0 [some (.ref (72))] [] (mk I J R Z) P = P none (mk (rd I' (0, 0)) J' (rr R' g n 0) Z) := by
  obtain ⟨I', J', R', T, ⟨h1, h2⟩, h3⟩ := k_cut (L := L) (xs := xs) (d := d) (J := J) (R := R) (Z := Z) hl hn hs
  refine ⟨I', J', R', T, ⟨h1, h2⟩, fun P => ?_⟩
  have hw := fun I K => gr71 (I := I) (J := J') (R := R') (Z := Z) (K := K) (k := 0) (w := wd g n 0) (by decide) (h2.2.2.1 0 (Nat.zero_le _)).2.2.1
  have e : upd (upd (I' 72) 5 (nI 0)) 3 (nI 0) = upd (upd (I' 72) 3 (nI 0)) 5 (nI 0) := upd_cm (by decide)
  simp (discharger := omega) only [↓w28_0, ↓w28_1, ↓w28_4, ↓w28_7, ↓w28_8, ↓w28_9, ↓w28_12, ↓w28_13, ↓w28_14, ↓w28_17, ↓w28_18, ↓w28_19, ↓w28_22, ↓w28_25, ↓w28_26, ↓w28_27, ↓w28_30, rc72, g72_0, g72_1, g72_2, p72_2, g72_3, p72_3, g72_4, p72_4, g72_5, p72_5, rc65, g65_0, g65_1, p65_1, g65_2, g65_3, g65_4, g65_5, g65_6, g65_7, p65_7, ↓h3, st_eq, st_st, e, ↓hw, ↓kc_i, ↓kc_l, ↓kc_r, ↓kc_n, mul8, mul8', mul4, mul4', nI_add, inT, nclN, ltT, ltF, leT, leF, eqT, eqF, nzF, m1F, m1T, shr, shg, bI0, bI1, bo_bI, bo_1, bo_0, eq10, eq00, frT1, frT2, frT3, fit0, fit1, fit2, fit3, true_and, and_true, ↓reduceIte, Nat.reduceAdd, Nat.reduceMul, and_self, not_false_eq_true, not_true_eq_false, Nat.zero_add, Nat.add_zero]
  exact Eq.refl _
end H1
