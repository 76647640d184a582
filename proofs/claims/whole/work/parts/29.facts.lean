/-! small facts for part 30 -/
theorem ip_decl : ∀ {c : Nat} {q : vw_C}, ip_cl[c]? = some q → ∀ {k : Nat}, k < q.2.2 → (q.2.1 k).1 = ip_on c := by
  have h : ∀ c, c < 12 → ∀ k, k < 50 → (match ip_cl[c]? with
    | some q => decide (k < q.2.2 → (q.2.1 k).1 = ip_on c)
    | none => true) = true := by decide +kernel
  intro c q hc k hk
  have hl : c < 13 := (List.getElem?_eq_some_iff.mp hc).1
  by_cases h12 : c = 12
  · subst h12; cases hc; exact absurd hk (Nat.not_lt_zero _)
  · have hk50 : k < 50 := by
      have h2 : ∀ c, c < 13 → (match ip_cl[c]? with
        | some q => decide (q.2.2 ≤ 50)
        | none => true) = true := by decide +kernel
      have := h2 c hl
      rw [hc] at this
      have := of_decide_eq_true this
      omega
    have := h c (by omega) k hk50
    rw [hc] at this
    exact of_decide_eq_true this hk
theorem ip_df_chk : ∀ c, c < 12 → (match ip_df[c]?, ip_cl[c]? with
    | some fs, some q => decide (fs.length = q.2.2) && decide (∀ j, j < q.2.2 → defaultValue (ip_ty c j) = vp_V fs j) && decide (Cond.instantiable q.1 q.2.2 ∈ ip_inst) && decide (Cond.initialized q.1 ∈ ip_inst) && fs.all (fun v => decide (v = .null) || decide (v = .int 0) || decide (v = .long 0))
    | _, _ => false) = true := by decide +kernel
theorem ip_df_ok {c : Nat} {fs : List Value} (h : ip_df[c]? = some fs) : ∃ q, ip_cl[c]? = some q ∧ fs.length = q.2.2 ∧ (Cond.instantiable q.1 q.2.2 ∈ ip_tb ∧ Cond.initialized q.1 ∈ ip_tb) ∧ ∀ j, j < q.2.2 → defaultValue (ip_ty c j) = vp_V fs j := by
  have hl : c < 12 := (List.getElem?_eq_some_iff.mp h).1
  have h1 := ip_df_chk c hl
  rw [h] at h1
  cases hq : ip_cl[c]? with
  | none => rw [hq] at h1; cases h1
  | some q =>
    rw [hq] at h1
    simp only [Bool.and_eq_true, decide_eq_true_eq] at h1
    exact ⟨q, rfl, h1.1.1.1.1, ⟨ip_inst_in _ h1.1.1.2, ip_inst_in _ h1.1.2⟩, h1.1.1.1.2⟩
theorem ip_df_null {c : Nat} {fs : List Value} (h : ip_df[c]? = some fs) : ∀ v ∈ fs, ∀ ad, ip_cv ad v = v := by
  have hl : c < 12 := (List.getElem?_eq_some_iff.mp h).1
  have h1 := ip_df_chk c hl
  rw [h] at h1
  cases hq : ip_cl[c]? with
  | none => rw [hq] at h1; cases h1
  | some q =>
    rw [hq, Bool.and_eq_true] at h1
    intro v hv ad
    have h2 := List.all_eq_true.mp h1.2 v hv
    simp only [Bool.or_eq_true, decide_eq_true_eq] at h2
    rcases h2 with (rfl | rfl) | rfl <;> rfl
theorem ip_nullmap {fs : List Value} (ad : Nat → Nat) (h : ∀ v ∈ fs, ∀ ad, ip_cv ad v = v) (j : Nat) : vp_V (fs.map (ip_cv ad)) j = vp_V fs j := by
  rw [List.map_congr_left (g := id) (fun v hv => h v hv ad), List.map_id]
theorem ip_new_ok {t : ArrayType} {N : Nat} {c : AC} (h : ip_new t N = some c) (ad : Nat → Nat) (dA : Nat → ClassId) : ∃ k, (k ≤ 3 ∧ newarray.typeOf t = ip_tf k) ∧ Cond.arrayClass (newarray.typeOf t) ∈ ip_tb ∧ (∃ a0, ip_ce ad dA c = .inl (dA k, a0) ∧ vp_cell (dA k) a0 = arrV (dA k) N (fun _ => defaultValue (newarray.typeOf t))) ∧ ∀ n, n < 65536 → n * componentBytes (newarray.typeOf t) ≤ 536870912 := by
  cases t <;> simp only [ip_new] at h <;> first | (cases h; done) | skip
  · cases h; exact ⟨3, ⟨by decide, rfl⟩, ip_acw_in _ (by simp [ip_acw, newarray.typeOf]), ⟨_, rfl, rfl⟩, fun n hn => by simp [newarray.typeOf, componentBytes]; omega⟩
  · cases h; exact ⟨2, ⟨by decide, rfl⟩, ip_acw_in _ (by simp [ip_acw, newarray.typeOf]), ⟨_, rfl, rfl⟩, fun n hn => by simp [newarray.typeOf, componentBytes]; omega⟩
  · cases h; exact ⟨0, ⟨by decide, rfl⟩, ip_acw_in _ (by simp [ip_acw, newarray.typeOf]), ⟨_, rfl, rfl⟩, fun n hn => by simp [newarray.typeOf, componentBytes]; omega⟩
  · cases h; exact ⟨1, ⟨by decide, rfl⟩, ip_acw_in _ (by simp [ip_acw, newarray.typeOf]), ⟨_, rfl, rfl⟩, fun n hn => by simp [newarray.typeOf, componentBytes]; omega⟩
