/-! THE RUN OF A METHOD: its steps one by one; the heap only grows -/
theorem ip_fe_mem {cd : List En} {pc : Nat} {q : Instr × Nat × Nat × Nat × Nat} (h : ip_fe cd pc = some q) : (pc, q) ∈ cd := by
  induction cd with
  | nil => cases h
  | cons e r ih =>
    unfold ip_fe at h
    split at h
    · rename_i he
      cases h
      rw [← he]
      exact List.mem_cons_self
    · exact List.mem_cons_of_mem _ (ih h)
theorem ip_run_inv {L : Nat} {xs : Nat → Int32} {n d y pc : Nat} {ls : Lv} {st : List Value} {h hf : Hp} {r : Option Value} (hh : ip_run L xs (n + 1) d y pc ls st h = some (r, hf)) :
    ∃ M ins len r1 r2 r3, ip_ms[y]? = some M ∧ (pc, ins, len, r1, r2, r3) ∈ M.2.2.2.2.2.2.2 ∧
      ((ip_k ins = 8 ∧ r1 = 99 ∧ st = [] ∧ r = some (.retAddr 7) ∧ hf = h) ∨
      ((ip_k ins = 0 ∨ ip_k ins = 8) ∧ ∃ pc' ls' st' h', ip_st L xs ins pc r1 r2 r3 ls st h = some (pc', ls', st', h') ∧ ip_run L xs n d y pc' ls' st' h' = some (r, hf)) ∨
      (ip_k ins ≠ 0 ∧ ip_k ins < 5 ∧ ip_ret (ip_k ins) M.2.2.2.1 st h = some (r, hf)) ∨
      ((5 ≤ ip_k ins ∧ ip_k ins ≠ 8) ∧ ∃ As rest v h', ip_pop r2 [] st = some (As, rest) ∧ (rest.map fun v => v.category).sum ≤ 8 ∧ 0 < d ∧ ip_cal (fun d' y' ls' h' => ip_run L xs n d' y' 0 ls' [] h') d r1 r3 h As = some (v, h') ∧ ip_run L xs n d y (pc + 3) ls (v.toList ++ rest) h' = some (r, hf))) := by
  unfold ip_run at hh
  cases hM : ip_ms[y]? with
  | none => rw [hM] at hh; cases hh
  | some M =>
    rw [hM] at hh
    dsimp only at hh
    cases hf : ip_fe M.2.2.2.2.2.2.2 pc with
    | none => rw [hf] at hh; cases hh
    | some q =>
      obtain ⟨ins, len, r1, r2, r3⟩ := q
      rw [hf] at hh
      dsimp only at hh
      refine ⟨M, ins, len, r1, r2, r3, rfl, ip_fe_mem hf, ?_⟩
      split at hh
      · rename_i h8
        split at hh
        · cases hh
          exact Or.inl ⟨h8.1, h8.2, rfl, rfl, rfl⟩
        · cases hh
      · split at hh
        · rename_i h0
          cases hs : ip_st L xs ins pc r1 r2 r3 ls st h with
          | none => rw [hs] at hh; cases hh
          | some z =>
            obtain ⟨pc', ls', st', h'⟩ := z
            rw [hs] at hh
            exact Or.inr (Or.inl ⟨h0, pc', ls', st', h', rfl, hh⟩)
        · rename_i h0
          split at hh
          · rename_i h5
            exact Or.inr (Or.inr (Or.inl ⟨fun z => h0 (Or.inl z), h5, hh⟩))
          · rename_i h5
            cases hp : ip_pop r2 [] st with
            | none => rw [hp] at hh; cases hh
            | some z =>
              obtain ⟨As, rest⟩ := z
              rw [hp] at hh
              dsimp only at hh
              split at hh
              · rename_i hw
                cases hc : ip_cal (fun d' y' ls' h' => ip_run L xs n d' y' 0 ls' [] h') d r1 r3 h As with
                | none => rw [hc] at hh; cases hh
                | some z =>
                  obtain ⟨v, h'⟩ := z
                  rw [hc] at hh
                  exact Or.inr (Or.inr (Or.inr ⟨⟨by omega, fun z => h0 (Or.inr z)⟩, As, rest, v, h', rfl, hw.1, hw.2, hc, hh⟩))
              · cases hh
def ip_le (h h' : Hp) : Prop := h.1.length ≤ h'.1.length ∧ h.2 ≤ h'.2
theorem ip_le_rf (h : Hp) : ip_le h h := ⟨Nat.le_refl _, Nat.le_refl _⟩
theorem ip_le.tr {a b c : Hp} (h1 : ip_le a b) (h2 : ip_le b c) : ip_le a c := ⟨Nat.le_trans h1.1 h2.1, Nat.le_trans h1.2 h2.2⟩
theorem ip_le_put (h : Hp) (a : Nat) (c : AC) : ip_le h (ip_put h a c) := ⟨by simp [ip_put], Nat.le_refl _⟩
theorem ip_le_push (h : Hp) (c : AC) (k : Nat) : ip_le h (h.1 ++ [c], h.2 + k) := ⟨by simp, Nat.le_add_right _ _⟩
theorem ip_ite_le {c : Prop} [Decidable c] {h : Hp} {a b : Option Nx} (ha : ∀ q, a = some q → ip_le h q.2.2.2) (hb : ∀ q, b = some q → ip_le h q.2.2.2) : ∀ q, (if c then a else b) = some q → ip_le h q.2.2.2 := by
  intro q hq
  split at hq
  · exact ha q hq
  · exact hb q hq
theorem ip_some_le {h : Hp} {x : Nx} (hx : ip_le h x.2.2.2) : ∀ q, some x = some q → ip_le h q.2.2.2 := by
  intro q hq
  cases hq
  exact hx
theorem ip_none_le {h : Hp} : ∀ q : Nx, none = some q → ip_le h q.2.2.2 := by
  intro q hq
  cases hq
set_option maxHeartbeats 4000000 in
set_option maxRecDepth 100000 in
theorem ip_st_mono {L : Nat} {xs : Nat → Int32} {ins : Instr} {pc r1 r2 r3 : Nat} {ls : Lv} {st : List Value} {h : Hp} : ∀ q, ip_st L xs ins pc r1 r2 r3 ls st h = some q → ip_le h q.2.2.2 := by
  intro q hst
  cases ins <;> first
    | (cases hst; done)
    | (cases hst; exact ip_le_rf _)
    | (obtain ⟨_, hg, hq⟩ := ip_gi_of hst; cases hq; exact ip_le_rf _)
    | (obtain ⟨_, hg, hq⟩ := ip_gl_of hst; cases hq; exact ip_le_rf _)
    | (obtain ⟨_, hg, hq⟩ := ip_gr_of hst; cases hq; exact ip_le_rf _)
    | (obtain ⟨_, _, _, hq⟩ := ip_b1_of hst; obtain ⟨_, _, hq⟩ := ip_ol_of hq; cases hq; exact ip_le_rf _)
    | (obtain ⟨_, _, _, hq⟩ := ip_r1_of hst; obtain ⟨_, _, hq⟩ := ip_ol_of hq; cases hq; exact ip_le_rf _)
    | (obtain ⟨_, _, _, hq⟩ := ip_l1_of hst; obtain ⟨_, _, hq⟩ := ip_ol_of hq; cases hq; exact ip_le_rf _)
    | (obtain ⟨_, hg, hq⟩ := ip_gi_of hst; obtain ⟨_, _, hq⟩ := ip_ol_of hq; cases hq; exact ip_le_rf _)
    | (obtain ⟨_, _, _, _, hq⟩ := ip_b2_of hst; cases hq; exact ip_le_rf _)
    | (obtain ⟨_, _, _, _, hq⟩ := ip_l2_of hst; cases hq; exact ip_le_rf _)
    | (obtain ⟨_, _, _, _, hq⟩ := ip_li_of hst; cases hq; exact ip_le_rf _)
    | (obtain ⟨_, _, _, hq⟩ := ip_b1_of hst; cases hq; exact ip_le_rf _)
    | (obtain ⟨_, _, _, hq⟩ := ip_l1_of hst; cases hq; exact ip_le_rf _)
    | (obtain ⟨_, _, _, hq⟩ := ip_v1_of hst; split at hq <;> cases hq; exact ip_le_rf _)
    | (obtain ⟨_, _, _, _, hq⟩ := ip_v2_of hst; split at hq <;> cases hq; exact ip_le_rf _)
    | (obtain ⟨_, _, _, _, hq⟩ := ip_b2_of hst; split at hq <;> cases hq; exact ip_le_rf _)
    | (obtain ⟨_, _, _, _, hq⟩ := ip_l2_of hst; split at hq <;> cases hq; exact ip_le_rf _)
    | (obtain ⟨_, _, _, _, hq⟩ := ip_ri_of hst; obtain ⟨_, _, _, hq⟩ := ip_ai_of hq; split at hq <;> cases hq; exact ip_le_rf _)
    | (obtain ⟨_, _, _, _, hq⟩ := ip_ri_of hst; obtain ⟨_, _, _, hq⟩ := ip_al_of hq; split at hq <;> cases hq; exact ip_le_rf _)
    | (obtain ⟨_, _, _, _, _, hq⟩ := ip_rii_of hst; obtain ⟨_, _, _, hq⟩ := ip_ai_of hq; split at hq <;> cases hq; exact ip_le_put _ _ _)
    | (obtain ⟨_, _, _, _, _, hq⟩ := ip_ril_of hst; obtain ⟨_, _, _, hq⟩ := ip_al_of hq; split at hq <;> cases hq; exact ip_le_put _ _ _)
    | (obtain ⟨_, _, _, _, _, hq⟩ := ip_rir_of hst; obtain ⟨_, _, _, _, _, hq⟩ := ip_ar_of hq; split at hq <;> cases hq; exact ip_le_put _ _ _)
    | (obtain ⟨_, _, _, _, hq⟩ := ip_rv_of hst; obtain ⟨_, _, hq⟩ := ip_ol_of hq; split at hq <;> cases hq; exact ip_le_put _ _ _)
    | (obtain ⟨_, _, hq⟩ := ip_ol_of hst; cases hq; exact ip_le_push _ _ _)
    | (dsimp only [ip_st] at hst; split at hst <;> cases hst <;> exact ip_le_rf _)
    | skip
  case tableswitch =>
    obtain ⟨_, _, _, hq⟩ := ip_b1_of hst
    split at hq
    · cases hq; exact ip_le_rf _
    · obtain ⟨_, _, hq⟩ := ip_ol_of hq
      split at hq <;> cases hq
      exact ip_le_rf _
  case lookupswitch =>
    obtain ⟨_, _, _, hq⟩ := ip_b1_of hst
    split at hq <;> cases hq
    exact ip_le_rf _
  case ifCond c o =>
    obtain ⟨_, _, _, hq⟩ := ip_b1_of hst
    cases c <;> dsimp only at hq <;> split at hq <;> cases hq <;> exact ip_le_rf _
  case if_icmp c o =>
    obtain ⟨_, _, _, _, hq⟩ := ip_b2_of hst
    cases c <;> dsimp only at hq <;> split at hq <;> cases hq <;> exact ip_le_rf _
  case if_acmp c o =>
    obtain ⟨_, _, _, _, hq⟩ := ip_r2_of hst
    split at hq
    · cases c <;> dsimp only at hq <;> split at hq <;> cases hq <;> exact ip_le_rf _
    · cases hq
  case getfield =>
    obtain ⟨_, _, _, hq⟩ := ip_r1_of hst
    split at hq
    · split at hq
      · obtain ⟨_, _, hq⟩ := ip_ol_of hq
        cases hq; exact ip_le_rf _
      · cases hq
    · split at hq
      · split at hq <;> cases hq
        exact ip_le_rf _
      · obtain ⟨_, _, hq⟩ := ip_ol_of hq
        split at hq
        · obtain ⟨_, _, hq⟩ := ip_ol_of hq
          cases hq; exact ip_le_rf _
        · cases hq
  case arraylength =>
    obtain ⟨_, _, _, hq⟩ := ip_r1_of hst
    split at hq
    · cases hq; exact ip_le_rf _
    · split at hq
      · cases hq; exact ip_le_rf _
      · split at hq
        · cases hq; exact ip_le_rf _
        · obtain ⟨_, _, hq⟩ := ip_ol_of hq
          split at hq <;> cases hq
          exact ip_le_rf _
  case baload =>
    obtain ⟨_, _, _, _, hq⟩ := ip_ri_of hst
    split at hq
    · split at hq <;> cases hq
      exact ip_le_rf _
    · obtain ⟨_, _, _, hq⟩ := ip_ai_of hq
      split at hq <;> cases hq
      exact ip_le_rf _
  case iaload =>
    obtain ⟨_, _, _, _, hq⟩ := ip_ri_of hst
    split at hq
    · split at hq <;> cases hq
      exact ip_le_rf _
    · obtain ⟨_, _, _, hq⟩ := ip_ai_of hq
      split at hq <;> cases hq
      exact ip_le_rf _
  case aaload =>
    obtain ⟨_, _, _, _, hq⟩ := ip_ri_of hst
    split at hq
    · split at hq <;> cases hq
      exact ip_le_rf _
    · obtain ⟨_, _, _, _, _, hq⟩ := ip_ar_of hq
      split at hq
      · obtain ⟨_, _, hq⟩ := ip_ol_of hq
        cases hq; exact ip_le_rf _
      · cases hq
  case newarray =>
    obtain ⟨_, _, _, hq⟩ := ip_b1_of hst
    split at hq
    · obtain ⟨_, _, hq⟩ := ip_ol_of hq
      cases hq; exact ip_le_push _ _ _
    · cases hq
  case anewarray =>
    obtain ⟨_, _, _, hq⟩ := ip_b1_of hst
    split at hq <;> cases hq
    exact ip_le_push _ _ _
theorem ip_cp_le {h h' : Hp} {As : List Value} (hh : ip_cp h As = some h') : ip_le h h' := by
  unfold ip_cp at hh
  split at hh
  · split at hh
    · split at hh
      · split at hh <;> cases hh
        exact ip_le_put _ _ _
      · split at hh <;> cases hh
        exact ip_le_put _ _ _
      · cases hh
    · cases hh
  · cases hh
theorem ip_ret_eq {k : Nat} {ret : Option FieldType} {st : List Value} {h hf : Hp} {r : Option Value} (hh : ip_ret k ret st h = some (r, hf)) : hf = h := by
  unfold ip_ret at hh
  split at hh
  · split at hh <;> cases hh; rfl
  · split at hh <;> cases hh; rfl
  · cases hh
theorem ip_cal_le {go : Nat → Nat → Lv → Hp → Option (Option Value × Hp)} (hgo : ∀ d y ls h v h', go d y ls h = some (v, h') → ip_le h h') {d r1 r3 : Nat} {h : Hp} {As : List Value} {v : Option Value} {h' : Hp} (hh : ip_cal go d r1 r3 h As = some (v, h')) : ip_le h h' := by
  unfold ip_cal at hh
  split at hh
  · split at hh
    · cases hh; exact ip_le_rf _
    · cases hh
  · obtain ⟨z, hz, hq⟩ := Option.map_eq_some_iff.mp hh
    cases hq
    exact ip_cp_le hz
  · cases hh
  · split at hh
    · split at hh
      · split at hh
        · split at hh
          · rename_i r hr
            obtain ⟨z, hz, hq⟩ := Option.map_eq_some_iff.mp hh
            cases hq
            have h1 := hgo _ _ _ _ r.1 r.2 hr
            refine h1.tr ?_
            unfold ip_or at hz
            split at hz
            · cases hz; exact ip_le_push _ _ _
            · split at hz <;> cases hz
              exact ip_le_put _ _ _
            · cases hz
          · cases hh
        · cases hh
      · cases hh
    · cases hh
  · cases hh
  · obtain ⟨z, hz, hq⟩ := Option.map_eq_some_iff.mp hh
    cases hq; exact ip_le_rf _
  · obtain ⟨z, hz, hq⟩ := Option.map_eq_some_iff.mp hh
    cases hq; exact ip_le_rf _
  · obtain ⟨z, hz, hq⟩ := Option.map_eq_some_iff.mp hh
    cases hq; exact ip_le_rf _
  · split at hh
    · cases hh
    · split at hh
      · split at hh
        · rename_i hr
          split at hh
          · cases hh
          · cases hh; exact hgo _ _ _ _ _ _ hr
        · cases hh
      · cases hh
theorem ip_run_le {L : Nat} {xs : Nat → Int32} : ∀ (n d y pc : Nat) (ls : Lv) (st : List Value) (h : Hp) (r : Option Value) (h' : Hp), ip_run L xs n d y pc ls st h = some (r, h') → ip_le h h' := by
  intro n
  induction n with
  | zero => intro d y pc ls st h r h' hh; cases hh
  | succ n ih =>
    intro d y pc ls st h r h' hh
    obtain ⟨M, ins, len, r1, r2, r3, -, -, c | c | c | c⟩ := ip_run_inv hh
    · rw [c.2.2.2.2]; exact ip_le_rf _
    · obtain ⟨-, pc', ls', st', h1, hs, hr⟩ := c
      exact (ip_st_mono _ hs).tr (ih _ _ _ _ _ _ _ _ hr)
    · rw [ip_ret_eq c.2.2]; exact ip_le_rf _
    · obtain ⟨-, As, rest, v, h1, -, -, -, hc, hr⟩ := c
      exact (ip_cal_le (fun d y ls h v h' hg => ih _ _ _ _ _ _ _ _ hg) hc).tr (ih _ _ _ _ _ _ _ _ hr)
theorem ip_pop_of : ∀ (n : Nat) (acc st As rest : List Value), ip_pop n acc st = some (As, rest) → As.reverse ++ rest = acc.reverse ++ st ∧ As.length = n + acc.length
  | 0, acc, st, As, rest, h => by cases h; exact ⟨rfl, by omega⟩
  | n + 1, acc, [], As, rest, h => by cases h
  | n + 1, acc, v :: st, As, rest, h => by
    obtain ⟨h1, h2⟩ := ip_pop_of n (v :: acc) st As rest h
    exact ⟨by rw [h1]; simp, by rw [h2]; simp; omega⟩
