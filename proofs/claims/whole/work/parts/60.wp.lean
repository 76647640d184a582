/-! RUNS AS CONDITIONS: Wp .. P: the run from here ends, and P holds of what it gives -/
theorem ip_run_eq {L : Nat} {xs : Nat → Int32} (n d y pc : Nat) (ls : Lv) (st : List Value) (h : Hp) : ip_run L xs (n + 1) d y pc ls st h = (match ip_ms[y]? with
    | none => none
    | some M => match ip_fe M.2.2.2.2.2.2.2 pc with
      | none => none
      | some (ins, _, r1, r2, r3) =>
        if ip_k ins = 8 ∧ r1 = 99 then (match st with
          | [] => some (some (.retAddr 7), h)
          | _ => none)
        else if ip_k ins = 0 ∨ ip_k ins = 8 then match ip_st L xs ins pc r1 r2 r3 ls st h with
          | none => none
          | some (pc', ls', st', h') => ip_run L xs n d y pc' ls' st' h'
        else if ip_k ins < 5 then ip_ret (ip_k ins) M.2.2.2.1 st h
        else match ip_pop r2 [] st with
          | none => none
          | some (As, rest) => if (rest.map fun v => v.category).sum ≤ 8 ∧ 0 < d then match ip_cal (fun d' y' ls' h' => ip_run L xs n d' y' 0 ls' [] h') d r1 r3 h As with
            | some (v, h') => ip_run L xs n d y (pc + 3) ls (v.toList ++ rest) h'
            | none => none
            else none) := rfl
theorem ip_cal_up {go go' : Nat → Nat → Lv → Hp → Option (Option Value × Hp)} (hgo : ∀ d d' y ls h r, d ≤ d' → go d y ls h = some r → go' d' y ls h = some r) {d d' r1 r3 : Nat} {h : Hp} {As : List Value} {r : Option Value × Hp} (hd : d ≤ d') (hh : ip_cal go d r1 r3 h As = some r) : ip_cal go' d' r1 r3 h As = some r := by
  unfold ip_cal at hh ⊢
  split at hh <;> try (first | exact hh | (split at hh <;> first | exact hh | cases hh))
  · split at hh
    · rename_i h8
      rw [if_pos (by omega)]
      split at hh
      · split at hh
        · rename_i hrc
          rw [if_pos hrc]
          split at hh
          · rename_i q hq
            rw [hgo _ _ _ _ _ _ (by omega) hq]
            exact hh
          · cases hh
        · cases hh
      · cases hh
    · cases hh
  · split at hh
    · cases hh
    · split at hh
      · rename_i hc
        rw [if_pos hc]
        split at hh
        · rename_i hq
          rw [hgo _ _ _ _ _ _ (by omega) hq]
          exact hh
        · cases hh
      · cases hh
theorem ip_run_up {L : Nat} {xs : Nat → Int32} : ∀ (n d d' y pc : Nat) (ls : Lv) (st : List Value) (h : Hp) (r : Option Value × Hp), d ≤ d' → ip_run L xs n d y pc ls st h = some r → ip_run L xs (n + 1) d' y pc ls st h = some r := by
  intro n
  induction n with
  | zero => intro d d' y pc ls st h r hd hh; cases hh
  | succ n ih =>
    intro d d' y pc ls st h r hd hh
    rw [ip_run_eq] at hh ⊢
    split at hh
    · cases hh
    · split at hh
      · cases hh
      · split at hh
        · rename_i hc
          rw [if_pos hc]; exact hh
        · rename_i hc
          rw [if_neg hc]
          split at hh
          · rename_i h0
            rw [if_pos h0]
            split at hh
            · cases hh
            · exact ih _ _ _ _ _ _ _ _ hd hh
          · rename_i h0
            rw [if_neg h0]
            split at hh
            · rename_i h5
              rw [if_pos h5]; exact hh
            · rename_i h5
              rw [if_neg h5]
              split at hh
              · cases hh
              · split at hh
                · rename_i hw
                  rw [if_pos ⟨hw.1, by omega⟩]
                  split at hh
                  · rename_i hq
                    rw [ip_cal_up (go := fun d' y' ls' h' => ip_run L xs n d' y' 0 ls' [] h') (go' := fun d' y' ls' h' => ip_run L xs (n + 1) d' y' 0 ls' [] h') (fun d d' y ls h r hd hg => ih _ _ _ _ _ _ _ _ hd hg) hd hq]
                    exact ih _ _ _ _ _ _ _ _ hd hh
                  · cases hh
                · cases hh
theorem ip_run_ups {L : Nat} {xs : Nat → Int32} {n m d d' y pc : Nat} {ls : Lv} {st : List Value} {h : Hp} {r : Option Value × Hp} (hn : n ≤ m) (hd : d ≤ d') (hh : ip_run L xs n d y pc ls st h = some r) : ip_run L xs m d' y pc ls st h = some r := by
  obtain ⟨k, rfl⟩ := Nat.le.dest hn
  clear hn
  induction k with
  | zero =>
    by_cases he : d = d'
    · subst he; exact hh
    · have h1 := ip_run_up _ _ d _ _ _ _ _ _ (Nat.le_refl d) hh
      cases n with
      | zero => cases hh
      | succ n =>
        have : ∀ n d d' y pc ls st h r, d ≤ d' → ip_run L xs n d y pc ls st h = some r → ip_run L xs n d' y pc ls st h = some r := by
          intro n
          induction n with
          | zero => intro d d' y pc ls st h r hd hh; cases hh
          | succ n ih =>
            intro d d' y pc ls st h r hd hh
            rw [ip_run_eq] at hh ⊢
            split at hh
            · cases hh
            · split at hh
              · cases hh
              · split at hh
                · rename_i hc
                  rw [if_pos hc]; exact hh
                · rename_i hc
                  rw [if_neg hc]
                  split at hh
                  · rename_i h0
                    rw [if_pos h0]
                    split at hh
                    · cases hh
                    · exact ih _ _ _ _ _ _ _ _ hd hh
                  · rename_i h0
                    rw [if_neg h0]
                    split at hh
                    · rename_i h5
                      rw [if_pos h5]; exact hh
                    · rename_i h5
                      rw [if_neg h5]
                      split at hh
                      · cases hh
                      · split at hh
                        · rename_i hw
                          rw [if_pos ⟨hw.1, by omega⟩]
                          split at hh
                          · rename_i hq
                            rw [ip_cal_up (go := fun d' y' ls' h' => ip_run L xs n d' y' 0 ls' [] h') (go' := fun d' y' ls' h' => ip_run L xs n d' y' 0 ls' [] h') (fun d d' y ls h r hd hg => ih _ _ _ _ _ _ _ _ hd hg) hd hq]
                            exact ih _ _ _ _ _ _ _ _ hd hh
                          · cases hh
                        · cases hh
        exact this _ _ _ _ _ _ _ _ _ hd hh
  | succ k ih => exact ip_run_up _ _ _ _ _ _ _ _ _ (Nat.le_refl d') ih
def Wp (L : Nat) (xs : Nat → Int32) (d y pc : Nat) (ls : Lv) (st : List Value) (h : Hp) (P : Option Value → Hp → Prop) : Prop := ∃ n r, ip_run L xs n d y pc ls st h = some r ∧ P r.1 r.2
def Kc (L : Nat) (xs : Nat → Int32) (d y pc : Nat) (ls : Lv) (st : List Value) (P : Option Value → Hp → Prop) : Option Value → Hp → Prop := fun v h => v ≠ some (.retAddr 7) ∧ Wp L xs d y pc ls (v.toList ++ st) h P
section WP
variable {L : Nat} {xs : Nat → Int32} {d y pc : Nat} {ls : Lv} {st : List Value} {h : Hp} {P : Option Value → Hp → Prop} {M : Mt} {ins : Instr} {len r1 r2 r3 : Nat}
theorem kc_i {x : Int32} : Kc L xs d y pc ls st P (some (.int x)) h = Wp L xs d y pc ls (.int x :: st) h P := propext ⟨fun q => q.2, fun q => ⟨by simp, q⟩⟩
theorem kc_l {x : Int64} : Kc L xs d y pc ls st P (some (.long x)) h = Wp L xs d y pc ls (.long x :: st) h P := propext ⟨fun q => q.2, fun q => ⟨by simp, q⟩⟩
theorem kc_r {x : Nat} : Kc L xs d y pc ls st P (some (.ref x)) h = Wp L xs d y pc ls (.ref x :: st) h P := propext ⟨fun q => q.2, fun q => ⟨by simp, q⟩⟩
theorem kc_n : Kc L xs d y pc ls st P none h = Wp L xs d y pc ls st h P := propext ⟨fun q => q.2, fun q => ⟨by simp, q⟩⟩
/-- a run that is known -/
theorem wp_det {n : Nat} {r : Option Value × Hp} (hr : ip_run L xs n d y pc ls st h = some r) : Wp L xs d y pc ls st h P = P r.1 r.2 := by
  refine propext ⟨?_, fun q => ⟨n, r, hr, q⟩⟩
  rintro ⟨m, r', h', q⟩
  have a1 := ip_run_ups (Nat.le_max_left n m) (Nat.le_refl d) hr
  have a2 := ip_run_ups (Nat.le_max_right n m) (Nat.le_refl d) h'
  cases a1.symm.trans a2
  exact q
theorem wp_mono {P' : Option Value → Hp → Prop} (hh : Wp L xs d y pc ls st h P) (k : ∀ v h', P v h' → P' v h') : Wp L xs d y pc ls st h P' := by
  obtain ⟨n, r, a, b⟩ := hh
  exact ⟨n, r, a, k _ _ b⟩
theorem wp_nx (hM : ip_ms[y]? = some M) (hf : ip_fe M.2.2.2.2.2.2.2 pc = some (ins, len, r1, r2, r3)) (hk : ip_k ins = 0 ∨ (ip_k ins = 8 ∧ r1 ≠ 99)) :
    Wp L xs d y pc ls st h P = (match ip_st L xs ins pc r1 r2 r3 ls st h with
      | none => False
      | some q => Wp L xs d y q.1 q.2.1 q.2.2.1 q.2.2.2 P) := by
  have key : ∀ n, ip_run L xs (n + 1) d y pc ls st h = (match ip_st L xs ins pc r1 r2 r3 ls st h with
      | none => none
      | some (pc', ls', st', h') => ip_run L xs n d y pc' ls' st' h') := by
    intro n
    rw [ip_run_eq, hM]
    dsimp only
    rw [hf]
    dsimp only
    rw [if_neg (by rcases hk with q | q; (rw [q]; rintro ⟨z, -⟩; cases z); exact fun z => q.2 z.2), if_pos (by rcases hk with q | q; exact Or.inl q; exact Or.inr q.1)]
  cases hs : ip_st L xs ins pc r1 r2 r3 ls st h with
  | none =>
    refine propext ⟨?_, fun z => z.elim⟩
    rintro ⟨n, r, hr, -⟩
    cases n with
    | zero => cases hr
    | succ n => rw [key, hs] at hr; cases hr
  | some q =>
    obtain ⟨pc', ls', st', h'⟩ := q
    refine propext ⟨?_, ?_⟩
    · rintro ⟨n, r, hr, hp⟩
      cases n with
      | zero => cases hr
      | succ n => rw [key, hs] at hr; exact ⟨n, r, hr, hp⟩
    · rintro ⟨n, r, hr, hp⟩
      exact ⟨n + 1, r, by rw [key, hs]; exact hr, hp⟩
/-- a step that goes one way -/
theorem wp_st {pc' : Nat} {ls' : Lv} {st' : List Value} {h' : Hp} (hM : ip_ms[y]? = some M) (hf : ip_fe M.2.2.2.2.2.2.2 pc = some (ins, len, r1, r2, r3)) (hk : ip_k ins = 0 ∨ (ip_k ins = 8 ∧ r1 ≠ 99)) (hs : ip_st L xs ins pc r1 r2 r3 ls st h = some (pc', ls', st', h')) :
    Wp L xs d y pc ls st h P = Wp L xs d y pc' ls' st' h' P := by rw [wp_nx hM hf hk, hs]
/-- a step that goes one of two ways -/
theorem wp_if {c : Prop} [Decidable c] {pc' pc2 : Nat} {ls' : Lv} {st' : List Value} (hM : ip_ms[y]? = some M) (hf : ip_fe M.2.2.2.2.2.2.2 pc = some (ins, len, r1, r2, r3)) (hk : ip_k ins = 0 ∨ (ip_k ins = 8 ∧ r1 ≠ 99)) (hs : ip_st L xs ins pc r1 r2 r3 ls st h = if c then some (pc', ls', st', h) else some (pc2, ls', st', h)) :
    Wp L xs d y pc ls st h P = if c then Wp L xs d y pc' ls' st' h P else Wp L xs d y pc2 ls' st' h P := by
  rw [wp_nx hM hf hk, hs]
  by_cases hc : c
  · rw [if_pos hc, if_pos hc]
  · rw [if_neg hc, if_neg hc]
theorem wp_rt {r : Option Value} (hM : ip_ms[y]? = some M) (hf : ip_fe M.2.2.2.2.2.2.2 pc = some (ins, len, r1, r2, r3)) (hk : (decide (0 < ip_k ins) && decide (ip_k ins < 5)) = true) (hr : ip_ret (ip_k ins) M.2.2.2.1 st h = some (r, h)) :
    Wp L xs d y pc ls st h P = P r h := by
  rw [Bool.and_eq_true, decide_eq_true_eq, decide_eq_true_eq] at hk
  refine wp_det (n := 1) (r := (r, h)) ?_
  rw [ip_run_eq, hM]
  dsimp only
  rw [hf]
  dsimp only
  rw [if_neg (by omega), if_neg (by omega), if_pos hk.2]
  exact hr
theorem wp_kal {As rest : List Value} (hM : ip_ms[y]? = some M) (hf : ip_fe M.2.2.2.2.2.2.2 pc = some (ins, len, r1, r2, r3)) (hk : (decide (4 < ip_k ins) && decide (ip_k ins < 8)) = true) (hp : ip_pop r2 [] st = some (As, rest)) (hw : decide ((rest.map fun v => v.category).sum ≤ 8) = true) (n : Nat) :
    ip_run L xs (n + 1) (d + 1) y pc ls st h = (match ip_cal (fun d' y' ls' h' => ip_run L xs n d' y' 0 ls' [] h') (d + 1) r1 r3 h As with
      | some (v, h') => ip_run L xs n (d + 1) y (pc + 3) ls (v.toList ++ rest) h'
      | none => none) := by
  rw [Bool.and_eq_true, decide_eq_true_eq, decide_eq_true_eq] at hk
  rw [ip_run_eq, hM]
  dsimp only
  rw [hf]
  dsimp only
  rw [if_neg (by omega), if_neg (by omega), if_neg (by omega), hp]
  dsimp only
  rw [if_pos ⟨of_decide_eq_true hw, by omega⟩]
/-- a call of one of ours -/
theorem wp_cal {As rest : List Value} {M' : Mt} (hM : ip_ms[y]? = some M) (hf : ip_fe M.2.2.2.2.2.2.2 pc = some (ins, len, r1, r2, r3)) (hk : (decide (4 < ip_k ins) && decide (ip_k ins < 8)) = true) (hp : ip_pop r2 [] st = some (As, rest)) (hw : decide ((rest.map fun v => v.category).sum ≤ 8) = true) (h3 : r3 < 5)
    (hM' : ip_ms[r1]? = some M') (hl : decide ((ip_ent As).length ≤ M'.2.2.1) = true) :
    Wp L xs (d + 1) y pc ls st h P = (((r3 = 1 ∨ r3 = 3) ∨ ip_rc h M'.2.2.2.2.1 As = true) ∧ Wp L xs d r1 0 (ip_loc As M'.2.2.1) [] h (Kc L xs (d + 1) y (pc + 3) ls rest P)) := by
  have hkal := wp_kal (L := L) (xs := xs) (d := d) (ls := ls) (h := h) hM hf hk hp hw
  have key : ∀ n, ip_cal (fun d' y' ls' h' => ip_run L xs n d' y' 0 ls' [] h') (d + 1) r1 r3 h As = (if ((r3 = 1 ∨ r3 = 3) ∨ ip_rc h M'.2.2.2.2.1 As = true) ∧ (ip_ent As).length ≤ M'.2.2.1 then
        match ip_run L xs n d r1 0 (ip_loc As M'.2.2.1) [] h with
        | some (v, h') => if v = some (.retAddr 7) then none else some (v, h')
        | none => none
      else none) := by
    intro n
    have : ip_cal (fun d' y' ls' h' => ip_run L xs n d' y' 0 ls' [] h') (d + 1) r1 r3 h As = (match ip_ms[r1]? with
            | none => none
            | some M' => if ((r3 = 1 ∨ r3 = 3) ∨ ip_rc h M'.2.2.2.2.1 As = true) ∧ (ip_ent As).length ≤ M'.2.2.1 then
                match ip_run L xs n d r1 0 (ip_loc As M'.2.2.1) [] h with
                | some (v, h') => if v = some (.retAddr 7) then none else some (v, h')
                | none => none
              else none) := by
      match r3, h3 with
      | 0, _ => rfl
      | 1, _ => rfl
      | 2, _ => rfl
      | 3, _ => rfl
      | 4, _ => rfl
    rw [this, hM']
  refine propext ⟨?_, ?_⟩
  · rintro ⟨n, r, hr, hP⟩
    cases n with
    | zero => cases hr
    | succ n =>
      rw [hkal, key] at hr
      split at hr
      · rename_i v h' hq
        split at hq
        · rename_i hc
          split at hq
          · rename_i v2 h2 hq2
            split at hq
            · cases hq
            · rename_i hne
              cases hq
              exact ⟨hc.1, n, (v, h'), hq2, hne, n, r, hr, hP⟩
          · cases hq
        · cases hq
      · cases hr
  · rintro ⟨hrc, n, ⟨v, h'⟩, hr, hne, m, r, hr2, hP⟩
    refine ⟨max n m + 1, r, ?_, hP⟩
    rw [hkal, key, if_pos ⟨hrc, of_decide_eq_true hl⟩, ip_run_ups (Nat.le_max_left n m) (Nat.le_refl _) hr]
    dsimp only
    rw [if_neg hne]
    exact ip_run_ups (Nat.le_max_right n m) (Nat.le_refl _) hr2
/-- a call that is worked out at once: Object's constructor, arraycopy, Math -/
theorem wp_prim {As rest : List Value} {v : Option Value} {h' : Hp} (hM : ip_ms[y]? = some M) (hf : ip_fe M.2.2.2.2.2.2.2 pc = some (ins, len, r1, r2, r3)) (hk : (decide (4 < ip_k ins) && decide (ip_k ins < 8)) = true) (hp : ip_pop r2 [] st = some (As, rest)) (hw : decide ((rest.map fun v => v.category).sum ≤ 8) = true)
    (hc : ∀ go, ip_cal go (d + 1) r1 r3 h As = some (v, h')) : Wp L xs (d + 1) y pc ls st h P = Wp L xs (d + 1) y (pc + 3) ls (v.toList ++ rest) h' P := by
  have hkal := wp_kal (L := L) (xs := xs) (d := d) (ls := ls) (h := h) hM hf hk hp hw
  refine propext ⟨?_, ?_⟩
  · rintro ⟨n, r, hr, hP⟩
    cases n with
    | zero => cases hr
    | succ n => rw [hkal, hc] at hr; exact ⟨n, r, hr, hP⟩
  · rintro ⟨n, r, hr, hP⟩
    exact ⟨n + 1, r, by rw [hkal, hc]; exact hr, hP⟩
end WP
