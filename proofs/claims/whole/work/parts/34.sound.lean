/-! SOUND: a run that ends gives the method's contract -/
/-- the law's own order(..): called by the law alone, it catches what the class's order(..) throws -/
def ip_no : MethodName := ⟨RL, "order", "(LLeaderlessOrder;II[J)I"⟩
def ip_HO (l : Launch) (off : Nat) (sa : Nat → Nat) (D : va_G) (dA : Nat → ClassId) (L : Nat) (xs : Nat → Int32) : Prop :=
  ∀ (d n : Nat) (h : Hp) (x o : Nat) (a b : Int32) (r : Option Value × Hp) (q : Value × Hp), 6 ≤ d → ip_rc h 10 [.ref x] = true → ip_run L xs n d iy_X11_order 0 (ip_loc [.ref x, .int a, .int b] 3) [] h = some r → ip_or r o = some q →
    ∀ (p : Program) (e : Env) (R : Room) (s : State) (m : MethodId) (args : Array Value) (below : List Frame) (meth : Method) (c : Code) (H : Heap) (locs : List Loc) (cells slots : Nat) (Q : State → Prop) (M : Mt) (pc : Nat) (ls : Lv) (lsC : Array Slot) (rest : List Value),
      ip_C off sa D dA L xs M p s m args meth c → M.2.2.2.2.1 = 12 → decode M.2.1 pc = .ok (.invokestatic 48, 3) → ip_R off sa D dA M.2.2.1 s h ls lsC H locs → (rest.map fun v => v.category).sum ≤ 8 → d + 2 ≤ R.frames → 64 * (d + 2) ≤ R.locals →
      cells + (q.2.1.length - h.1.length) ≤ R.cells → slots + (q.2.2 - h.2) ≤ R.slots →
      (∀ (lsC' : Array Slot) (H' : Heap) (locs' : List Loc), ip_R off sa D dA M.2.2.1 s q.2 ls lsC' H' locs' → W p l e R s m args below meth c H' locs' (cells + (q.2.1.length - h.1.length)) (slots + (q.2.2 - h.2)) Q (F0 m (pc + 3) lsC' ((q.1 :: rest).map (ip_cv (ip_ad off sa))))) →
      W p l e R s m args below meth c H locs cells slots Q (F0 m pc lsC ((.ref o :: .int b :: .int a :: .ref x :: rest).map (ip_cv (ip_ad off sa))))
theorem ip_cal5 (go : Nat → Nat → Lv → Hp → Option (Option Value × Hp)) (d r1 : Nat) (h : Hp) (As : List Value) : ip_cal go d r1 5 h As = (match As with
    | [.ref _] => some (none, h)
    | _ => none) := rfl
theorem ip_cal8 (go : Nat → Nat → Lv → Hp → Option (Option Value × Hp)) (d r1 : Nat) (h : Hp) (As : List Value) : ip_cal go d r1 8 h As = (if 8 ≤ d then match As with
    | [.ref x, .int a, .int b, .ref o] => if ip_rc h 10 [.ref x] = true then match go (d - 2) iy_X11_order (ip_loc [.ref x, .int a, .int b] 3) h with
      | some r => (ip_or r o).map fun q => (some q.1, q.2)
      | none => none
      else none
    | _ => none
    else none) := rfl
section SOUND
variable {p : Program} {l : Launch} {e : Env} {R : Room} {s : State} {m : MethodId} {args : Array Value} {below : List Frame} {meth : Method} {c : Code} {Q : State → Prop}
variable {off : Nat} {sa : Nat → Nat} {D : va_G} {dA : Nat → ClassId} {L : Nat} {xs : Nat → Int32} {M : Mt}
/-- what is owed where the run ends: at a return, or at a throw -/
def ip_E (p : Program) (l : Launch) (e : Env) (R : Room) (s : State) (m : MethodId) (args : Array Value) (below : List Frame) (meth : Method) (c : Code) (Q : State → Prop) (off : Nat) (sa : Nat → Nat) (D : va_G) (dA : Nat → ClassId) (M : Mt) (r : Option Value) (hf : Hp) (CE SE : Nat) : Prop :=
  ∀ (pc : Nat) (ins : Instr) (len r1 r2 r3 : Nat) (ls : Lv) (lsC : Array Slot) (H : Heap) (locs : List Loc) (st : List Value), (pc, ins, len, r1, r2, r3) ∈ M.2.2.2.2.2.2.2 → decode M.2.1 pc = .ok (ins, len) → ip_R off sa D dA M.2.2.1 s hf ls lsC H locs →
    ((ip_k ins = 8 ∧ r1 = 99 ∧ st = [] ∧ r = some (.retAddr 7)) ∨ (ip_k ins ≠ 0 ∧ ip_k ins < 5 ∧ ip_len ins = len ∧ ip_ret (ip_k ins) M.2.2.2.1 st hf = some (r, hf))) → W p l e R s m args below meth c H locs CE SE Q (F0 m pc lsC (st.map (ip_cv (ip_ad off sa))))
set_option maxHeartbeats 4000000 in
theorem ip_body (hall : ∀ M ∈ ip_ms, ip_chk M = true) (HO : M.2.2.2.2.1 = 12 → ip_HO l off sa D dA L xs) {d y : Nat} (hM : ip_ms[y]? = some M) (C : ip_C off sa D dA L xs M p s m args meth c) (hRf : d ≤ R.frames) (hRl : 64 * d ≤ R.locals)
    (IH : ∀ d', d' < d → ∀ (n y' : Nat) (M' : Mt) (vs : List Value) (h1 : Hp) (v : Option Value) (h2 : Hp), ip_ms[y']? = some M' → 0 < y' → (ip_ent vs).length ≤ M'.2.2.1 → ip_run L xs n d' y' 0 (ip_loc vs M'.2.2.1) [] h1 = some (v, h2) → v ≠ some (.retAddr 7) → ip_Met l off sa D dA L xs d' M' vs h1 v h2)
    {r : Option Value} {hf : Hp} {CE SE : Nat} (hCE : CE ≤ R.cells) (hSE : SE ≤ R.slots) (hE : ip_E p l e R s m args below meth c Q off sa D dA M r hf CE SE) :
    ∀ (n pc : Nat) (ls : Lv) (st : List Value) (h : Hp) (lsC : Array Slot) (H : Heap) (locs : List Loc) (cells slots : Nat), ip_run L xs n d y pc ls st h = some (r, hf) → ip_R off sa D dA M.2.2.1 s h ls lsC H locs → cells + (hf.1.length - h.1.length) = CE → slots + (hf.2 - h.2) = SE →
      W p l e R s m args below meth c H locs cells slots Q (F0 m pc lsC (st.map (ip_cv (ip_ad off sa)))) := by
  intro n
  induction n with
  | zero => intro pc ls st h lsC H locs cells slots hh; cases hh
  | succ n ih =>
    intro pc ls st h lsC H locs cells slots hh hr hcE hsE
    obtain ⟨M9, ins, len, r1, r2, r3, hM9, hmem, hcase⟩ := ip_run_inv hh
    cases hM.symm.trans hM9
    have hche := List.all_eq_true.mp (hall M (List.mem_of_getElem? hM)) _ hmem
    unfold ip_che at hche
    rw [Bool.and_eq_true, Bool.and_eq_true, decide_eq_true_eq] at hche
    obtain ⟨⟨hd, hok⟩, hnpk⟩ := hche
    dsimp only at hd
    have hlen : ip_len ins = 0 ∨ ip_len ins = len := by
      have := hok
      unfold ip_ok at this
      rw [Bool.and_eq_true] at this
      simpa using this.1
    obtain ⟨-, -, -, -, -, c6, c7, -⟩ := ip_mch_of hM
    rcases hcase with ⟨k8, k99, hst0, hrr, rfl⟩ | ⟨hk, pc', ls', st', h', hst, hrun⟩ | ⟨hk0, hk5, hret⟩ | ⟨⟨hk5, hk8⟩, As, rest, v, h', hpop, hw, hd0, hcal, hrun⟩
    · rw [Nat.sub_self, Nat.add_zero] at hcE hsE
      subst hcE hsE
      exact hE pc ins len r1 r2 r3 ls lsC H locs st hmem hd hr (Or.inl ⟨k8, k99, hst0, hrr⟩)
    · have hle1 := ip_st_mono _ hst
      have hle2 := ip_run_le _ _ _ _ _ _ _ _ _ hrun
      have a1 := hle1.1; have a2 := hle1.2; have a3 := hle2.1; have a4 := hle2.2
      dsimp only at a1 a2
      refine ip_step C (fun z => (c7 z).1) hok hd hr hst (by omega) (by omega) fun lsC' H' locs' hr' => ?_
      exact ih pc' ls' st' h' lsC' H' locs' _ _ hrun hr' (by omega) (by omega)
    · have hhf := ip_ret_eq hret
      subst hhf
      rw [Nat.sub_self, Nat.add_zero] at hcE hsE
      subst hcE hsE
      have hl : ip_len ins = len := by
        rcases hlen with z | z
        · exfalso
          revert z hk0 hk5
          cases ins <;> simp [ip_len, ip_k]
        · exact z
      exact hE pc ins len r1 r2 r3 ls lsC H locs st hmem hd hr (Or.inr ⟨hk0, hk5, hl, hret⟩)
    · have hle1 : ip_le h h' := ip_cal_le (fun d y ls h v h' hg => ip_run_le _ _ _ _ _ _ _ _ _ hg) hcal
      have hle2 := ip_run_le _ _ _ _ _ _ _ _ _ hrun
      have a1 := hle1.1; have a2 := hle1.2; have a3 := hle2.1; have a4 := hle2.2
      have hcl : cells + (h'.1.length - h.1.length) ≤ R.cells := by omega
      have hsl : slots + (h'.2 - h.2) ≤ R.slots := by omega
      have K : ∀ (lsC' : Array Slot) (H' : Heap) (locs' : List Loc), ip_R off sa D dA M.2.2.1 s h' ls lsC' H' locs' → W p l e R s m args below meth c H' locs' (cells + (h'.1.length - h.1.length)) (slots + (h'.2 - h.2)) Q (F0 m (pc + 3) lsC' ((v.toList ++ rest).map (ip_cv (ip_ad off sa)))) := fun lsC' H' locs' hr' => ih (pc + 3) ls _ h' lsC' H' locs' _ _ hrun hr' (by omega) (by omega)
      obtain ⟨hx, hb, -, hmL, hown, hts, -, -, hK, hSx, hoff⟩ := id C
      obtain ⟨hlv, hsz, hP, hS⟩ := id hr
      obtain ⟨hp1, hp2⟩ := ip_pop_of _ _ _ _ _ hpop
      rw [List.reverse_nil, List.nil_append] at hp1
      have hAl : As.length = r2 := by rw [hp2]; simp
      have hstk : st.map (ip_cv (ip_ad off sa)) = (As.map (ip_cv (ip_ad off sa))).reverse ++ rest.map (ip_cv (ip_ad off sa)) := by rw [← hp1, List.map_append, List.map_reverse]
      have hl3 : len = 3 := by
        rcases ip_k5 hk5 hk8 with ⟨i, rfl⟩ | ⟨i, rfl⟩ | ⟨i, rfl⟩ <;> exact (hlen.resolve_left (show ¬ ((3 : Nat) = 0) by decide)).symm
      subst hl3
      have hwR : 2 * (F0 m pc lsC (st.map (ip_cv (ip_ad off sa)))).monitorRoom + ((rest.map (ip_cv (ip_ad off sa))).map fun v => v.category).sum ≤ 8 := by
        refine lv_room ?_
        rw [List.map_map, show ((fun v : Value => v.category) ∘ ip_cv (ip_ad off sa)) = fun v : Value => v.category from funext fun v => ip_cv_cat _ v]
        exact hw
      have hws9 : ((rest.map (ip_cv (ip_ad off sa))).map fun v => v.category).sum ≤ 8 := by omega
      -- a call of one of ours
      have hnorm : ∀ i, r3 < 5 → ((ins = .invokevirtual i ∧ r3 = 0) ∨ (ins = .invokestatic i ∧ (r3 = 1 ∨ r3 = 3)) ∨ (ins = .invokespecial i ∧ (r3 = 2 ∨ r3 = 4))) → ip_ML.contains (M.2.2.2.2.1, i, r1, r3) = true → W p l e R s m args below meth c H locs cells slots Q (F0 m pc lsC (st.map (ip_cv (ip_ad off sa)))) := by
        intro i hr5 hkd hml
        obtain ⟨M', hM', hy0, -, -⟩ := ip_ML_m hml hr5
        dsimp only at hM' hy0
        have hnp : r2 = M'.2.2.2.2.2.2.1 + (if M'.2.2.2.2.2.1 = 0 then 0 else 1) := by
          unfold ip_npk at hnpk
          dsimp only at hnpk
          rw [if_neg (by omega), hM'] at hnpk
          exact of_decide_eq_true hnpk
        have hcal2 : ((r3 = 1 ∨ r3 = 3) ∨ ip_rc h M'.2.2.2.2.1 As = true) ∧ (ip_ent As).length ≤ M'.2.2.1 ∧ ip_run L xs n (d - 1) r1 0 (ip_loc As M'.2.2.1) [] h = some (v, h') ∧ v ≠ some (.retAddr 7) := by
          have key : ip_cal (fun d' y' ls' h' => ip_run L xs n d' y' 0 ls' [] h') d r1 r3 h As = (match ip_ms[r1]? with
            | none => none
            | some M' => if ((r3 = 1 ∨ r3 = 3) ∨ ip_rc h M'.2.2.2.2.1 As = true) ∧ (ip_ent As).length ≤ M'.2.2.1 then
                match ip_run L xs n (d - 1) r1 0 (ip_loc As M'.2.2.1) [] h with
                | some (v, h') => if v = some (.retAddr 7) then none else some (v, h')
                | none => none
              else none) := by
            match r3, hr5 with
            | 0, _ => rfl
            | 1, _ => rfl
            | 2, _ => rfl
            | 3, _ => rfl
            | 4, _ => rfl
          rw [key, hM'] at hcal
          dsimp only at hcal
          split at hcal
          · rename_i hcd
            split at hcal
            · rename_i hrn
              split at hcal
              · cases hcal
              · rename_i hne
                cases hcal
                exact ⟨hcd.1, hcd.2, hrn, hne⟩
            · cases hcal
          · cases hcal
        exact ip_norm (d := d) (len := 3) C hd hkd hml hM' hnp hr hpop hw hd0 hRf hRl hcal2.1 (IH (d - 1) (by omega) n r1 M' As h v h' hM' hy0 hcal2.2.1 hcal2.2.2.1 hcal2.2.2.2) hcl hsl K
      have hK0 : h' = h → ∀ (lsC' : Array Slot) (H' : Heap) (locs' : List Loc), ip_R off sa D dA M.2.2.1 s h ls lsC' H' locs' → W p l e R s m args below meth c H' locs' cells slots Q (F0 m (pc + 3) lsC' ((v.toList ++ rest).map (ip_cv (ip_ad off sa)))) := by
        intro hh' lsC' H' locs' hr'
        subst hh'
        have h0 := K lsC' H' locs' hr'
        rw [Nat.sub_self, Nat.sub_self, Nat.add_zero, Nat.add_zero] at h0
        exact h0
      unfold ip_ok at hok
      rw [Bool.and_eq_true] at hok
      replace hok := hok.2
      rcases ip_k5 hk5 hk8 with ⟨i, rfl⟩ | ⟨i, rfl⟩ | ⟨i, rfl⟩
      · dsimp only at hok
        simp only [Bool.or_eq_true, Bool.and_eq_true, decide_eq_true_eq] at hok
        rcases hok with ⟨rfl, hml⟩ | rfl
        · exact hnorm i (by decide) (Or.inl ⟨rfl, rfl⟩) hml
        · cases hcal
      · dsimp only at hok
        simp only [Bool.or_eq_true, Bool.and_eq_true, decide_eq_true_eq] at hok
        have hmath : ∀ (k : Nat) (w : Value), ip_ma k As = some w → v = some w → h' = h → r3 = k → ip_ML.contains (M.2.2.2.2.1, i, 0, k) = true → W p l e R s m args below meth c H locs cells slots Q (F0 m pc lsC (st.map (ip_cv (ip_ad off sa)))) := by
          intro k w hma hv hh' hk hml
          subst hv
          have h0 := hK0 hh' lsC H locs hr
          unfold ip_ma at hma
          split at hma
          · rename_i x y
            split at hma
            · rename_i k10
              cases hma
              subst k10
              have hlink := hts _ (ip_ML_of hml (show (10 : Nat) ≠ 3 by decide) (show (10 : Nat) ≠ 4 by decide))
              rw [hstk]
              exact va_mmax (rest := rest.map (ip_cv (ip_ad off sa))) hx hb (by rw [hmL]; exact hlv.2.1.symm) hown hlink (hts _ (ip_maw_in _ (by simp [ip_maw]))) (hts _ (ip_maw_in _ (by simp [ip_maw]))) (hts _ (ip_maw_in _ (by simp [ip_maw]))) (by omega) (by omega) (by omega) (by omega) hd h0
            · split at hma
              · rename_i k11
                cases hma
                subst k11
                have hlink := hts _ (ip_ML_of hml (show (11 : Nat) ≠ 3 by decide) (show (11 : Nat) ≠ 4 by decide))
                rw [hstk]
                exact va_mmin (rest := rest.map (ip_cv (ip_ad off sa))) hx hb (by rw [hmL]; exact hlv.2.1.symm) hown hlink (hts _ (ip_maw_in _ (by simp [ip_maw]))) (hts _ (ip_maw_in _ (by simp [ip_maw]))) (hts _ (ip_maw_in _ (by simp [ip_maw]))) (by omega) (by omega) (by omega) (by omega) hd h0
              · cases hma
          · rename_i x
            split at hma
            · rename_i k12
              cases hma
              subst k12
              have hlink := hts _ (ip_ML_of hml (show (12 : Nat) ≠ 3 by decide) (show (12 : Nat) ≠ 4 by decide))
              rw [hstk]
              exact va_mabs (rest := rest.map (ip_cv (ip_ad off sa))) hx hb (by rw [hmL]; exact hlv.2.1.symm) hown hlink (hts _ (ip_maw_in _ (by simp [ip_maw]))) (hts _ (ip_maw_in _ (by simp [ip_maw]))) (hts _ (ip_maw_in _ (by simp [ip_maw]))) (by omega) (by omega) (by omega) (by omega) hd h0
            · cases hma
          · cases hma
        rcases hok with ((((((⟨rfl, hml⟩ | ⟨rfl, hml⟩) | ⟨⟨rfl, hml⟩, h5⟩) | rfl) | ⟨⟨⟨rfl, ho⟩, rfl⟩, h4⟩) | ⟨⟨rfl, hml⟩, h2⟩) | ⟨⟨rfl, hml⟩, h2⟩) | ⟨⟨rfl, hml⟩, h2⟩
        · exact hnorm i (by decide) (Or.inr (Or.inl ⟨rfl, Or.inl rfl⟩)) hml
        · exact hnorm i (by decide) (Or.inr (Or.inl ⟨rfl, Or.inr rfl⟩)) hml
        · have hlink := ip_ML_of hml (show (6 : Nat) ≠ 3 by decide) (show (6 : Nat) ≠ 4 by decide)
          obtain ⟨h9, hcp, hq⟩ := Option.map_eq_some_iff.mp hcal
          cases hq
          unfold ip_cp at hcp
          split at hcp
          · rename_i a sp b dp nn
            split at hcp
            · rename_i hpos
              have hst9 : st = .int nn :: .int dp :: .ref b :: .int sp :: .ref a :: rest := by rw [← hp1]; rfl
              subst hst9
              split at hcp
              · rename_i n0 f n1 g ha hb9
                split at hcp
                · rename_i hlt
                  cases hcp
                  refine ip_copy_i (d := d) C hd hlink hr ha hb9 (Int32.not_lt.mpr hpos.1) (Int32.not_lt.mpr hpos.2.1) (Int32.not_lt.mpr hpos.2.2) hlt.1 hlt.2 hw hd0 hRf hRl fun lsC' H' locs' hr' => ?_
                  have h0 := K lsC' H' locs' hr'
                  rw [show ∀ c9, (ip_put h b c9).1.length = h.1.length from fun c9 => by simp [ip_put], show ∀ c9, (ip_put h b c9).2 = h.2 from fun c9 => rfl, Nat.sub_self, Nat.sub_self, Nat.add_zero, Nat.add_zero] at h0
                  exact h0
                · cases hcp
              · rename_i n0 f n1 g ha hb9
                split at hcp
                · rename_i hlt
                  cases hcp
                  refine ip_copy_l (d := d) C hd hlink hr ha hb9 (Int32.not_lt.mpr hpos.1) (Int32.not_lt.mpr hpos.2.1) (Int32.not_lt.mpr hpos.2.2) hlt.1 hlt.2 hw hd0 hRf hRl fun lsC' H' locs' hr' => ?_
                  have h0 := K lsC' H' locs' hr'
                  rw [show ∀ c9, (ip_put h b c9).1.length = h.1.length from fun c9 => by simp [ip_put], show ∀ c9, (ip_put h b c9).2 = h.2 from fun c9 => rfl, Nat.sub_self, Nat.sub_self, Nat.add_zero, Nat.add_zero] at h0
                  exact h0
                · cases hcp
              · cases hcp
            · cases hcp
          · cases hcp
        · cases hcal
        · rw [ip_cal8] at hcal
          split at hcal
          · rename_i h8
            split at hcal
            · rename_i x a b o
              split at hcal
              · rename_i hrc
                split at hcal
                · rename_i rr hrr
                  obtain ⟨q, hq, hq2⟩ := Option.map_eq_some_iff.mp hcal
                  cases hq2
                  have hst9 : st = .ref o :: .int b :: .int a :: .ref x :: rest := by rw [← hp1]; rfl
                  subst hst9
                  exact HO ho (d - 2) n h x o a b rr q (by omega) hrc hrr hq p e R s m args below meth c H locs cells slots Q M pc ls lsC rest C ho hd hr hw (by omega) (by omega) hcl hsl K
                · cases hcal
              · cases hcal
            · cases hcal
          · cases hcal
        · obtain ⟨w, hma, hq⟩ := Option.map_eq_some_iff.mp hcal
          cases hq
          exact hmath 10 w hma rfl rfl rfl hml
        · obtain ⟨w, hma, hq⟩ := Option.map_eq_some_iff.mp hcal
          cases hq
          exact hmath 11 w hma rfl rfl rfl hml
        · obtain ⟨w, hma, hq⟩ := Option.map_eq_some_iff.mp hcal
          cases hq
          exact hmath 12 w hma rfl rfl rfl hml
      · dsimp only at hok
        simp only [Bool.or_eq_true, Bool.and_eq_true, decide_eq_true_eq] at hok
        rcases hok with ((⟨rfl, hml⟩ | ⟨rfl, hml⟩) | ⟨⟨rfl, hml⟩, h1⟩) | rfl
        · exact hnorm i (by decide) (Or.inr (Or.inr ⟨rfl, Or.inl rfl⟩)) hml
        · exact hnorm i (by decide) (Or.inr (Or.inr ⟨rfl, Or.inr rfl⟩)) hml
        · rw [ip_cal5] at hcal
          split at hcal
          · rename_i a
            cases hcal
            have hlink := hts _ (ip_ML_of hml (show (5 : Nat) ≠ 3 by decide) (show (5 : Nat) ≠ 4 by decide))
            rw [hstk]
            exact W.objInit (rest := rest.map (ip_cv (ip_ad off sa))) hx hb hown hlink (hts _ (ip_objw_in _ (by simp [ip_objw]))) (hts _ (ip_objw_in _ (by simp [ip_objw]))) rfl (by rw [hmL]; exact hlv.2.1) rfl hd (by omega) (by have := lv_room (m := m) (pc := pc) (ls := lsC) (rest := rest.map (ip_cv (ip_ad off sa))) hws9; show 2 * 0 + _ + 12 ≤ _; omega) (hK0 rfl lsC H locs hr)
          · cases hcal
        · cases hcal
end SOUND
