/-! WHAT AN ABSTRACT STATE STANDS FOR: abstract addresses to real ones, values, cells, the world, the locals -/
def ip_ad (off : Nat) (sa : Nat → Nat) (k : Nat) : Nat := if k < 64 then sa k else off + (k - 64)
def ip_cv (ad : Nat → Nat) (v : Value) : Value := match v with
  | .ref k => .ref (ad k)
  | v => v
def ip_ca (ad : Nat → Nat) (a : vp_A) : vp_A := match a with
  | (n, .inr (.inr (.inr (.inr f)))) => (n, .inr (.inr (.inr (.inr fun j => (f j).map ad))))
  | (n, .inl f) => (n, .inl f)
  | (n, .inr (.inl f)) => (n, .inr (.inl f))
  | (n, .inr (.inr (.inl f))) => (n, .inr (.inr (.inl f)))
  | (n, .inr (.inr (.inr (.inl f)))) => (n, .inr (.inr (.inr (.inl f))))
def ip_ce (ad : Nat → Nat) (dA : Nat → ClassId) (c : AC) : va_E := match c with
  | .inl (t, a) => .inl (dA t, ip_ca ad a)
  | .inr (ci, fs) => .inr (ci, fs.map (ip_cv ad))
def ip_W (off : Nat) (ad : Nat → Nat) (dA : Nat → ClassId) (h : List AC) : va_W := h.mapIdx fun k c => (off + k, ip_ce ad dA c)
theorem ip_cv_cat (ad : Nat → Nat) (v : Value) : (ip_cv ad v).category = v.category := by cases v <;> rfl
theorem ip_ad_lo {off : Nat} {sa : Nat → Nat} {k : Nat} (h : k < 64) : ip_ad off sa k = sa k := if_pos h
theorem ip_ad_hi {off : Nat} {sa : Nat → Nat} {k : Nat} (h : ¬ k < 64) : ip_ad off sa k = off + (k - 64) := if_neg h
theorem ip_ad_new (off : Nat) (sa : Nat → Nat) (k : Nat) : ip_ad off sa (64 + k) = off + k := by rw [ip_ad_hi (by omega)]; congr 1; omega
section IW
variable {off : Nat} {ad : Nat → Nat} {dA : Nat → ClassId}
theorem ip_W_len (h : List AC) : (ip_W off ad dA h).length = h.length := by simp [ip_W]
theorem ip_W_at (h : List AC) (k : Nat) : (ip_W off ad dA h)[k]? = (h[k]?).map fun c => (off + k, ip_ce ad dA c) := by simp [ip_W]
theorem ip_W_get {h : List AC} {k : Nat} {c : AC} (hk : h[k]? = some c) : (ip_W off ad dA h)[k]? = some (off + k, ip_ce ad dA c) := by rw [ip_W_at, hk]; rfl
theorem ip_W_set (h : List AC) (k : Nat) (c : AC) : (ip_W off ad dA h).set k (off + k, ip_ce ad dA c) = ip_W off ad dA (h.set k c) := by
  apply List.ext_getElem?
  intro j
  rw [ip_W_at, List.getElem?_set, List.getElem?_set, ip_W_len, ip_W_at]
  by_cases hj : k = j
  · subst hj
    by_cases hl : k < h.length <;> simp [hl]
  · simp [hj]
theorem ip_W_app (h : List AC) (c : AC) : ip_W off ad dA (h ++ [c]) = ip_W off ad dA h ++ [(off + h.length, ip_ce ad dA c)] := by
  apply List.ext_getElem?
  intro j
  rw [ip_W_at, List.getElem?_append, List.getElem?_append, ip_W_len, ip_W_at]
  by_cases hl : j < h.length
  · simp [hl]
  · simp only [hl, if_false]
    by_cases hj : j = h.length
    · subst hj; simp
    · have h1 : ([c] : List AC)[j - h.length]? = none := by rw [List.getElem?_eq_none_iff]; simp; omega
      have h2 : ([(off + h.length, ip_ce ad dA c)] : va_W)[j - h.length]? = none := by rw [List.getElem?_eq_none_iff]; simp; omega
      rw [h1, h2]; rfl
theorem ip_W_D (h : List AC) : va_D (fun q : Nat => off ≤ q) (ip_W off ad dA h) := by
  have key : ∀ (k : Nat) (q : Nat × va_E), (ip_W off ad dA h)[k]? = some q → q.1 = off + k := by
    intro k q hq
    rw [ip_W_at] at hq
    cases hk : h[k]? with
    | none => rw [hk] at hq; cases hq
    | some c => rw [hk] at hq; cases hq; rfl
  exact ⟨fun i j x y hx hy hxy => by have := key i x hx; have := key j y hy; omega, fun k q hq => by have := key k q hq; show off ≤ q.1; omega⟩
end IW
/-! locals -/
def ip_lvl (ad : Nat → Nat) (ls : Lv) : List (Nat × Value) := (ls.mapIdx fun i o => (i, o)).filterMap fun q => q.2.map fun v => (q.1, ip_cv ad v)
theorem ip_lvl_mem {ad : Nat → Nat} {ls : Lv} {q : Nat × Value} : q ∈ ip_lvl ad ls ↔ ∃ v, ls[q.1]? = some (some v) ∧ q.2 = ip_cv ad v := by
  constructor
  · intro h
    obtain ⟨x, hx, hq⟩ := List.mem_filterMap.mp h
    obtain ⟨i, hi⟩ := List.getElem?_of_mem hx
    rw [List.getElem?_mapIdx] at hi
    cases ho : ls[i]? with
    | none => rw [ho] at hi; cases hi
    | some o =>
      rw [ho] at hi
      cases hi
      cases o with
      | none => cases hq
      | some v => cases hq; exact ⟨v, ho, rfl⟩
  · rintro ⟨v, h1, h2⟩
    refine List.mem_filterMap.mpr ⟨(q.1, some v), ?_, ?_⟩
    · exact List.mem_of_getElem? (i := q.1) (by rw [List.getElem?_mapIdx, h1]; rfl)
    · show some (q.1, ip_cv ad v) = some q
      rw [← h2]
def ip_lh (ad : Nat → Nat) (lsC : Array Slot) (nL : Nat) (ls : Lv) : Prop := ls.length = nL ∧ lv_has lsC nL (ip_lvl ad ls)
theorem ip_lg_at {ls : Lv} {i : Nat} {v : Value} (h : ip_lg ls i = some v) : ls[i]? = some (some v) := by
  unfold ip_lg at h
  cases ho : ls[i]? with
  | none => rw [ho] at h; cases h
  | some o => rw [ho] at h; dsimp only at h; rw [h]
theorem ip_lh.get {ad : Nat → Nat} {lsC : Array Slot} {nL : Nat} {ls : Lv} (hl : ip_lh ad lsC nL ls) {i : Nat} {v : Value} (h : ip_lg ls i = some v) : lsC[i]? = some (.val (ip_cv ad v)) :=
  hl.2.2.2 (i, ip_cv ad v) (ip_lvl_mem.mpr ⟨v, ip_lg_at h, rfl⟩)
theorem ip_lh.place {ad : Nat → Nat} {lsC : Array Slot} {nL : Nat} {ls : Lv} (_ : ip_lh ad lsC nL ls) {i : Nat} {v : Value} (h : ip_lg ls i = some v) : ∃ k : Nat, (ip_lvl ad ls)[k]? = some (i, ip_cv ad v) :=
  List.getElem?_of_mem (ip_lvl_mem.mpr ⟨v, ip_lg_at h, rfl⟩)
theorem ip_free_no {ls : Lv} {i j : Nat} {v : Value} (h : ip_free ls i = true) (hj : ls[j]? = some (some v)) (hij : j + 1 = i) : ¬ v.category = 2 := by
  subst hij
  have hg : ip_lg ls j = some v := by unfold ip_lg; rw [hj]
  simp only [ip_free, hg, beq_iff_eq] at h
  omega
theorem ip_s1_of {ls ls' : Lv} {i : Nat} {v : Value} (h : ip_s1 ls i v = some ls') : i < ls.length ∧ ip_free ls i = true ∧ ls' = ls.set i (some v) := by
  unfold ip_s1 at h
  split at h
  · rename_i hc
    simp only [Bool.and_eq_true, decide_eq_true_eq] at hc
    exact ⟨hc.1, hc.2, (Option.some.inj h).symm⟩
  · cases h
theorem ip_s2_of {ls ls' : Lv} {i : Nat} {v : Value} (h : ip_s2 ls i v = some ls') : i + 1 < ls.length ∧ ip_free ls i = true ∧ ls' = (ls.set i (some v)).set (i + 1) none := by
  unfold ip_s2 at h
  split at h
  · rename_i hc
    simp only [Bool.and_eq_true, decide_eq_true_eq] at hc
    exact ⟨hc.1, hc.2, (Option.some.inj h).symm⟩
  · cases h
theorem ip_lh.set1 {ad : Nat → Nat} {lsC lsC' : Array Slot} {nL : Nat} {ls ls' : Lv} {i : Nat} {v : Value} (hl : ip_lh ad lsC nL ls) (h : ip_s1 ls i v = some ls')
    (hh : lv_has lsC' nL ((i, ip_cv ad v) :: (ip_lvl ad ls).filter (fun q => !(q.1 == i) && !(q.1 + 1 == i && q.2.category == 2)))) : ip_lh ad lsC' nL ls' := by
  obtain ⟨h1, h2, h3⟩ := ip_s1_of h
  subst h3
  refine ⟨by rw [List.length_set]; exact hl.1, hh.1, hh.2.1, fun q hq => hh.2.2 q ?_⟩
  obtain ⟨w, hw, he⟩ := ip_lvl_mem.mp hq
  rw [List.getElem?_set] at hw
  by_cases hqi : i = q.1
  · rw [if_pos hqi, if_pos (by omega)] at hw
    cases hw
    obtain ⟨q1, q2⟩ := q
    dsimp only at hqi he
    rw [hqi, he]
    exact List.mem_cons_self
  · rw [if_neg hqi] at hw
    refine List.mem_cons_of_mem _ (List.mem_filter.mpr ⟨ip_lvl_mem.mpr ⟨w, hw, he⟩, ?_⟩)
    have hc : ¬ (q.1 + 1 = i ∧ q.2.category = 2) := fun z => ip_free_no h2 hw z.1 (by rw [← ip_cv_cat ad, ← he]; exact z.2)
    simp only [Bool.and_eq_true, Bool.not_eq_true', beq_eq_false_iff_ne, ne_eq, Bool.and_eq_false_iff]
    refine ⟨fun z => hqi z.symm, ?_⟩
    by_cases z : q.1 + 1 = i
    · exact Or.inr fun z2 => hc ⟨z, z2⟩
    · exact Or.inl z
theorem ip_lh.set2 {ad : Nat → Nat} {lsC lsC' : Array Slot} {nL : Nat} {ls ls' : Lv} {i : Nat} {v : Value} (hl : ip_lh ad lsC nL ls) (h : ip_s2 ls i v = some ls')
    (hh : lv_has lsC' nL ((i, ip_cv ad v) :: (ip_lvl ad ls).filter (fun q => !(q.1 == i) && (!(q.1 == i + 1) && !(q.1 + 1 == i && q.2.category == 2))))) : ip_lh ad lsC' nL ls' := by
  obtain ⟨h1, h2, h3⟩ := ip_s2_of h
  subst h3
  refine ⟨by rw [List.length_set, List.length_set]; exact hl.1, hh.1, hh.2.1, fun q hq => hh.2.2 q ?_⟩
  obtain ⟨w, hw, he⟩ := ip_lvl_mem.mp hq
  rw [List.getElem?_set] at hw
  by_cases hq1 : i + 1 = q.1
  · rw [if_pos hq1, if_pos (by rw [List.length_set]; omega)] at hw
    cases hw
  rw [if_neg hq1, List.getElem?_set] at hw
  by_cases hqi : i = q.1
  · rw [if_pos hqi, if_pos (by omega)] at hw
    cases hw
    obtain ⟨q1, q2⟩ := q
    dsimp only at hqi he
    rw [hqi, he]
    exact List.mem_cons_self
  · rw [if_neg hqi] at hw
    refine List.mem_cons_of_mem _ (List.mem_filter.mpr ⟨ip_lvl_mem.mpr ⟨w, hw, he⟩, ?_⟩)
    have hc : ¬ (q.1 + 1 = i ∧ q.2.category = 2) := fun z => ip_free_no h2 hw z.1 (by rw [← ip_cv_cat ad, ← he]; exact z.2)
    simp only [Bool.and_eq_true, Bool.not_eq_true', beq_eq_false_iff_ne, ne_eq, Bool.and_eq_false_iff]
    refine ⟨fun z => hqi z.symm, fun z => hq1 z.symm, ?_⟩
    by_cases z : q.1 + 1 = i
    · exact Or.inr fun z2 => hc ⟨z, z2⟩
    · exact Or.inl z
theorem ip_in_vp {i : Int32} {n : Nat} (h : ip_in i n = true) : vp_in i n := by
  simp only [ip_in, Bool.and_eq_true, decide_eq_true_eq] at h
  rintro (z | z)
  · exact absurd h.1 (Int32.not_le.mpr z)
  · omega
theorem ip_in_n {i : Int32} {n : Nat} (h : ip_in i n = true) : ¬ i < 0 ∧ i.toNatClampNeg < n := by
  simp only [ip_in, Bool.and_eq_true, decide_eq_true_eq] at h
  exact ⟨Int32.not_lt.mpr h.1, h.2⟩
/-! the entry's locals -/
theorem ip_ent_sl (ad : Nat → Nat) : ∀ vs : List Value, (ip_ent vs).length = (lg_sl (vs.map (ip_cv ad))).length
  | [] => rfl
  | v :: vs => by
    have ih := ip_ent_sl ad vs
    rw [List.map_cons]
    unfold ip_ent
    by_cases hc : v.category = 2
    · rw [if_pos hc]
      have : lg_sl (ip_cv ad v :: vs.map (ip_cv ad)) = [.val (ip_cv ad v), .second] ++ lg_sl (vs.map (ip_cv ad)) := by simp [lg_sl, ip_cv_cat, hc]
      rw [this]
      simp only [List.length_cons, List.length_append, List.length_nil, ih]; omega
    · rw [if_neg hc]
      have : lg_sl (ip_cv ad v :: vs.map (ip_cv ad)) = [.val (ip_cv ad v)] ++ lg_sl (vs.map (ip_cv ad)) := by simp [lg_sl, ip_cv_cat, hc]
      rw [this]
      simp only [List.length_cons, List.length_append, List.length_nil, ih]; omega
theorem ip_ent_at (ad : Nat → Nat) : ∀ (vs : List Value) (i k : Nat) (v : Value), (ip_ent vs)[k]? = some (some v) → (i + k, ip_cv ad v) ∈ lv_args i (vs.map (ip_cv ad))
  | [], i, k, v, h => by simp [ip_ent] at h
  | w :: vs, i, k, v, h => by
    rw [List.map_cons]
    unfold ip_ent at h
    unfold lv_args
    by_cases hc : w.category = 2
    · rw [if_pos hc] at h
      rw [if_pos (by rw [ip_cv_cat]; exact hc)]
      match k, h with
      | 0, h => rw [List.getElem?_cons_zero] at h; cases h; exact List.mem_cons_self
      | 1, h => rw [List.getElem?_cons_succ, List.getElem?_cons_zero] at h; cases h
      | k + 2, h =>
        rw [List.getElem?_cons_succ, List.getElem?_cons_succ] at h
        have := ip_ent_at ad vs (i + 2) k v h
        rw [show i + 2 + k = i + (k + 2) by omega] at this
        exact List.mem_cons_of_mem _ this
    · rw [if_neg hc] at h
      rw [if_neg (by rw [ip_cv_cat]; exact hc)]
      match k, h with
      | 0, h => rw [List.getElem?_cons_zero] at h; cases h; exact List.mem_cons_self
      | k + 1, h =>
        rw [List.getElem?_cons_succ] at h
        have := ip_ent_at ad vs (i + 1) k v h
        rw [show i + 1 + k = i + (k + 1) by omega] at this
        exact List.mem_cons_of_mem _ this
theorem ip_entry (ad : Nat → Nat) (vs : List Value) {n : Nat} (h : (ip_ent vs).length ≤ n) :
    ip_lh ad ((lg_sl (vs.map (ip_cv ad)) ++ List.replicate (n - (lg_sl (vs.map (ip_cv ad))).length) Slot.unset).toArray) n (ip_loc vs n) := by
  have hlen := ip_ent_sl ad vs
  have he := lv_entry (vs.map (ip_cv ad)) (n := n) (by rw [← hlen]; exact h)
  refine ⟨by simp [ip_loc]; omega, he.1, he.2.1, fun q hq => he.2.2 q ?_⟩
  obtain ⟨v, hv, hq2⟩ := ip_lvl_mem.mp hq
  unfold ip_loc at hv
  rw [List.getElem?_append] at hv
  by_cases hl : q.1 < (ip_ent vs).length
  · rw [if_pos hl] at hv
    have := ip_ent_at ad vs 0 q.1 v hv
    rw [Nat.zero_add] at this
    rw [← hq2] at this
    exact this
  · rw [if_neg hl, List.getElem?_replicate] at hv
    split at hv <;> cases hv
