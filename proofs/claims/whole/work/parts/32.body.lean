/-! A METHOD'S CONTRACT OUT OF ITS RUN -/
def ip_rm (d mc ms : Nat) : Room := { frames := d, cells := mc, slots := ms, locals := 64 * d }
def ip_Wl (off : Nat) (sa : Nat → Nat) (D : va_G) (dA : Nat → ClassId) (L : Nat) (xs : Nat → Int32) (h : Hp) (U : State) : Prop :=
  U.heap.size = off + h.1.length ∧ va_P D ip_cl (ip_W off (ip_ad off sa) dA h.1) U.heap ∧ va_K D ip_cl (ip_tys dA) U ∧ ip_Sx off sa L xs U U.heap
def ip_Q (off : Nat) (sa : Nat → Nat) (D : va_G) (dA : Nat → ClassId) (r : Option Value) (h' : Hp) : Array Value → State → Outcome → State → Prop := fun _ st oc t =>
  oc = .returned (r.map (ip_cv (ip_ad off sa))) ∧ t.heap.size = off + h'.1.length ∧ va_P D ip_cl (ip_W off (ip_ad off sa) dA h'.1) t.heap ∧ va_F (ip_A off) st t
def ip_ws (M : Mt) : List Cond := .code M.1 M.2.1 M.2.2.1 M.2.2.2.1 :: ip_tb
def ip_Met (l : Launch) (off : Nat) (sa : Nat → Nat) (D : va_G) (dA : Nat → ClassId) (L : Nat) (xs : Nat → Int32) (d : Nat) (M : Mt) (vs : List Value) (h : Hp) (r : Option Value) (h' : Hp) : Prop :=
  Met l M.1 (ip_ws M) (ip_rm d (h'.1.length - h.1.length) (h'.2 - h.2)) (va_Pc (vs.map (ip_cv (ip_ad off sa))) (ip_Wl off sa D dA L xs h)) (ip_Q off sa D dA r h') (h'.1.length - h.1.length) (h'.2 - h.2) (ip_A off)
theorem ip_blind {off : Nat} {sa : Nat → Nat} {D : va_G} {dA : Nat → ClassId} {L : Nat} {xs : Nat → Int32} {vs : List Value} {h : Hp} : FrameBlind (va_Pc vs (ip_Wl off sa D dA L xs h)) :=
  fun a U g mk q => ⟨q.1, q.2.1, q.2.2.1, va_K.moved (u := U) (U := U.calling g mk a) (Vm.Alike.refl U.vm) q.2.2.2.1, ip_Sx.same (u := U) (U := U.calling g mk a) rfl q.2.2.2.2⟩
theorem ip_mch_of {y : Nat} {M : Mt} (h : ip_ms[y]? = some M) : plainName M.1.cls = true ∧ M.1.cls ≠ "java/lang/invoke/MethodHandle" ∧ M.1.cls ≠ "java/lang/invoke/VarHandle" ∧ (parseMethodDescriptor M.1.desc).map (fun d => d.parameters.length) = some M.2.2.2.2.2.2.1 ∧ M.1.cls = ip_on M.2.2.2.2.1 ∧ M.2.2.1 ≤ 40 ∧ (M.2.2.2.2.2.1 = 2 → M.1.name = "<init>" ∧ M.2.2.2.1 = none) ∧ (M.2.2.2.2.2.1 = 1 → M.2.2.2.2.1 < 12 ∨ M.2.2.2.2.1 = 17) := by
  have h1 := List.all_eq_true.mp ip_mch_ok M (List.mem_of_getElem? h)
  unfold ip_mch at h1
  simp only [Bool.and_eq_true, decide_eq_true_eq] at h1
  obtain ⟨⟨⟨⟨⟨⟨⟨a1, a2⟩, a3⟩, a4⟩, a5⟩, a6⟩, a7⟩, a8⟩ := h1
  refine ⟨a1, a2, a3, a4, a5, a6, fun z => ?_, fun z => ?_⟩
  · rw [if_pos z] at a7
    simpa using a7
  · rw [if_pos z] at a8
    simpa using a8
theorem ip_cl_on : ∀ c, c < 12 → (match ip_cl[c]? with
  | some q => decide (q.1 = ip_on c)
  | none => false) = true := by decide +kernel
theorem ip_ML_of {e : Nat × Nat × Nat × Nat} (h : ip_ML.contains e = true) (h3 : e.2.2.2 ≠ 3) (h4 : e.2.2.2 ≠ 4) : Cond.methodLink (ip_on e.1) e.2.1 (ip_yn e) ∈ ip_tb :=
  ip_ML_in _ (List.mem_map.mpr ⟨e, List.mem_filter.mpr ⟨ip_mem_of h, by simp [h3, h4]⟩, rfl⟩)
theorem ip_ML_m {e : Nat × Nat × Nat × Nat} (h : ip_ML.contains e = true) (h5 : e.2.2.2 < 5) : ∃ M, ip_ms[e.2.2.1]? = some M ∧ 0 < e.2.2.1 ∧ (if e.2.2.2 = 0 then M.2.2.2.2.2.1 = 1 else if e.2.2.2 = 1 ∨ e.2.2.2 = 3 then M.2.2.2.2.2.1 = 0 else M.2.2.2.2.2.1 = 2) ∧ ip_yn e = M.1 := by
  have h1 := List.all_eq_true.mp ip_ML_ok e (ip_mem_of h)
  unfold ip_mok at h1
  rw [if_neg (by omega)] at h1
  cases hM : ip_ms[e.2.2.1]? with
  | none => rw [hM] at h1; cases h1
  | some M =>
    rw [hM] at h1
    dsimp only at h1
    rw [Bool.and_eq_true, decide_eq_true_eq] at h1
    refine ⟨M, rfl, h1.1, ?_, ?_⟩
    · have h2 := h1.2
      split at h2
      · rename_i z; rw [if_pos z]; simpa using h2
      · rename_i z
        rw [if_neg z]
        split at h2
        · rename_i z2; rw [if_pos z2]; simpa using h2
        · rename_i z2; rw [if_neg z2]; simpa using h2
    · unfold ip_yn ip_mn
      rw [if_neg (by omega), if_neg (by omega), if_neg (by omega), if_neg (by omega), if_neg (by omega), hM]
theorem ip_rc_of {h : Hp} {c : Nat} {As : List Value} (hh : ip_rc h c As = true) : ∃ (a : Nat) (ps : List Value), As = .ref a :: ps ∧ ((a = 32 ∧ c = 17) ∨ ∃ (ci : Nat) (fs : List Value), ip_obj h a = some (ci, fs) ∧ ci = c) := by
  unfold ip_rc at hh
  split at hh
  · split at hh
    · rename_i z
      exact ⟨_, _, rfl, Or.inl ⟨z, by simpa using hh⟩⟩
    · split at hh
      · rename_i o ho
        obtain ⟨ci, fs⟩ := o
        exact ⟨_, _, rfl, Or.inr ⟨ci, fs, ho, by simpa using hh⟩⟩
      · cases hh
  · cases hh
theorem ip_k5 {ins : Instr} (h5 : 5 ≤ ip_k ins) (h8 : ip_k ins ≠ 8) : (∃ i, ins = .invokevirtual i) ∨ (∃ i, ins = .invokestatic i) ∨ ∃ i, ins = .invokespecial i := by
  cases ins <;> first | exact Or.inl ⟨_, rfl⟩ | exact Or.inr (Or.inl ⟨_, rfl⟩) | exact Or.inr (Or.inr ⟨_, rfl⟩) | (exact absurd rfl h8) | (exact absurd h5 (by simp [ip_k]; done))
section BODY
variable {p : Program} {l : Launch} {e : Env} {R : Room} {s : State} {m : MethodId} {args : Array Value} {below : List Frame} {meth : Method} {c : Code} {H : Heap} {locs : List Loc} {cells slots : Nat} {Q : State → Prop}
variable {off : Nat} {sa : Nat → Nat} {D : va_G} {dA : Nat → ClassId} {L : Nat} {xs : Nat → Int32} {M : Mt} {pc : Nat} {h : Hp} {ls : Lv} {lsC : Array Slot}
theorem ip_pre (C : ip_C off sa D dA L xs M p s m args meth c) (hr : ip_R off sa D dA M.2.2.1 s h ls lsC H locs) : ∀ U : State, U.heap = H → s.WarmedH U.vm → ip_Wl off sa D dA L xs h U := by
  obtain ⟨-, -, -, -, -, -, -, -, hK, hSx, hoff⟩ := C
  intro U hU hW
  exact ⟨by rw [hU]; exact hr.2.1, by rw [hU]; exact hr.2.2.1, va_K.moved hW.alike hK, by rw [hU]; exact hSx.to hoff hr.2.2.2 hW⟩
theorem ip_call {mc ms : Nat} {r : Option Value} {h' : Hp} {a : Array Value} {st0 rest : List Value} (hr : va_Run p l e R s m args below meth c H locs cells slots mc ms (F0 m pc lsC st0) rest (ip_Q off sa D dA r h' a) (ip_A off)) (hS : va_S (ip_A off) s.heap H locs)
    (kk : ∀ (H1 : Heap) (locs1 : List Loc), H1.size = off + h'.1.length → va_P D ip_cl (ip_W off (ip_ad off sa) dA h'.1) H1 → va_S (ip_A off) s.heap H1 locs1 → W p l e R s m args below meth c H1 locs1 (cells + mc) (slots + ms) Q (F0 m (pc + 3) lsC ((r.map (ip_cv (ip_ad off sa))).toList ++ rest))) :
    W p l e R s m args below meth c H locs cells slots Q (F0 m pc lsC st0) := by
  intro T hT X
  obtain ⟨v, st₀, t, T', L, h0, X', hL, e1, e2, ⟨hv, hz, hP, hF1, hF2⟩, st⟩ := hr T hT X
  cases hv
  rw [h0] at hF1 hF2
  obtain ⟨t2, a1, b1⟩ := kk T'.heap (locs ++ L) (by rw [e1]; exact hz) (by rw [e1]; exact hP)
    ⟨Nat.le_trans hS.1 (by rw [e1]; exact hF1), fun q h1 h2 => by rw [e1, hF2 q (Nat.lt_of_lt_of_le h1 hS.1) h2]; exact hS.2.1 q h1 h2, fun q hq => by
      rcases List.mem_append.mp hq with h | h
      · exact hS.2.2 q h
      · exact hL q h⟩ T' rfl X'
  exact ⟨t2, st t2 a1, b1⟩
theorem ip_toL {v : Option Value} {rest : List Value} : (v.map (ip_cv (ip_ad off sa))).toList ++ rest.map (ip_cv (ip_ad off sa)) = (v.toList ++ rest).map (ip_cv (ip_ad off sa)) := by
  cases v <;> simp
/-- a call of one of the methods in ip_ms -/
theorem ip_norm {d len i r1 r2 r3 : Nat} {ins : Instr} {st As rest : List Value} {v : Option Value} {h' : Hp} {M' : Mt} (C : ip_C off sa D dA L xs M p s m args meth c)
    (hd : decode M.2.1 pc = .ok (ins, 3)) (hkd : (ins = .invokevirtual i ∧ r3 = 0) ∨ (ins = .invokestatic i ∧ (r3 = 1 ∨ r3 = 3)) ∨ (ins = .invokespecial i ∧ (r3 = 2 ∨ r3 = 4)))
    (hml : ip_ML.contains (M.2.2.2.2.1, i, r1, r3) = true) (hM' : ip_ms[r1]? = some M') (hnp : r2 = M'.2.2.2.2.2.2.1 + (if M'.2.2.2.2.2.1 = 0 then 0 else 1))
    (hr : ip_R off sa D dA M.2.2.1 s h ls lsC H locs) (hpop : ip_pop r2 [] st = some (As, rest)) (hw : (rest.map fun v => v.category).sum ≤ 8) (hd0 : 0 < d) (hRf : d ≤ R.frames) (hRl : 64 * d ≤ R.locals)
    (hrc : (r3 = 1 ∨ r3 = 3) ∨ ip_rc h M'.2.2.2.2.1 As = true) (hMet : ip_Met l off sa D dA L xs (d - 1) M' As h v h') (hcl : cells + (h'.1.length - h.1.length) ≤ R.cells) (hsl : slots + (h'.2 - h.2) ≤ R.slots)
    (K : ∀ (lsC' : Array Slot) (H' : Heap) (locs' : List Loc), ip_R off sa D dA M.2.2.1 s h' ls lsC' H' locs' → W p l e R s m args below meth c H' locs' (cells + (h'.1.length - h.1.length)) (slots + (h'.2 - h.2)) Q (F0 m (pc + 3) lsC' ((v.toList ++ rest).map (ip_cv (ip_ad off sa))))) :
    W p l e R s m args below meth c H locs cells slots Q (F0 m pc lsC (st.map (ip_cv (ip_ad off sa)))) := by
  obtain ⟨hx, hb, hret, hmL, hown, hts, hlocks, hnm, hK, hSx, hoff⟩ := id C
  obtain ⟨hlv, hsz, hP, hS⟩ := id hr
  have hlt5 : r3 < 5 := by rcases hkd with ⟨-, q⟩ | ⟨-, q | q⟩ | ⟨-, q | q⟩ <;> omega
  obtain ⟨M9, hM9, hy0, hmk, hyn⟩ := ip_ML_m hml hlt5
  cases hM'.symm.trans hM9
  dsimp only at hmk hyn hy0
  obtain ⟨c1, c2, c3, c4, c5, c6, c7, c8⟩ := ip_mch_of hM'
  have hmw := ip_mw_in hy0 hM'
  have hwc : Cond.code M'.1 M'.2.1 M'.2.2.1 M'.2.2.2.1 ∈ ip_tb := hmw _ (by simp [ip_mw])
  have hwi : Cond.initialized M'.1.cls ∈ ip_tb := hmw _ (by simp [ip_mw])
  have hwsin : ∀ w ∈ ip_ws M', w ∈ ip_tb := fun w hw => (List.mem_cons.mp hw).elim (fun z => by rw [z]; exact hwc) id
  have hgood : GoodIn ip_tb (ip_ws M') := ip_tb_good hwsin (fun _ z => z)
  obtain ⟨hp1, hp2⟩ := ip_pop_of _ _ _ _ _ hpop
  rw [List.reverse_nil, List.nil_append] at hp1
  have hAl : As.length = r2 := by rw [hp2]; simp
  have hRoom : (ip_rm (d - 1) (h'.1.length - h.1.length) (h'.2 - h.2)).frames + 1 ≤ R.frames ∧ 8 + (M'.2.2.1 + 11) + (ip_rm (d - 1) (h'.1.length - h.1.length) (h'.2 - h.2)).locals ≤ R.locals := by
    refine ⟨?_, ?_⟩ <;> simp only [ip_rm] <;> omega
  have hwR : 2 * (F0 m pc lsC (st.map (ip_cv (ip_ad off sa)))).monitorRoom + ((rest.map (ip_cv (ip_ad off sa))).map fun v => v.category).sum ≤ 8 := by
    refine lv_room ?_
    rw [List.map_map, show ((fun v : Value => v.category) ∘ ip_cv (ip_ad off sa)) = fun v : Value => v.category from funext fun v => ip_cv_cat _ v]
    exact hw
  have hstk : st.map (ip_cv (ip_ad off sa)) = (As.map (ip_cv (ip_ad off sa))).reverse ++ rest.map (ip_cv (ip_ad off sa)) := by rw [← hp1, List.map_append, List.map_reverse]
  have hfix : CallFix p m c M.2.1 M.2.2.1 s args ip_tb (ip_on M.2.2.2.2.1) := ⟨hx, hb, hmL, hown, hts⟩
  have hKc : ∀ (H1 : Heap) (locs1 : List Loc), H1.size = off + h'.1.length → va_P D ip_cl (ip_W off (ip_ad off sa) dA h'.1) H1 → va_S (ip_A off) s.heap H1 locs1 → W p l e R s m args below meth c H1 locs1 (cells + (h'.1.length - h.1.length)) (slots + (h'.2 - h.2)) Q (F0 m (pc + 3) lsC ((v.map (ip_cv (ip_ad off sa))).toList ++ rest.map (ip_cv (ip_ad off sa)))) := fun H1 locs1 z1 z2 z3 => by
    rw [ip_toL]
    exact K lsC H1 locs1 ⟨hlv, z1, z2, z3⟩
  rcases hkd with ⟨rfl, rfl⟩ | ⟨rfl, hk13⟩ | ⟨rfl, hk24⟩
  · rw [if_pos rfl] at hmk
    have hrc := hrc.resolve_left (by omega)
    rw [if_neg (by omega)] at hnp
    have hlink := ip_ML_of hml (show (0 : Nat) ≠ 3 by decide) (show (0 : Nat) ≠ 4 by decide)
    dsimp only at hlink
    rw [hyn] at hlink
    have hwin : Cond.instanceMethod M'.1 ∈ ip_tb ∧ Cond.selects M'.1.cls M'.1 M'.1 ∈ ip_tb := by
      refine ⟨hmw _ ?_, hmw _ ?_⟩ <;> simp [ip_mw, hmk]
    obtain ⟨a, ps, rfl, hao⟩ := ip_rc_of hrc
    obtain ⟨hrecv, hcva⟩ : (∃ cell : Cell, H[ip_ad off sa a]? = some cell ∧ cell.vm.isStatics = false ∧ s.vm.findClass M'.1.cls = some cell.cls) ∧ True := by
      refine ⟨?_, trivial⟩
      rcases hao with ⟨rfl, h17⟩ | ⟨ci, fs, ho, hci⟩
      · rw [c5, h17, ip_ad_lo (by decide)]
        exact vk_recv (i := 0) (adK := fun _ => sa 32) hSx.2.2.2.2.2.2.2.2.2.1 (by decide) hS
      · obtain ⟨ha, hc0⟩ := ip_obj_of ho
        have h12 : ci < 12 := by
          rcases c8 hmk with z | z
          · rw [hci]; exact z
          · exact absurd (hP _ _ (ip_W_get hc0)) (by rw [hci, z]; rintro ⟨r9, h9, -⟩; simp [ip_ce] at h9)
        have hon := ip_cl_on ci h12
        cases hq : ip_cl[ci]? with
        | none => rw [hq] at hon; cases hon
        | some q =>
          rw [hq] at hon
          have hqc : q.1 = M'.1.cls := by rw [c5, ← hci]; exact of_decide_eq_true hon
          rw [← hqc, ip_ad_hi ha]
          exact va_recv hK hP hq (ip_W_get hc0)
    refine ip_call (r := v) (h' := h') (a := ((Value.ref a :: ps).map (ip_cv (ip_ad off sa))).toArray) (rest := rest.map (ip_cv (ip_ad off sa))) ?_ hS hKc
    exact va_runV (As := ps.map (ip_cv (ip_ad off sa))) (b := ip_ad off sa a) (rest := rest.map (ip_cv (ip_ad off sa))) (g := F0 m pc lsC (st.map (ip_cv (ip_ad off sa)))) (H := H) (locs := locs) (cells := cells) (slots := slots) (below := below) (meth := meth) (l := l) (e := e) (R := R) hfix hMet
      (cwV (C := M'.1.cls) M'.2.2.2.2.2.2.1 hts (ip_tb_good (ws := wsV (ip_on M.2.2.2.2.1) i M'.1.cls M'.1 (ip_ws M')) (fun w hw9 => by
        unfold wsV at hw9
        rcases List.mem_append.mp hw9 with z | z
        · simp only [List.mem_cons, List.not_mem_nil, or_false] at z
          rcases z with rfl | rfl | rfl | rfl
          · exact hlink
          · exact hwin.1
          · exact hwin.2
          · exact hwi
        · exact hwsin w z) (fun _ z => z)) rfl rfl rfl ⟨rfl, c2, c3, c4⟩ hRoom)
      ⟨ip_blind, hrecv, fun U hU hW => ⟨rfl, ip_pre C hr U hU hW⟩⟩ rfl (by rw [List.length_map]; simp only [List.length_cons] at hAl; omega) hlv.2.1 (by rw [hstk, List.map_cons, List.reverse_cons, List.append_assoc]; rfl) hwR hd ⟨hcl, hsl⟩
  · have hmk0 : M'.2.2.2.2.2.1 = 0 := by
      rcases hk13 with rfl | rfl
      · rw [if_neg (by decide), if_pos (by decide)] at hmk; exact hmk
      · rw [if_neg (by decide), if_pos (by decide)] at hmk; exact hmk
    rw [if_pos hmk0] at hnp
    have hwst : Cond.static M'.1 ∈ ip_tb := hmw _ (by simp [ip_mw, hmk0])
    refine ip_call (r := v) (h' := h') (a := (As.map (ip_cv (ip_ad off sa))).toArray) (rest := rest.map (ip_cv (ip_ad off sa))) ?_ hS hKc
    rcases hk13 with rfl | rfl
    · have hlink := ip_ML_of hml (show (1 : Nat) ≠ 3 by decide) (show (1 : Nat) ≠ 4 by decide)
      dsimp only at hlink
      rw [hyn] at hlink
      exact va_runS (As := As.map (ip_cv (ip_ad off sa))) (rest := rest.map (ip_cv (ip_ad off sa))) (g := F0 m pc lsC (st.map (ip_cv (ip_ad off sa)))) hfix hMet
        (va_cwS M'.2.2.2.2.2.2.1 hts (ip_tb_good (ws := va_wsS (ip_on M.2.2.2.2.1) i M'.1 (ip_ws M')) (fun w hw9 => by
          unfold va_wsS at hw9
          rcases List.mem_append.mp hw9 with z | z
          · simp only [List.mem_cons, List.not_mem_nil, or_false] at z
            rcases z with rfl | rfl | rfl
            · exact hlink
            · exact hwst
            · exact hwi
          · exact hwsin w z) (fun _ z => z)) rfl rfl rfl ⟨c2, c3, c4⟩ hRoom)
        ⟨ip_blind, fun U hU hW => ⟨rfl, ip_pre C hr U hU hW⟩⟩ rfl (by rw [List.length_map]; omega) hlv.2.1 hstk hwR hd ⟨hcl, hsl⟩
    · have hlink := hSx.2.2.2.2.2.1 _ (ip_mem_of hml) (Or.inl rfl)
      dsimp only at hlink
      rw [hyn] at hlink
      exact va_runSN (As := As.map (ip_cv (ip_ad off sa))) (rest := rest.map (ip_cv (ip_ad off sa))) (g := F0 m pc lsC (st.map (ip_cv (ip_ad off sa)))) hfix hMet
        ⟨va_cnB M'.2.2.2.2.2.2.1 hts hgood rfl rfl rfl hlink (hts _ hwi) ⟨c2, c3, c4⟩ hRoom, hts _ hwst, trivial⟩
        ⟨ip_blind, fun U hU hW => ⟨rfl, ip_pre C hr U hU hW⟩⟩ rfl (by rw [List.length_map]; omega) hlv.2.1 hstk hwR hd ⟨hcl, hsl⟩
  · have hmk2 : M'.2.2.2.2.2.1 = 2 := by
      rcases hk24 with rfl | rfl
      · rw [if_neg (by decide), if_neg (by decide)] at hmk; exact hmk
      · rw [if_neg (by decide), if_neg (by decide)] at hmk; exact hmk
    rw [if_neg (by omega)] at hnp
    have hwin : Cond.instanceMethod M'.1 ∈ ip_tb := hmw _ (by simp [ip_mw, hmk2])
    obtain ⟨c71, c72⟩ := c7 hmk2
    obtain ⟨a, ps, rfl, hao⟩ := ip_rc_of (hrc.resolve_left (by rcases hk24 with rfl | rfl <;> omega))
    refine ip_call (r := v) (h' := h') (a := ((Value.ref a :: ps).map (ip_cv (ip_ad off sa))).toArray) (rest := rest.map (ip_cv (ip_ad off sa))) ?_ hS hKc
    rcases hk24 with rfl | rfl
    · have hlink := ip_ML_of hml (show (2 : Nat) ≠ 3 by decide) (show (2 : Nat) ≠ 4 by decide)
      dsimp only at hlink
      rw [hyn] at hlink
      have hw2 : ip_ws M' = Cond.code M'.1 M'.2.1 M'.2.2.1 none :: ip_tb := by unfold ip_ws; rw [c72]
      exact va_runI (As := ps.map (ip_cv (ip_ad off sa))) (b := ip_ad off sa a) (rest := rest.map (ip_cv (ip_ad off sa))) (g := F0 m pc lsC (st.map (ip_cv (ip_ad off sa)))) hfix hMet
        (cwI M'.2.2.2.2.2.2.1 hts hgood hw2 rfl rfl (hts _ hwi) (hts _ hlink) (hts _ hwin) c71 ⟨c2, c3, c4⟩ hRoom)
        ⟨ip_blind, fun U hU hW => ⟨rfl, ip_pre C hr U hU hW⟩⟩ rfl (by rw [List.length_map]; simp only [List.length_cons] at hAl; omega) hlv.2.1 (by rw [hstk, List.map_cons, List.reverse_cons, List.append_assoc]; rfl) hwR hd ⟨hcl, hsl⟩
    · have hlink := hSx.2.2.2.2.2.1 _ (ip_mem_of hml) (Or.inr rfl)
      dsimp only at hlink
      rw [hyn] at hlink
      have hw2 : ip_ws M' = Cond.code M'.1 M'.2.1 M'.2.2.1 none :: ip_tb := by unfold ip_ws; rw [c72]
      exact va_runIN (As := ps.map (ip_cv (ip_ad off sa))) (b := ip_ad off sa a) (rest := rest.map (ip_cv (ip_ad off sa))) (g := F0 m pc lsC (st.map (ip_cv (ip_ad off sa)))) hfix hMet
        ⟨va_cnB M'.2.2.2.2.2.2.1 hts hgood hw2 rfl rfl hlink (hts _ hwi) ⟨c2, c3, c4⟩ hRoom, c71, hts _ hwin⟩
        ⟨ip_blind, fun U hU hW => ⟨rfl, ip_pre C hr U hU hW⟩⟩ rfl (by rw [List.length_map]; simp only [List.length_cons] at hAl; omega) hlv.2.1 (by rw [hstk, List.map_cons, List.reverse_cons, List.append_assoc]; rfl) hwR hd ⟨hcl, hsl⟩
end BODY
