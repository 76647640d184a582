/-! THE LAW'S OWN order(..): it catches what the class's order(..) throws -/
def ip_jn : List String := ["java/lang/RuntimeException", "java/lang/Exception"]
def ip_cw : Cond := .codeWith ip_no method_3_code 5 (some .int) [(0, 10, 13, 13)]
def ip_hw : List Cond := [.methodLink RL 48 ip_no, .static ip_no, .initialized RL, .classLink RL 13 RJE, .methodLink RL 7 ⟨RX11, "order", "(II)I"⟩, .instanceMethod ⟨RX11, "order", "(II)I"⟩, .selects RX11 ⟨RX11, "order", "(II)I"⟩ ⟨RX11, "order", "(II)I"⟩, .initialized RX11, .classLink RX11 185 RJE, .initialized RJE]
theorem ip_hw_in : ∀ w ∈ ip_hw, w ∈ ip_tb := ip_wp _ [1347, 1348, 147, 1350, 1351, 1352, 1353, 148, 1355, 173] (by decide +kernel) (by decide +kernel)
theorem ip_at_in : ∀ w ∈ (vx_at0 RX11 187 RJE ip_jn).filter goodWord, w ∈ ip_tb := ip_wp _ [170, 1377, 1386, 1388, 1391, 1393, 1378, 1379, 181, 182, 1380, 1385, 1389, 1405, 1367, 1406, 1369, 1407, 1371, 1381, 1383, 1373, 1395, 1396, 1397, 1398, 1398, 1399, 1400, 1401, 1401, 1402, 1403, 1378, 1394, 1356, 1364, 1365, 1366, 1368, 1370, 1372, 1376, 1375, 1374] (by decide +kernel) (by decide +kernel)
set_option maxRecDepth 100000 in
theorem ip_cw_in : ip_cw ∈ ip_tb := List.mem_filter.mpr ⟨List.mem_of_getElem? (i := 1349) rfl, rfl⟩
theorem ip_at_dw : ∀ w ∈ (vx_at0 RX11 187 RJE ip_jn).filter (fun w => !goodWord w), w ∈ ip_dw := by decide +kernel
theorem ip_at_ot : ∀ w ∈ Cond.classLink RX11 185 RJE :: Cond.initialized RJE :: vx_at0 RX11 187 RJE ip_jn, vx_ot w = true := by decide +kernel
theorem ip_dw_tb : ∀ w ∈ ip_dw, w.onTables = true := by decide +kernel
theorem ip_o99 : ∀ e ∈ ic_121, ip_k e.2.1 = 8 → e.1 = 25 := by decide +kernel
def ip_XC (off : Nat) (sa : Nat → Nat) (D : va_G) (dA : Nat → ClassId) (h' : Hp) : String → State → State → Prop := fun E st t =>
  E = RJE ∧ t.heap.size = off + (h'.1 ++ [(.inr (12, []) : AC)]).length ∧ va_P D ip_cl (ip_W off (ip_ad off sa) dA (h'.1 ++ [(.inr (12, []) : AC)])) t.heap ∧ va_F (ip_A off) st t
section HO
variable {l : Launch} {off : Nat} {sa : Nat → Nat} {D : va_G} {dA : Nat → ClassId} {L : Nat} {xs : Nat → Int32}
set_option maxHeartbeats 4000000 in
theorem ip_ordT (hall : ∀ M ∈ ip_ms, ip_chk M = true) (hl : l.stackTraces = false) {d n : Nat} {h h' : Hp} {x : Nat} {a b : Int32} (hd : 6 ≤ d)
    (hrun : ip_run L xs n d iy_X11_order 0 (ip_loc [.ref x, .int a, .int b] 3) [] h = some (some (.retAddr 7), h')) :
    vx_Met l im_121.1 (ip_ws im_121) (ip_rm d (h'.1.length - h.1.length + 1) (h'.2 - h.2 + 6)) (va_Pc ([Value.ref x, .int a, .int b].map (ip_cv (ip_ad off sa))) (ip_Wl off sa D dA L xs h)) (fun _ _ _ _ => False) (ip_XC off sa D dA h') (h'.1.length - h.1.length + 1) (h'.2 - h.2 + 6) (ip_A off) := by
  have hM : ip_ms[iy_X11_order]? = some im_121 := rfl
  obtain ⟨c1, c2, c3, c4, c5, c6, c7, c8⟩ := ip_mch_of hM
  refine vx_ofW (cc := im_121.2.1) (maxL := im_121.2.2.1) (ret := im_121.2.2.2.1) (ws' := ip_tb) c1 rfl ?_
  intro p e s m args below meth c s₁ B hml htab hv
  obtain ⟨rfl, hsz, hP, hK, hSx⟩ := hv
  have hts := atoms_spec (ws := ip_ws im_121) B.pre
  have C : ip_C off sa D dA L xs im_121 p s m ([Value.ref x, .int a, .int b].map (ip_cv (ip_ad off sa))).toArray meth c := ⟨B.exec, B.bytes, B.returns, hml, by rw [← c5]; exact findClass_of_methodNamed B.named, fun w hw => hts w (List.mem_cons_of_mem _ hw), B.notSynchronized, fun _ => (name_of_methodNamed B.named B.method).1, hK, hSx, by omega⟩
  have hE : ip_E p l e (ip_rm d (h'.1.length - h.1.length + 1) (h'.2 - h.2 + 6)) s m ([Value.ref x, .int a, .int b].map (ip_cv (ip_ad off sa))).toArray below meth c (vx_MQ below (fun _ _ _ _ => False) (ip_XC off sa D dA h') ([Value.ref x, .int a, .int b].map (ip_cv (ip_ad off sa))).toArray s (h'.1.length - h.1.length + 1) (h'.2 - h.2 + 6) (ip_A off)) off sa D dA im_121 (some (.retAddr 7)) h' (h'.1.length - h.1.length) (h'.2 - h.2) := by
    intro pc ins len r1 r2 r3 ls lsC H locs st hmem hdg hr hcase
    rcases hcase with ⟨k8, -, rfl, -⟩ | ⟨hk0, hk5, hlen, hret⟩
    · have hpc : pc = 25 := ip_o99 _ hmem k8
      subst hpc
      obtain ⟨hx, hb, hrt, hmL, hown, htb, hlocks, hnm, -, -, hoff⟩ := C
      obtain ⟨hlv, hsz9, hP9, hS⟩ := hr
      have hat : ∀ w ∈ vx_at0 RX11 187 RJE ip_jn, w.before ([Value.ref x, .int a, .int b].map (ip_cv (ip_ad off sa))).toArray s = true :=
        vx_hat (B := ip_dw) (fun w hw => htb w (ip_at_in w hw)) ip_at_dw (fun w hw => va_Nw.use (ip_dw_tb w hw) (hSx.2.2.2.2.2.2.2.2.1 w hw))
      refine vx_throw0 (cc := im_121.2.1) (pc := 25) (own := RX11) (cls := RJE) (names := ip_jn) (ik := 185) (ic := 187) (A := ip_A off) (rest := []) hx hb hl hown (by decide) (by decide) (htb _ (ip_hw_in _ (by simp [ip_hw]))) (htb _ (ip_hw_in _ (by simp [ip_hw]))) hat ip_at_ot
        hSx.2.2.2.2.2.2.2.2.2.2.2.1 hSx.2.2.2.2.2.2.2.2.2.2.2.2 hS (by rw [hmL]; exact hlv.2.1) (by decide +kernel) (by decide +kernel) (by decide +kernel) (by decide +kernel) (fun z hz => (htab z hz).elim) (by simp only [ip_rm, ip_jn, List.length_cons, List.length_nil]; omega) (by simp only [ip_rm, ip_jn, List.length_cons, List.length_nil, List.map_nil, List.sum_nil]; omega) (Nat.le_refl _) (Nat.le_refl _) hlocks ?_ hS.2.2 (Nat.le_refl _) (Nat.le_refl _)
      intro t ce hvm hts9 hq hce hcv hcl
      refine ⟨rfl, ?_, ?_, ?_⟩
      · rw [hts9, hsz9, List.length_append]; rfl
      · rw [ip_W_app]
        intro k q hk
        rw [List.getElem?_append] at hk
        split at hk
        · exact (hP9 k q hk).kept (hq q.1 (vx_lt hP9 hk))
        · obtain ⟨i9, hi9⟩ : ∃ i9, k - (ip_W off (ip_ad off sa) dA h'.1).length = i9 := ⟨_, rfl⟩
          rw [hi9] at hk
          match i9, hk with
          | 0, hk =>
            cases hk
            refine ⟨(RJE, TJE, 0), rfl, ce, ?_, ?_, hcv, fun z hz => absurd hz (Nat.not_lt_zero _)⟩
            · rw [← hsz9]; exact hce
            · have h12 := (hK.1 12 _ rfl).2.1
              exact Option.some.inj (hcl.symm.trans h12)
          | _ + 1, hk => cases hk
      · exact ⟨by rw [hts9]; have := hS.1; omega, fun q9 h1 h2 => by rw [hq q9 (by have := hS.1; omega)]; exact hS.2.1 q9 h1 h2⟩
    · exfalso
      rcases ip_kr hk0 hk5 with rfl | rfl | rfl | rfl <;> revert hret <;> unfold ip_ret ip_rok <;> intro hret <;> (repeat' split at hret) <;> simp_all
  rw [lg_entry_eq]
  have hcl : h'.1.length - h.1.length ≤ (ip_rm d (h'.1.length - h.1.length + 1) (h'.2 - h.2 + 6)).cells := Nat.le_succ _
  have hsl : h'.2 - h.2 ≤ (ip_rm d (h'.1.length - h.1.length + 1) (h'.2 - h.2 + 6)).slots := by simp only [ip_rm]; omega
  exact ip_body hall (fun z => absurd z (by decide)) hM C (Nat.le_refl d) (Nat.le_refl (64 * d)) (fun d' _ n' y' M' vs' h1 v h2 a1 a2 a3 a4 a5 => ip_sound hall d' n' y' M' vs' h1 v h2 a1 a2 a3 a4 a5) hcl hsl hE n 0 _ [] h _ s.heap [] 0 0 hrun ⟨ip_entry _ _ (Nat.le_refl 3), hsz, hP, va_S.rf⟩ (Nat.zero_add _) (Nat.zero_add _)
def im_w : Mt := (ip_no, method_3_code, 5, some .int, 12, 0, 4, [])
theorem ip_stp {p : Program} {e : Env} {R : Room} {s : State} {m : MethodId} {args : Array Value} {below : List Frame} {meth : Method} {c : Code} {Q : State → Prop} {M : Mt} {pc : Nat} {h : Hp} {ls : Lv} {lsC : Array Slot} {H : Heap} {locs : List Loc} {cells slots : Nat} {ins : Instr} {len r1 r2 r3 : Nat} {st : List Value} {pc' : Nat} {ls' : Lv} {st' : List Value} {h' : Hp} (C : ip_C off sa D dA L xs M p s m args meth c) (hM2 : M.2.2.2.2.2.1 = 2 → M.1.name = "<init>") (hok : ip_ok M (pc, ins, len, r1, r2, r3) = true) (hd : decode M.2.1 pc = .ok (ins, len))
    (hst : ip_st L xs ins pc r1 r2 r3 ls st h = some (pc', ls', st', h')) (hn1 : h'.1.length = h.1.length) (hn2 : h'.2 = h.2) (hcl : cells ≤ R.cells) (hsl : slots ≤ R.slots)
    (K : ∀ (lsC' : Array Slot) (H' : Heap) (locs' : List Loc), ip_R off sa D dA M.2.2.1 s h' ls' lsC' H' locs' → W p l e R s m args below meth c H' locs' cells slots Q (F0 m pc' lsC' (st'.map (ip_cv (ip_ad off sa)))))
    (hr : ip_R off sa D dA M.2.2.1 s h ls lsC H locs) : W p l e R s m args below meth c H locs cells slots Q (F0 m pc lsC (st.map (ip_cv (ip_ad off sa)))) := by
  refine ip_step C hM2 hok hd hr hst (by omega) (by omega) fun lsC' H' locs' hr' => ?_
  rw [hn1, hn2, Nat.sub_self, Nat.sub_self, Nat.add_zero, Nat.add_zero]
  exact K lsC' H' locs' hr'
set_option maxHeartbeats 4000000 in
theorem ip_ordW (hall : ∀ M ∈ ip_ms, ip_chk M = true) (hl : l.stackTraces = false) {d n : Nat} {h : Hp} {x o : Nat} {a b : Int32} {r : Option Value × Hp} {q : Value × Hp} (hd : 6 ≤ d) (hrc : ip_rc h 10 [.ref x] = true)
    (hrun : ip_run L xs n d iy_X11_order 0 (ip_loc [.ref x, .int a, .int b] 3) [] h = some r) (hor : ip_or r o = some q) :
    Met l ip_no (ip_cw :: ip_tb) (ip_rm (d + 1) (q.2.1.length - h.1.length) (q.2.2 - h.2)) (va_Pc ([Value.ref x, .int a, .int b, .ref o].map (ip_cv (ip_ad off sa))) (ip_Wl off sa D dA L xs h)) (ip_Q off sa D dA (some q.1) q.2) (q.2.1.length - h.1.length) (q.2.2 - h.2) (ip_A off) := by
  refine va_MetW (cc := method_3_code) (maxL := 5) (ret := some .int) (hh := [(0, 10, 13, 13)]) (ws' := ip_tb) (by decide) rfl ?_
  intro p e s m args below meth c s₁ B hml hv
  obtain ⟨rfl, hsz, hP, hK, hSx⟩ := hv
  have hts := atoms_spec (ws := ip_cw :: ip_tb) B.pre
  have htb : ∀ w ∈ ip_tb, w.before ([Value.ref x, .int a, .int b, .ref o].map (ip_cv (ip_ad off sa))).toArray s = true := fun w hw => hts w (List.mem_cons_of_mem _ hw)
  have C : ip_C off sa D dA L xs im_w p s m ([Value.ref x, .int a, .int b, .ref o].map (ip_cv (ip_ad off sa))).toArray meth c := ⟨B.exec, B.bytes, B.returns, hml, findClass_of_methodNamed B.named, htb, B.notSynchronized, fun z => absurd z (by decide), hK, hSx, by omega⟩
  have htbl : c.exceptionTable.toList = tableOf [(0, 10, 13, 13)] := vx_table (x := ip_no) B (hts _ List.mem_cons_self)
  have hle := ip_run_le _ _ _ _ _ _ _ _ _ (show ip_run L xs n d iy_X11_order 0 (ip_loc [.ref x, .int a, .int b] 3) [] h = some (r.1, r.2) from hrun)
  have l1 := hle.1
  have l2 := hle.2
  obtain ⟨hx, hb, hrt, hmL, hown, -, hlocks, -, -, -, hoff⟩ := id C
  rw [lg_entry_eq]
  have hr0 : ip_R off sa D dA im_w.2.2.1 s h (ip_loc [.ref x, .int a, .int b, .ref o] 5) _ s.heap [] := ⟨ip_entry _ [Value.ref x, .int a, .int b, .ref o] (n := 5) (show 4 ≤ 5 by decide), hsz, hP, va_S.rf⟩
  refine ip_stp (pc := 0) (ins := .aload_n 3) (len := 1) (r1 := 0) (r2 := 0) (r3 := 0) (st := []) C (fun z => absurd z (by decide)) rfl (by decide +kernel) rfl rfl rfl (Nat.zero_le _) (Nat.zero_le _) (fun lsC H locs hr => ?_) hr0
  refine ip_stp (pc := 1) (ins := .iconst 0) (len := 1) (r1 := 0) (r2 := 0) (r3 := 0) C (fun z => absurd z (by decide)) rfl (by decide +kernel) rfl rfl rfl (Nat.zero_le _) (Nat.zero_le _) (fun lsC H locs hr => ?_) hr
  refine ip_stp (pc := 2) (ins := .aload_n 0) (len := 1) (r1 := 0) (r2 := 0) (r3 := 0) C (fun z => absurd z (by decide)) rfl (by decide +kernel) rfl rfl rfl (Nat.zero_le _) (Nat.zero_le _) (fun lsC H locs hr => ?_) hr
  refine ip_stp (pc := 3) (ins := .iload_n 1) (len := 1) (r1 := 0) (r2 := 0) (r3 := 0) C (fun z => absurd z (by decide)) rfl (by decide +kernel) rfl rfl rfl (Nat.zero_le _) (Nat.zero_le _) (fun lsC H locs hr => ?_) hr
  refine ip_stp (pc := 4) (ins := .iload_n 2) (len := 1) (r1 := 0) (r2 := 0) (r3 := 0) C (fun z => absurd z (by decide)) rfl (by decide +kernel) rfl rfl rfl (Nat.zero_le _) (Nat.zero_le _) (fun lsC H locs hr => ?_) hr
  obtain ⟨hlv, hsz9, hP9, hS⟩ := id hr
  have hdg : decode method_3_code 5 = .ok (.invokevirtual 7, 3) := by decide +kernel
  have hM : ip_ms[iy_X11_order]? = some im_121 := rfl
  obtain ⟨c1, c2, c3, c4, c5, c6, c7, c8⟩ := ip_mch_of hM
  have hmw := ip_mw_in (by decide) hM
  have hwsin : ∀ w ∈ ip_ws im_121, w ∈ ip_tb := fun w hw => (List.mem_cons.mp hw).elim (fun z => by rw [z]; exact hmw _ (by simp [ip_mw])) (fun z => z)
  have hfix : CallFix p m c method_3_code 5 s ([Value.ref x, .int a, .int b, .ref o].map (ip_cv (ip_ad off sa))).toArray ip_tb (ip_on 12) := ⟨hx, hb, hmL, hown, htb⟩
  obtain ⟨a9, ps9, hps, hao⟩ := ip_rc_of hrc
  cases hps
  have hrecv : ∃ cell : Cell, H[ip_ad off sa x]? = some cell ∧ cell.vm.isStatics = false ∧ s.vm.findClass RX11 = some cell.cls := by
    rcases hao with ⟨-, h17⟩ | ⟨ci, fs, ho, hci⟩
    · cases h17
    · obtain ⟨ha, hc0⟩ := ip_obj_of ho
      subst hci
      rw [ip_ad_hi ha]
      exact va_recv (q := (RX11, TX11, 13)) hK hP9 rfl (ip_W_get hc0)
  have hcw : ∀ (mc ms : Nat), CallW (ip_rm (d + 1) (q.2.1.length - h.1.length) (q.2.2 - h.2)) s ([Value.ref x, .int a, .int b, .ref o].map (ip_cv (ip_ad off sa))).toArray (ip_on 12) RX11 7 im_121.1 im_121.2.1 3 (some .int) (ip_ws im_121) (ip_rm d mc ms) mc ms 2 := fun mc ms =>
    cwV (C := RX11) 2 htb (ip_tb_good (ws := wsV (ip_on 12) 7 RX11 im_121.1 (ip_ws im_121)) (fun w hw9 => by
        unfold wsV at hw9
        rcases List.mem_append.mp hw9 with z | z
        · simp only [List.mem_cons, List.not_mem_nil, or_false] at z
          rcases z with rfl | rfl | rfl | rfl
          · exact ip_hw_in _ (by simp [ip_hw, im_121, ip_on, ip_own])
          · exact ip_hw_in _ (by simp [ip_hw, im_121])
          · exact ip_hw_in _ (by simp [ip_hw, im_121])
          · exact ip_hw_in _ (by simp [ip_hw, im_121])
        · exact hwsin w z) (fun _ z => z)) rfl rfl rfl ⟨rfl, by decide, by decide, by decide⟩ ⟨by simp only [ip_rm]; omega, by simp only [ip_rm]; omega⟩
  obtain ⟨r1, h1⟩ := r
  dsimp only at l1 l2
  unfold ip_or at hor
  dsimp only at hor
  split at hor
  · -- thrown
    cases hor
    have hT := ip_ordT (off := off) (sa := sa) (D := D) (dA := dA) hall hl hd hrun
    have e1 : (h1.1 ++ [(.inr (12, []) : AC)]).length - h.1.length = h1.1.length - h.1.length + 1 := by rw [List.length_append, List.length_singleton]; omega
    have e2 : h1.2 + 6 - h.2 = h1.2 - h.2 + 6 := by omega
    intro T hTh X
    rcases vx_runV (As := [Value.int a, .int b].map (ip_cv (ip_ad off sa))) (b := ip_ad off sa x) (rest := [Value.int 0, .ref o].map (ip_cv (ip_ad off sa))) (g := F0 m 5 lsC ([Value.int b, .int a, .ref x, .int 0, .ref o].map (ip_cv (ip_ad off sa)))) (H := H) (locs := locs) (cells := 0) (slots := 0) (below := below) (meth := meth) (l := l) (e := e) hfix hT (hcw _ _)
      ⟨ip_blind, hrecv, fun U hU hW => ⟨rfl, ip_pre C hr U hU hW⟩⟩ rfl rfl hlv.2.1 rfl (by simp [ip_cv, F0, Value.category]) hdg ⟨by simp only [ip_rm]; omega, by simp only [ip_rm]; omega⟩ T hTh X with ⟨v, st₀, t, T', L9, h0, X', hL, f1, f2, hq, st⟩ | ⟨q9, st₀, t, T', L9, E, ce, h0, X', hL, f1, f2, ⟨rfl, hsz1, hP1, hF⟩, hce, hcv, hcl, st⟩
    · exact hq.elim
    · obtain ⟨k1, k2, k3⟩ := vx_keep h0 f1 hS (fun _ _ z => z) (fun _ z => z) hL hF
      have key : vx_W p l e (ip_rm (d + 1) ((h1.1 ++ [(.inr (12, []) : AC)]).length - h.1.length) (h1.2 + 6 - h.2)) s m ([Value.ref x, .int a, .int b, .ref o].map (ip_cv (ip_ad off sa))).toArray below meth c T'.heap (locs ++ L9) (0 + (h1.1.length - h.1.length + 1)) (0 + (h1.2 - h.2 + 6)) (MQ below (ip_Q off sa D dA (some (.int 1)) (h1.1 ++ [.inr (12, [])], h1.2 + 6)) ([Value.ref x, .int a, .int b, .ref o].map (ip_cv (ip_ad off sa))).toArray s ((h1.1 ++ [(.inr (12, []) : AC)]).length - h.1.length) (h1.2 + 6 - h.2) (ip_A off)) (F0 m 5 lsC ([Value.int 0, .ref o].map (ip_cv (ip_ad off sa)))) q9 := by
        refine vx_catch (own := RL) (name := RJE) (E := RJE) (ce := ce) hown ⟨0, 10, 13, 13⟩ [] htbl (by decide) (by decide) (htb _ (ip_hw_in _ (by simp [ip_hw]))) (va_Nw.use rfl (hSx.2.2.2.2.2.2.2.2.1 _ (by simp [ip_dw]))) (by rw [f1]; exact hce) hcv hcl ?_
        refine lv_astore (i := 4) (nL := 5) hx hb (by decide +kernel) hlv.2 (by decide) rfl fun ls9 hls9 => ?_
        refine lv_iconst hx hb (n := 1) (v := 1) (by decide +kernel) rfl ?_
        rw [e1, e2, Nat.zero_add, Nat.zero_add]
        refine W.iret hx hb (by rw [hrt]; rfl) (fun t9 ht9 hW9 => ⟨rfl, by rw [ht9, f1]; exact hsz1, by rw [ht9, f1]; exact hP1, k3.F ht9⟩) k3.2.2 (by decide +kernel) hlocks
      obtain ⟨t2, a1, b1⟩ := key T' rfl X'
      exact ⟨t2, st.trans a1, b1⟩
  · -- returned
    rename_i v
    split at hor
    · rename_i f harr
      cases hor
      have hMet := ip_sound (l := l) (off := off) (sa := sa) (D := D) (dA := dA) hall d n iy_X11_order im_121 [.ref x, .int a, .int b] h (some (.int v)) h1 hM (by decide) (Nat.le_refl 3) hrun (by simp)
      have hA : ∀ X : AC, (h1.1.length - h.1.length) ≤ (ip_put h1 o X).1.length - h.1.length := fun X => by simp [ip_put]
      have hB : ∀ X : AC, (h1.2 - h.2) ≤ (ip_put h1 o X).2 - h.2 := fun X => Nat.le_refl _
      have e1 : (ip_put h1 o (.inl (1, 1, .inr (.inl (vp_updL f 0 v.toInt64))))).1.length = h1.1.length := by simp [ip_put]
      have e2 : (ip_put h1 o (.inl (1, 1, .inr (.inl (vp_updL f 0 v.toInt64))))).2 = h1.2 := rfl
      refine ip_call (r := some (.int v)) (h' := h1) (a := ([Value.ref x, .int a, .int b].map (ip_cv (ip_ad off sa))).toArray) (rest := [Value.int 0, .ref o].map (ip_cv (ip_ad off sa)))
        (va_runV (As := [Value.int a, .int b].map (ip_cv (ip_ad off sa))) (b := ip_ad off sa x) (rest := [Value.int 0, .ref o].map (ip_cv (ip_ad off sa))) (g := F0 m 5 lsC ([Value.int b, .int a, .ref x, .int 0, .ref o].map (ip_cv (ip_ad off sa)))) (H := H) (locs := locs) (cells := 0) (slots := 0) (below := below) (meth := meth) (l := l) (e := e) hfix hMet (hcw _ _)
          ⟨ip_blind, hrecv, fun U hU hW => ⟨rfl, ip_pre C hr U hU hW⟩⟩ rfl rfl hlv.2.1 rfl (by simp [ip_cv, F0, Value.category]) hdg ⟨by rw [Nat.zero_add]; exact hA _, by rw [Nat.zero_add]; exact hB _⟩) hS ?_
      intro H1 locs1 z1 z2 z3
      have hr1 : ip_R off sa D dA im_w.2.2.1 s h1 _ lsC H1 locs1 := ⟨hlv, z1, z2, z3⟩
      refine ip_stp (pc := 8) (ins := .i2l) (len := 1) (r1 := 0) (r2 := 0) (r3 := 0) (st := [.int v, .int 0, .ref o]) C (fun z => absurd z (by decide)) rfl (by decide +kernel) rfl rfl rfl (by rw [Nat.zero_add]; exact hA _) (by rw [Nat.zero_add]; exact hB _) (fun lsC H locs hr => ?_) hr1
      have hst9 : ∀ ls, ip_st L xs .lastore 9 0 0 0 ls [.long v.toInt64, .int 0, .ref o] h1 = some (10, ls, [], ip_put h1 o (.inl (1, 1, .inr (.inl (vp_updL f 0 v.toInt64))))) := fun ls => by
        simp only [ip_st, ip_ril, harr, ip_al]
        rfl
      refine ip_stp (pc := 9) (ins := .lastore) (len := 1) (r1 := 0) (r2 := 0) (r3 := 0) C (fun z => absurd z (by decide)) rfl (by decide +kernel) (hst9 _) e1 e2 (by rw [Nat.zero_add]; exact hA _) (by rw [Nat.zero_add]; exact hB _) (fun lsC H locs hr => ?_) hr
      refine ip_stp (pc := 10) (ins := .goto 7) (len := 3) (r1 := 17) (r2 := 0) (r3 := 0) C (fun z => absurd z (by decide)) rfl (by decide +kernel) rfl rfl rfl (by rw [Nat.zero_add]; exact hA _) (by rw [Nat.zero_add]; exact hB _) (fun lsC H locs hr => ?_) hr
      refine ip_stp (pc := 17) (ins := .iconst 0) (len := 1) (r1 := 0) (r2 := 0) (r3 := 0) C (fun z => absurd z (by decide)) rfl (by decide +kernel) rfl rfl rfl (by rw [Nat.zero_add]; exact hA _) (by rw [Nat.zero_add]; exact hB _) (fun lsC H locs hr => ?_) hr
      obtain ⟨hlv, hsz9, hP9, hS⟩ := id hr
      have hret := W.iret (p := p) (l := l) (e := e) (R := ip_rm (d + 1) ((ip_put h1 o (.inl (1, 1, .inr (.inl (vp_updL f 0 v.toInt64))))).1.length - h.1.length) ((ip_put h1 o (.inl (1, 1, .inr (.inl (vp_updL f 0 v.toInt64))))).2 - h.2)) (s := s) (m := m) (below := below) (meth := meth) (c := c) (cc := method_3_code) (H := H) (locs := locs) (pc := 18) (ls := lsC) (v := 0) (cells := (ip_put h1 o (.inl (1, 1, .inr (.inl (vp_updL f 0 v.toInt64))))).1.length - h.1.length) (slots := (ip_put h1 o (.inl (1, 1, .inr (.inl (vp_updL f 0 v.toInt64))))).2 - h.2) (Qc := ip_Q off sa D dA (some (.int 0)) (ip_put h1 o (.inl (1, 1, .inr (.inl (vp_updL f 0 v.toInt64)))))) (args := ([Value.ref x, .int a, .int b, .ref o].map (ip_cv (ip_ad off sa))).toArray) hx hb (by rw [hrt]; rfl) (fun t9 ht9 hW9 => ⟨rfl, by rw [ht9]; exact hsz9, by rw [ht9]; exact hP9, hS.F ht9⟩) hS.2.2 (by decide +kernel) hlocks
      exact W.widen (by rw [Nat.zero_add]; exact hA _) (by rw [Nat.zero_add]; exact hB _) hret
    · cases hor
  · cases hor
theorem ip_ho (hall : ∀ M ∈ ip_ms, ip_chk M = true) (hl : l.stackTraces = false) : ip_HO l off sa D dA L xs := by
  intro d n h x o a b r q hd hrc hrun hor p e R s m args below meth c H locs cells slots Q M pc ls lsC rest C hM12 hdg hr hw hRf hRl hcl hsl K
  obtain ⟨hx, hb, hrt, hmL, hown, htb, hlocks, hnm, hK, hSx, hoff⟩ := id C
  obtain ⟨hlv, hsz, hP, hS⟩ := id hr
  have hMet := ip_ordW (l := l) (off := off) (sa := sa) (D := D) (dA := dA) hall hl hd hrc hrun hor
  have hwR : 2 * (F0 m pc lsC ((Value.ref o :: .int b :: .int a :: .ref x :: rest).map (ip_cv (ip_ad off sa)))).monitorRoom + ((rest.map (ip_cv (ip_ad off sa))).map fun v => v.category).sum ≤ 8 := by
    refine lv_room ?_
    rw [List.map_map, show ((fun v : Value => v.category) ∘ ip_cv (ip_ad off sa)) = fun v : Value => v.category from funext fun v => ip_cv_cat _ v]
    exact hw
  have hfix : CallFix p m c M.2.1 M.2.2.1 s args ip_tb (ip_on M.2.2.2.2.1) := ⟨hx, hb, hmL, hown, htb⟩
  refine ip_call (r := some q.1) (h' := q.2) (a := ([Value.ref x, .int a, .int b, .ref o].map (ip_cv (ip_ad off sa))).toArray) (rest := rest.map (ip_cv (ip_ad off sa)))
    (vx_runSW (As := [Value.ref x, .int a, .int b, .ref o].map (ip_cv (ip_ad off sa))) (rest := rest.map (ip_cv (ip_ad off sa))) (g := F0 m pc lsC ((Value.ref o :: .int b :: .int a :: .ref x :: rest).map (ip_cv (ip_ad off sa)))) (H := H) (locs := locs) (cells := cells) (slots := slots) (below := below) (meth := meth) (l := l) (e := e) (bytes := method_3_code) (maxL := 5) (ret := some .int) (hh := [(0, 10, 13, 13)]) hfix hMet
      (vx_cwSW (ws' := ip_tb) 4 htb (ip_tb_good (ws := va_wsS (ip_on M.2.2.2.2.1) 48 ip_no (ip_cw :: ip_tb)) (fun w hw9 => by
        unfold va_wsS at hw9
        rcases List.mem_append.mp hw9 with z | z
        · simp only [List.mem_cons, List.not_mem_nil, or_false] at z
          rcases z with rfl | rfl | rfl
          · rw [hM12]; exact ip_hw_in _ (by simp [ip_hw, ip_on, ip_own])
          · exact ip_hw_in _ (by simp [ip_hw])
          · exact ip_hw_in _ (by simp [ip_hw, ip_no])
        · exact (List.mem_cons.mp z).elim (fun z => by rw [z]; exact ip_cw_in) (fun z => z)) (fun _ z => z)) rfl rfl rfl ⟨by decide, by decide, by decide⟩ ⟨by simp only [ip_rm]; omega, by simp only [ip_rm]; omega⟩)
      ⟨ip_blind, fun U hU hW => ⟨rfl, ip_pre C hr U hU hW⟩⟩ rfl rfl hlv.2.1 rfl hwR hdg ⟨hcl, hsl⟩) hS ?_
  intro H1 locs1 z1 z2 z3
  exact K lsC H1 locs1 ⟨hlv, z1, z2, z3⟩
end HO
