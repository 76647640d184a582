/-! THE LAW: its walk out of the run of its method (the skeleton's words first) -/
def R_law : String := "LeaderlessOrderLaw"
def lw_P (b : Addr) (xs : List Int32) (args : Array Value) (s : State) : Prop := args = #[.ref b] ∧ s.IntsAt b xs ∧ xs.length ≤ 3584 ∧ (Jvm.Cond.and given_1 narrow_1).before args s = true
def lw_Q (_ : Array Value) (s : State) (o : Outcome) (t : State) : Prop := o = .returned (some (.int 1)) ∧ Framed s o t [] 601024 7293034
def lw_Z (below : List Frame) (a : Array Value) (s : State) : State → Prop := fun t => ∃ o, t.status = .running ∧ Ended t below o ∧ lw_Q a s o t
/-- the law's own end, with 1 on the stack, nothing written that was there before, its room as the claim has it -/
theorem lw_ret {p : Program} {l : Launch} {e : Env} {s : State} {m : MethodId} {below : List Frame} {meth : Method} {c : Code} {b : Nat} (hx : p.tables.exec = Jvm.exec) (hb : c.code = code) (hr : meth.sig.returnType = ret) (hlocks : meth.locks = false) {pc : Nat} {H : Heap} {ls : Array Slot} (hdg : decode code pc = .ok (.ireturn, 1)) : W p l e room_1 s m #[Value.ref b] below meth c H [] 601024 7293034 (lw_Z below #[Value.ref b] s) (F0 m pc ls [.int 1]) := by
  intro T hT X
  obtain ⟨fs, hret, hrun, hended, hW, hframe⟩ := X.leave (v := some (.int 1)) (hlocks := hlocks) (fun h => by rw [hr] at h; cases h)
  have hmeth' : T.vm.method? m = some meth := X.method'
  refine ⟨T.setFrames fs, ?_, .returned (some (.int 1)), hrun, hended, rfl, ⟨_, rfl⟩, hW, hframe⟩
  jvm_step X.here [X.here.top, hx, hb, hdg, hmeth', hr, ret, narrow_b1]
  (try refine ⟨rfl, ?_⟩); (try refine ⟨rfl, ?_⟩)
  first | (intro acts; rw [hret _ acts rfl rfl rfl]) | rw [hret _ _ rfl rfl rfl]
  exact Steps.refl _
/-- what holds at the law's entry: the machine, the code, the tables' words (any of lw_tbl by 'hts w (by decide +kernel)'), the script of L ints xs at the cell b, what the Statement gives of the start (any of its parts by flat_of_before) -/
def lw_At (p : Program) (s : State) (m : MethodId) (meth : Method) (c : Code) (b L : Nat) (xs : Nat → Int32) : Prop :=
  p.tables.exec = Jvm.exec ∧ c.code = code ∧ meth.sig.returnType = ret ∧ c.maxLocals = 7 ∧ s.vm.findClass R_law = some m.cls ∧ (∀ w ∈ lw_tbl, w.before #[Value.ref b] s = true) ∧ va_X b L xs s s.heap ∧ b < s.heap.size ∧ meth.locks = false ∧ (Jvm.Cond.and given_1 narrow_1).before #[Value.ref b] s = true

/-- what is left: the run of the law's method over the script gives 1, within the room -/
def ip_Pure (L : Nat) (xs : Nat → Int32) : Prop := ∃ (n d : Nat) (hf : Hp), d ≤ 1000 ∧ ip_run L xs n d 0 0 (ip_loc [.ref 31] 7) [] ([], 0) = some (some (.int 1), hf) ∧ hf.1.length ≤ 601024 ∧ hf.2 ≤ 7293034
theorem ip_endL {p : Program} {l : Launch} {e : Env} {s : State} {m : MethodId} {below : List Frame} {meth : Method} {c : Code} {sa : Nat → Nat} {D : va_G} {dA : Nat → ClassId} {b : Nat} {hf : Hp} (hx : p.tables.exec = Jvm.exec) (hb : c.code = code) (hr : meth.sig.returnType = ret) (hlocks : meth.locks = false)
    (h1 : hf.1.length ≤ 601024) (h2 : hf.2 ≤ 7293034) : ip_E p l e room_1 s m #[Value.ref b] below meth c (lw_Z below #[Value.ref b] s) s.heap.size sa D dA im_0 (some (.int 1)) hf hf.1.length hf.2 := by
  intro pc ins len r1 r2 r3 ls lsC H locs st hmem hd hr9 hcase
  rcases hcase with ⟨-, -, -, hrr⟩ | ⟨hk0, hk5, hlen, hret⟩
  · cases hrr
  · obtain ⟨hlv, hsz, hP, hS⟩ := hr9
    unfold ip_ret at hret
    split at hret
    · split at hret <;> cases hret
    · split at hret
      · rename_i v hc
        cases hret
        rcases ip_kr hk0 hk5 with rfl | rfl | rfl | rfl
        · exact absurd hc (by simp [ip_k, ip_rok])
        · cases hlen
          refine va_forget (fun q hq => hS.2.2 q hq) ?_
          refine W.widen h1 h2 ?_
          exact lw_ret hx hb hr hlocks hd
        · exact absurd hc (by simp [ip_k, ip_rok])
        · exact absurd hc (by simp [ip_k, ip_rok])
      · cases hret
    · cases hret
theorem ip_law (hall : ∀ M ∈ ip_ms, ip_chk M = true) {p : Program} {e : Env} {s : State} {m : MethodId} {below : List Frame} {meth : Method} {c : Code} (l : Launch) {b L : Nat} {xs : Nat → Int32} (HO : ∀ off sa D dA, ip_HO l off sa D dA L xs) (hp : ip_Pure L xs) (C0 : lw_At p s m meth c b L xs) :
    W p l e room_1 s m #[Value.ref b] below meth c s.heap [] 0 0 (lw_Z below #[Value.ref b] s) (entryFrame m ([Value.ref b] : List Value).toArray 7) := by
  obtain ⟨hx, hb, hr, hml, hown, hts, hX, hbl, hlocks, hgv⟩ := id C0
  obtain ⟨sa, D, dA, h31, hSx, hK⟩ := ip_start hts hX hbl hgv
  obtain ⟨n, d, hf, hd, hrun, h1, h2⟩ := hp
  have C : ip_C s.heap.size sa D dA L xs im_0 p s m #[Value.ref b] meth c := ⟨hx, hb, hr, hml, hown, fun w hw => hts w (List.mem_filter.mp hw).1, hlocks, (fun z => absurd z (by decide)), hK, hSx, Nat.le_refl _⟩
  have hcv : ([Value.ref b] : List Value) = [Value.ref 31].map (ip_cv (ip_ad s.heap.size sa)) := by
    show [Value.ref b] = [Value.ref (ip_ad s.heap.size sa 31)]
    rw [ip_ad_lo (by decide), h31]
  have hP : va_P D ip_cl (ip_W s.heap.size (ip_ad s.heap.size sa) dA ([] : List AC)) s.heap := fun k q h => by simp [ip_W] at h
  have key : W p l e room_1 s m #[Value.ref b] below meth c s.heap [] 0 0 (lw_Z below #[Value.ref b] s) (entryFrame m ([Value.ref 31].map (ip_cv (ip_ad s.heap.size sa))).toArray 7) := by
    rw [lg_entry_eq]
    exact ip_body (y := 0) (M := im_0) (d := d) hall (fun _ => HO _ _ _ _) rfl C (show d ≤ 2048 by omega) (show 64 * d ≤ 84000 by omega) (fun d' _ n' y' M' vs' g1 v g2 a1 a2 a3 a4 a5 => ip_sound hall d' n' y' M' vs' g1 v g2 a1 a2 a3 a4 a5) (CE := hf.1.length) (SE := hf.2) h1 h2 (ip_endL hx hb hr hlocks h1 h2) n 0 _ [] ([], 0) _ s.heap [] 0 0 hrun ⟨ip_entry _ [Value.ref 31] (n := 7) (by decide), rfl, hP, va_S.rf⟩ (by simp) (by simp)
  rw [← hcv] at key
  exact key
